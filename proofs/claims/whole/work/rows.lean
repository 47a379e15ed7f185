section
-- ===== PART A: goes FIRST, ahead of the names: the tables' words, and 'selects' of the private methods out of them =====
/-- a private method of a class that the tables say can be made, by its rows of tables_1 -/
def lw_okq (q : MethodName × Nat) : Prop := (q.1.cls ≠ "java/lang/invoke/MethodHandle" ∧ q.1.cls ≠ "java/lang/invoke/VarHandle") ∧ Cond.instantiable q.1.cls q.2 ∈ tables_1 ∧ Cond.privateMethod q.1 ∈ tables_1 ∧ Cond.instanceMethod q.1 ∈ tables_1
theorem lw_p0 : lw_okq (⟨"WhoseThread$Text", "step", "()V"⟩, 5) := ⟨⟨by decide +kernel, by decide +kernel⟩, List.mem_of_getElem? (i := 25) (by decide +kernel), List.mem_of_getElem? (i := 286) (by decide +kernel), List.mem_of_getElem? (i := 287) (by decide +kernel)⟩
theorem lw_p1 : lw_okq (⟨"WhoseThread$Text", "clauseStands", "(LWhoseThread$Telling;)Z"⟩, 5) := ⟨⟨by decide +kernel, by decide +kernel⟩, List.mem_of_getElem? (i := 25) (by decide +kernel), List.mem_of_getElem? (i := 293) (by decide +kernel), List.mem_of_getElem? (i := 294) (by decide +kernel)⟩
theorem lw_p2 : lw_okq (⟨"WhoseThread$Text", "word", "()I"⟩, 5) := ⟨⟨by decide +kernel, by decide +kernel⟩, List.mem_of_getElem? (i := 25) (by decide +kernel), List.mem_of_getElem? (i := 297) (by decide +kernel), List.mem_of_getElem? (i := 298) (by decide +kernel)⟩
theorem lw_p3 : lw_okq (⟨"WhoseThread$Text", "isWord", "(Ljava/lang/String;)Z"⟩, 5) := ⟨⟨by decide +kernel, by decide +kernel⟩, List.mem_of_getElem? (i := 25) (by decide +kernel), List.mem_of_getElem? (i := 302) (by decide +kernel), List.mem_of_getElem? (i := 303) (by decide +kernel)⟩
theorem lw_p4 : lw_okq (⟨"WhoseThread$Text", "overStands", "(LWhoseThread$Telling;)Z"⟩, 5) := ⟨⟨by decide +kernel, by decide +kernel⟩, List.mem_of_getElem? (i := 25) (by decide +kernel), List.mem_of_getElem? (i := 376) (by decide +kernel), List.mem_of_getElem? (i := 377) (by decide +kernel)⟩
theorem lw_p5 : lw_okq (⟨"WhoseThread$Text", "number", "(II)I"⟩, 5) := ⟨⟨by decide +kernel, by decide +kernel⟩, List.mem_of_getElem? (i := 25) (by decide +kernel), List.mem_of_getElem? (i := 380) (by decide +kernel), List.mem_of_getElem? (i := 381) (by decide +kernel)⟩
theorem lw_p6 : lw_okq (⟨"WhoseThread$Text", "knotStands", "(LWhoseThread$Telling;)Z"⟩, 5) := ⟨⟨by decide +kernel, by decide +kernel⟩, List.mem_of_getElem? (i := 25) (by decide +kernel), List.mem_of_getElem? (i := 397) (by decide +kernel), List.mem_of_getElem? (i := 398) (by decide +kernel)⟩
theorem lw_p7 : lw_okq (⟨"WhoseThread$Text", "orderStands", "(LWhoseThread$Telling;)Z"⟩, 5) := ⟨⟨by decide +kernel, by decide +kernel⟩, List.mem_of_getElem? (i := 25) (by decide +kernel), List.mem_of_getElem? (i := 401) (by decide +kernel), List.mem_of_getElem? (i := 402) (by decide +kernel)⟩
theorem lw_p8 : lw_okq (⟨"WhoseThread$Text", "threadStands", "(LWhoseThread$Telling;I)Z"⟩, 5) := ⟨⟨by decide +kernel, by decide +kernel⟩, List.mem_of_getElem? (i := 25) (by decide +kernel), List.mem_of_getElem? (i := 409) (by decide +kernel), List.mem_of_getElem? (i := 410) (by decide +kernel)⟩
theorem lw_p9 : lw_okq (⟨"WhoseThread", "known", "(I)Z"⟩, 10) := ⟨⟨by decide +kernel, by decide +kernel⟩, List.mem_of_getElem? (i := 17) (by decide +kernel), List.mem_of_getElem? (i := 435) (by decide +kernel), List.mem_of_getElem? (i := 436) (by decide +kernel)⟩
theorem lw_p10 : lw_okq (⟨"WhoseThread", "knownPair", "(II)Z"⟩, 10) := ⟨⟨by decide +kernel, by decide +kernel⟩, List.mem_of_getElem? (i := 17) (by decide +kernel), List.mem_of_getElem? (i := 527) (by decide +kernel), List.mem_of_getElem? (i := 528) (by decide +kernel)⟩
theorem lw_p11 : lw_okq (⟨"WhoseThread$Loom", "endDay", "()V"⟩, 9) := ⟨⟨by decide +kernel, by decide +kernel⟩, List.mem_of_getElem? (i := 106) (by decide +kernel), List.mem_of_getElem? (i := 560) (by decide +kernel), List.mem_of_getElem? (i := 561) (by decide +kernel)⟩
theorem lw_p12 : lw_okq (⟨"WhoseThread", "lossAt", "(I)I"⟩, 10) := ⟨⟨by decide +kernel, by decide +kernel⟩, List.mem_of_getElem? (i := 17) (by decide +kernel), List.mem_of_getElem? (i := 595) (by decide +kernel), List.mem_of_getElem? (i := 596) (by decide +kernel)⟩
theorem lw_p13 : lw_okq (⟨"WhoseThread$Dealing", "addDay", "(I)V"⟩, 7) := ⟨⟨by decide +kernel, by decide +kernel⟩, List.mem_of_getElem? (i := 174) (by decide +kernel), List.mem_of_getElem? (i := 616) (by decide +kernel), List.mem_of_getElem? (i := 617) (by decide +kernel)⟩
theorem lw_p14 : lw_okq (⟨"WhoseThread$Dealing", "dealFrom", "(IIIII)V"⟩, 7) := ⟨⟨by decide +kernel, by decide +kernel⟩, List.mem_of_getElem? (i := 174) (by decide +kernel), List.mem_of_getElem? (i := 622) (by decide +kernel), List.mem_of_getElem? (i := 623) (by decide +kernel)⟩
theorem lw_p15 : lw_okq (⟨"WhoseThread$Dealing", "take", "(I)V"⟩, 7) := ⟨⟨by decide +kernel, by decide +kernel⟩, List.mem_of_getElem? (i := 174) (by decide +kernel), List.mem_of_getElem? (i := 626) (by decide +kernel), List.mem_of_getElem? (i := 627) (by decide +kernel)⟩
def lw_privs_1 : List (MethodName × Nat) := [(⟨"WhoseThread$Text", "step", "()V"⟩, 5), (⟨"WhoseThread$Text", "clauseStands", "(LWhoseThread$Telling;)Z"⟩, 5), (⟨"WhoseThread$Text", "word", "()I"⟩, 5), (⟨"WhoseThread$Text", "isWord", "(Ljava/lang/String;)Z"⟩, 5), (⟨"WhoseThread$Text", "overStands", "(LWhoseThread$Telling;)Z"⟩, 5), (⟨"WhoseThread$Text", "number", "(II)I"⟩, 5), (⟨"WhoseThread$Text", "knotStands", "(LWhoseThread$Telling;)Z"⟩, 5), (⟨"WhoseThread$Text", "orderStands", "(LWhoseThread$Telling;)Z"⟩, 5), (⟨"WhoseThread$Text", "threadStands", "(LWhoseThread$Telling;I)Z"⟩, 5), (⟨"WhoseThread", "known", "(I)Z"⟩, 10), (⟨"WhoseThread", "knownPair", "(II)Z"⟩, 10), (⟨"WhoseThread$Loom", "endDay", "()V"⟩, 9), (⟨"WhoseThread", "lossAt", "(I)I"⟩, 10), (⟨"WhoseThread$Dealing", "addDay", "(I)V"⟩, 7), (⟨"WhoseThread$Dealing", "dealFrom", "(IIIII)V"⟩, 7), (⟨"WhoseThread$Dealing", "take", "(I)V"⟩, 7)]
theorem lw_r1 : ∀ q ∈ lw_privs_1, lw_okq q := List.forall_mem_cons.mpr ⟨lw_p0, List.forall_mem_cons.mpr ⟨lw_p1, List.forall_mem_cons.mpr ⟨lw_p2, List.forall_mem_cons.mpr ⟨lw_p3, List.forall_mem_cons.mpr ⟨lw_p4, List.forall_mem_cons.mpr ⟨lw_p5, List.forall_mem_cons.mpr ⟨lw_p6, List.forall_mem_cons.mpr ⟨lw_p7, List.forall_mem_cons.mpr ⟨lw_p8, List.forall_mem_cons.mpr ⟨lw_p9, List.forall_mem_cons.mpr ⟨lw_p10, List.forall_mem_cons.mpr ⟨lw_p11, List.forall_mem_cons.mpr ⟨lw_p12, List.forall_mem_cons.mpr ⟨lw_p13, List.forall_mem_cons.mpr ⟨lw_p14, List.forall_mem_cons.mpr ⟨lw_p15, fun _ h => absurd h List.not_mem_nil⟩⟩⟩⟩⟩⟩⟩⟩⟩⟩⟩⟩⟩⟩⟩⟩
theorem lw_p16 : lw_okq (⟨"WhoseThread$Dealing", "isAhead", "()Z"⟩, 7) := ⟨⟨by decide +kernel, by decide +kernel⟩, List.mem_of_getElem? (i := 174) (by decide +kernel), List.mem_of_getElem? (i := 630) (by decide +kernel), List.mem_of_getElem? (i := 631) (by decide +kernel)⟩
theorem lw_p17 : lw_okq (⟨"WhoseThread$Dealing", "dealTo", "(IIIII)V"⟩, 7) := ⟨⟨by decide +kernel, by decide +kernel⟩, List.mem_of_getElem? (i := 174) (by decide +kernel), List.mem_of_getElem? (i := 637) (by decide +kernel), List.mem_of_getElem? (i := 638) (by decide +kernel)⟩
theorem lw_p18 : lw_okq (⟨"WhoseThread$Tailing", "giveFrom", "(III)V"⟩, 5) := ⟨⟨by decide +kernel, by decide +kernel⟩, List.mem_of_getElem? (i := 204) (by decide +kernel), List.mem_of_getElem? (i := 651) (by decide +kernel), List.mem_of_getElem? (i := 652) (by decide +kernel)⟩
theorem lw_p19 : lw_okq (⟨"WhoseThread$Tailing", "take", "(I)V"⟩, 5) := ⟨⟨by decide +kernel, by decide +kernel⟩, List.mem_of_getElem? (i := 204) (by decide +kernel), List.mem_of_getElem? (i := 655) (by decide +kernel), List.mem_of_getElem? (i := 656) (by decide +kernel)⟩
theorem lw_p20 : lw_okq (⟨"WhoseThread$Tailing", "fits", "(II)Z"⟩, 5) := ⟨⟨by decide +kernel, by decide +kernel⟩, List.mem_of_getElem? (i := 204) (by decide +kernel), List.mem_of_getElem? (i := 662) (by decide +kernel), List.mem_of_getElem? (i := 663) (by decide +kernel)⟩
theorem lw_p21 : lw_okq (⟨"WhoseThread$Tailing", "giveTo", "(IIII)V"⟩, 5) := ⟨⟨by decide +kernel, by decide +kernel⟩, List.mem_of_getElem? (i := 204) (by decide +kernel), List.mem_of_getElem? (i := 666) (by decide +kernel), List.mem_of_getElem? (i := 667) (by decide +kernel)⟩
theorem lw_p22 : lw_okq (⟨"WhoseThreadModel", "readText", "()Z"⟩, 33) := ⟨⟨by decide +kernel, by decide +kernel⟩, List.mem_of_getElem? (i := 709) (by decide +kernel), List.mem_of_getElem? (i := 832) (by decide +kernel), List.mem_of_getElem? (i := 833) (by decide +kernel)⟩
theorem lw_p23 : lw_okq (⟨"WhoseThreadModel", "nextToken", "()V"⟩, 33) := ⟨⟨by decide +kernel, by decide +kernel⟩, List.mem_of_getElem? (i := 709) (by decide +kernel), List.mem_of_getElem? (i := 836) (by decide +kernel), List.mem_of_getElem? (i := 837) (by decide +kernel)⟩
theorem lw_p24 : lw_okq (⟨"WhoseThreadModel", "letterAt", "(I)I"⟩, 33) := ⟨⟨by decide +kernel, by decide +kernel⟩, List.mem_of_getElem? (i := 709) (by decide +kernel), List.mem_of_getElem? (i := 840) (by decide +kernel), List.mem_of_getElem? (i := 841) (by decide +kernel)⟩
theorem lw_p25 : lw_okq (⟨"WhoseThreadModel", "readClause", "()Z"⟩, 33) := ⟨⟨by decide +kernel, by decide +kernel⟩, List.mem_of_getElem? (i := 709) (by decide +kernel), List.mem_of_getElem? (i := 848) (by decide +kernel), List.mem_of_getElem? (i := 849) (by decide +kernel)⟩
theorem lw_p26 : lw_okq (⟨"WhoseThreadModel", "verb", "()I"⟩, 33) := ⟨⟨by decide +kernel, by decide +kernel⟩, List.mem_of_getElem? (i := 709) (by decide +kernel), List.mem_of_getElem? (i := 852) (by decide +kernel), List.mem_of_getElem? (i := 853) (by decide +kernel)⟩
theorem lw_p27 : lw_okq (⟨"WhoseThreadModel", "wordOf", "()J"⟩, 33) := ⟨⟨by decide +kernel, by decide +kernel⟩, List.mem_of_getElem? (i := 709) (by decide +kernel), List.mem_of_getElem? (i := 856) (by decide +kernel), List.mem_of_getElem? (i := 857) (by decide +kernel)⟩
theorem lw_p28 : lw_okq (⟨"WhoseThreadModel", "readThread", "(I)Z"⟩, 33) := ⟨⟨by decide +kernel, by decide +kernel⟩, List.mem_of_getElem? (i := 709) (by decide +kernel), List.mem_of_getElem? (i := 864) (by decide +kernel), List.mem_of_getElem? (i := 865) (by decide +kernel)⟩
theorem lw_p29 : lw_okq (⟨"WhoseThreadModel", "number", "(II)I"⟩, 33) := ⟨⟨by decide +kernel, by decide +kernel⟩, List.mem_of_getElem? (i := 709) (by decide +kernel), List.mem_of_getElem? (i := 868) (by decide +kernel), List.mem_of_getElem? (i := 869) (by decide +kernel)⟩
theorem lw_p30 : lw_okq (⟨"WhoseThreadModel", "readTwo", "(I)Z"⟩, 33) := ⟨⟨by decide +kernel, by decide +kernel⟩, List.mem_of_getElem? (i := 709) (by decide +kernel), List.mem_of_getElem? (i := 872) (by decide +kernel), List.mem_of_getElem? (i := 873) (by decide +kernel)⟩
theorem lw_p31 : lw_okq (⟨"WhoseThreadModel", "isThread", "(I)Z"⟩, 33) := ⟨⟨by decide +kernel, by decide +kernel⟩, List.mem_of_getElem? (i := 709) (by decide +kernel), List.mem_of_getElem? (i := 890) (by decide +kernel), List.mem_of_getElem? (i := 891) (by decide +kernel)⟩
def lw_privs_2 : List (MethodName × Nat) := [(⟨"WhoseThread$Dealing", "isAhead", "()Z"⟩, 7), (⟨"WhoseThread$Dealing", "dealTo", "(IIIII)V"⟩, 7), (⟨"WhoseThread$Tailing", "giveFrom", "(III)V"⟩, 5), (⟨"WhoseThread$Tailing", "take", "(I)V"⟩, 5), (⟨"WhoseThread$Tailing", "fits", "(II)Z"⟩, 5), (⟨"WhoseThread$Tailing", "giveTo", "(IIII)V"⟩, 5), (⟨"WhoseThreadModel", "readText", "()Z"⟩, 33), (⟨"WhoseThreadModel", "nextToken", "()V"⟩, 33), (⟨"WhoseThreadModel", "letterAt", "(I)I"⟩, 33), (⟨"WhoseThreadModel", "readClause", "()Z"⟩, 33), (⟨"WhoseThreadModel", "verb", "()I"⟩, 33), (⟨"WhoseThreadModel", "wordOf", "()J"⟩, 33), (⟨"WhoseThreadModel", "readThread", "(I)Z"⟩, 33), (⟨"WhoseThreadModel", "number", "(II)I"⟩, 33), (⟨"WhoseThreadModel", "readTwo", "(I)Z"⟩, 33), (⟨"WhoseThreadModel", "isThread", "(I)Z"⟩, 33)]
theorem lw_r2 : ∀ q ∈ lw_privs_2, lw_okq q := List.forall_mem_cons.mpr ⟨lw_p16, List.forall_mem_cons.mpr ⟨lw_p17, List.forall_mem_cons.mpr ⟨lw_p18, List.forall_mem_cons.mpr ⟨lw_p19, List.forall_mem_cons.mpr ⟨lw_p20, List.forall_mem_cons.mpr ⟨lw_p21, List.forall_mem_cons.mpr ⟨lw_p22, List.forall_mem_cons.mpr ⟨lw_p23, List.forall_mem_cons.mpr ⟨lw_p24, List.forall_mem_cons.mpr ⟨lw_p25, List.forall_mem_cons.mpr ⟨lw_p26, List.forall_mem_cons.mpr ⟨lw_p27, List.forall_mem_cons.mpr ⟨lw_p28, List.forall_mem_cons.mpr ⟨lw_p29, List.forall_mem_cons.mpr ⟨lw_p30, List.forall_mem_cons.mpr ⟨lw_p31, fun _ h => absurd h List.not_mem_nil⟩⟩⟩⟩⟩⟩⟩⟩⟩⟩⟩⟩⟩⟩⟩⟩
theorem lw_p32 : lw_okq (⟨"WhoseThreadModel", "yearsOf", "(I)I"⟩, 33) := ⟨⟨by decide +kernel, by decide +kernel⟩, List.mem_of_getElem? (i := 709) (by decide +kernel), List.mem_of_getElem? (i := 899) (by decide +kernel), List.mem_of_getElem? (i := 900) (by decide +kernel)⟩
theorem lw_p33 : lw_okq (⟨"WhoseThreadModel", "isWhole", "(I)Z"⟩, 33) := ⟨⟨by decide +kernel, by decide +kernel⟩, List.mem_of_getElem? (i := 709) (by decide +kernel), List.mem_of_getElem? (i := 903) (by decide +kernel), List.mem_of_getElem? (i := 904) (by decide +kernel)⟩
theorem lw_p34 : lw_okq (⟨"WhoseThreadModel", "topOf", "(I)I"⟩, 33) := ⟨⟨by decide +kernel, by decide +kernel⟩, List.mem_of_getElem? (i := 709) (by decide +kernel), List.mem_of_getElem? (i := 915) (by decide +kernel), List.mem_of_getElem? (i := 916) (by decide +kernel)⟩
theorem lw_p35 : lw_okq (⟨"WhoseThreadModel", "wholes", "()I"⟩, 33) := ⟨⟨by decide +kernel, by decide +kernel⟩, List.mem_of_getElem? (i := 709) (by decide +kernel), List.mem_of_getElem? (i := 919) (by decide +kernel), List.mem_of_getElem? (i := 920) (by decide +kernel)⟩
theorem lw_p36 : lw_okq (⟨"WhoseThreadModel", "note", "()V"⟩, 33) := ⟨⟨by decide +kernel, by decide +kernel⟩, List.mem_of_getElem? (i := 709) (by decide +kernel), List.mem_of_getElem? (i := 927) (by decide +kernel), List.mem_of_getElem? (i := 928) (by decide +kernel)⟩
theorem lw_p37 : lw_okq (⟨"WhoseThreadModel", "cutNow", "(I)I"⟩, 33) := ⟨⟨by decide +kernel, by decide +kernel⟩, List.mem_of_getElem? (i := 709) (by decide +kernel), List.mem_of_getElem? (i := 931) (by decide +kernel), List.mem_of_getElem? (i := 932) (by decide +kernel)⟩
theorem lw_p38 : lw_okq (⟨"WhoseThreadModel", "fallsOn", "(I)I"⟩, 33) := ⟨⟨by decide +kernel, by decide +kernel⟩, List.mem_of_getElem? (i := 709) (by decide +kernel), List.mem_of_getElem? (i := 935) (by decide +kernel), List.mem_of_getElem? (i := 936) (by decide +kernel)⟩
theorem lw_p39 : lw_okq (⟨"WhoseThreadModel", "lossOf", "(I)I"⟩, 33) := ⟨⟨by decide +kernel, by decide +kernel⟩, List.mem_of_getElem? (i := 709) (by decide +kernel), List.mem_of_getElem? (i := 939) (by decide +kernel), List.mem_of_getElem? (i := 940) (by decide +kernel)⟩
theorem lw_p40 : lw_okq (⟨"WhoseThreadModel", "areTwo", "(II)Z"⟩, 33) := ⟨⟨by decide +kernel, by decide +kernel⟩, List.mem_of_getElem? (i := 709) (by decide +kernel), List.mem_of_getElem? (i := 950) (by decide +kernel), List.mem_of_getElem? (i := 951) (by decide +kernel)⟩
theorem lw_p41 : lw_okq (⟨"WhoseThreadModel", "liesOver", "(I)I"⟩, 33) := ⟨⟨by decide +kernel, by decide +kernel⟩, List.mem_of_getElem? (i := 709) (by decide +kernel), List.mem_of_getElem? (i := 958) (by decide +kernel), List.mem_of_getElem? (i := 959) (by decide +kernel)⟩
theorem lw_p42 : lw_okq (⟨"WhoseThreadModel", "asTold", "()V"⟩, 33) := ⟨⟨by decide +kernel, by decide +kernel⟩, List.mem_of_getElem? (i := 709) (by decide +kernel), List.mem_of_getElem? (i := 976) (by decide +kernel), List.mem_of_getElem? (i := 977) (by decide +kernel)⟩
theorem lw_p43 : lw_okq (⟨"WhoseThreadModel", "oneDay", "()I"⟩, 33) := ⟨⟨by decide +kernel, by decide +kernel⟩, List.mem_of_getElem? (i := 709) (by decide +kernel), List.mem_of_getElem? (i := 980) (by decide +kernel), List.mem_of_getElem? (i := 981) (by decide +kernel)⟩
theorem lw_p44 : lw_okq (⟨"WhoseThreadModel", "doomBy", "()I"⟩, 33) := ⟨⟨by decide +kernel, by decide +kernel⟩, List.mem_of_getElem? (i := 709) (by decide +kernel), List.mem_of_getElem? (i := 1012) (by decide +kernel), List.mem_of_getElem? (i := 1013) (by decide +kernel)⟩
theorem lw_p45 : lw_okq (⟨"WhoseThreadModel", "exchange", "(II)V"⟩, 33) := ⟨⟨by decide +kernel, by decide +kernel⟩, List.mem_of_getElem? (i := 709) (by decide +kernel), List.mem_of_getElem? (i := 1021) (by decide +kernel), List.mem_of_getElem? (i := 1022) (by decide +kernel)⟩
theorem lw_p46 : lw_okq (⟨"WhoseThreadModel", "nextRow", "(I)Z"⟩, 33) := ⟨⟨by decide +kernel, by decide +kernel⟩, List.mem_of_getElem? (i := 709) (by decide +kernel), List.mem_of_getElem? (i := 1025) (by decide +kernel), List.mem_of_getElem? (i := 1026) (by decide +kernel)⟩
theorem lw_p47 : lw_okq (⟨"WhoseThreadModel", "findMosts", "()V"⟩, 33) := ⟨⟨by decide +kernel, by decide +kernel⟩, List.mem_of_getElem? (i := 709) (by decide +kernel), List.mem_of_getElem? (i := 1033) (by decide +kernel), List.mem_of_getElem? (i := 1034) (by decide +kernel)⟩
def lw_privs_3 : List (MethodName × Nat) := [(⟨"WhoseThreadModel", "yearsOf", "(I)I"⟩, 33), (⟨"WhoseThreadModel", "isWhole", "(I)Z"⟩, 33), (⟨"WhoseThreadModel", "topOf", "(I)I"⟩, 33), (⟨"WhoseThreadModel", "wholes", "()I"⟩, 33), (⟨"WhoseThreadModel", "note", "()V"⟩, 33), (⟨"WhoseThreadModel", "cutNow", "(I)I"⟩, 33), (⟨"WhoseThreadModel", "fallsOn", "(I)I"⟩, 33), (⟨"WhoseThreadModel", "lossOf", "(I)I"⟩, 33), (⟨"WhoseThreadModel", "areTwo", "(II)Z"⟩, 33), (⟨"WhoseThreadModel", "liesOver", "(I)I"⟩, 33), (⟨"WhoseThreadModel", "asTold", "()V"⟩, 33), (⟨"WhoseThreadModel", "oneDay", "()I"⟩, 33), (⟨"WhoseThreadModel", "doomBy", "()I"⟩, 33), (⟨"WhoseThreadModel", "exchange", "(II)V"⟩, 33), (⟨"WhoseThreadModel", "nextRow", "(I)Z"⟩, 33), (⟨"WhoseThreadModel", "findMosts", "()V"⟩, 33)]
theorem lw_r3 : ∀ q ∈ lw_privs_3, lw_okq q := List.forall_mem_cons.mpr ⟨lw_p32, List.forall_mem_cons.mpr ⟨lw_p33, List.forall_mem_cons.mpr ⟨lw_p34, List.forall_mem_cons.mpr ⟨lw_p35, List.forall_mem_cons.mpr ⟨lw_p36, List.forall_mem_cons.mpr ⟨lw_p37, List.forall_mem_cons.mpr ⟨lw_p38, List.forall_mem_cons.mpr ⟨lw_p39, List.forall_mem_cons.mpr ⟨lw_p40, List.forall_mem_cons.mpr ⟨lw_p41, List.forall_mem_cons.mpr ⟨lw_p42, List.forall_mem_cons.mpr ⟨lw_p43, List.forall_mem_cons.mpr ⟨lw_p44, List.forall_mem_cons.mpr ⟨lw_p45, List.forall_mem_cons.mpr ⟨lw_p46, List.forall_mem_cons.mpr ⟨lw_p47, fun _ h => absurd h List.not_mem_nil⟩⟩⟩⟩⟩⟩⟩⟩⟩⟩⟩⟩⟩⟩⟩⟩
theorem lw_p48 : lw_okq (⟨"WhoseThreadModel", "tailOf", "(I)I"⟩, 33) := ⟨⟨by decide +kernel, by decide +kernel⟩, List.mem_of_getElem? (i := 709) (by decide +kernel), List.mem_of_getElem? (i := 1037) (by decide +kernel), List.mem_of_getElem? (i := 1038) (by decide +kernel)⟩
theorem lw_p49 : lw_okq (⟨"WhoseThreadModel", "mayHave", "(II)Z"⟩, 33) := ⟨⟨by decide +kernel, by decide +kernel⟩, List.mem_of_getElem? (i := 709) (by decide +kernel), List.mem_of_getElem? (i := 1041) (by decide +kernel), List.mem_of_getElem? (i := 1042) (by decide +kernel)⟩
theorem lw_p50 : lw_okq (⟨"WhoseThreadModel", "canGive", "(II)I"⟩, 33) := ⟨⟨by decide +kernel, by decide +kernel⟩, List.mem_of_getElem? (i := 709) (by decide +kernel), List.mem_of_getElem? (i := 1049) (by decide +kernel), List.mem_of_getElem? (i := 1050) (by decide +kernel)⟩
def lw_privs_4 : List (MethodName × Nat) := [(⟨"WhoseThreadModel", "tailOf", "(I)I"⟩, 33), (⟨"WhoseThreadModel", "mayHave", "(II)Z"⟩, 33), (⟨"WhoseThreadModel", "canGive", "(II)I"⟩, 33)]
theorem lw_r4 : ∀ q ∈ lw_privs_4, lw_okq q := List.forall_mem_cons.mpr ⟨lw_p48, List.forall_mem_cons.mpr ⟨lw_p49, List.forall_mem_cons.mpr ⟨lw_p50, fun _ h => absurd h List.not_mem_nil⟩⟩⟩
def lw_privs : List (MethodName × Nat) := lw_privs_1 ++ (lw_privs_2 ++ (lw_privs_3 ++ (lw_privs_4)))
def lw_tbl : List Cond := k2_sels lw_privs ++ tables_1
theorem lw_privs_ok : ∀ q ∈ lw_privs, lw_okq q := by
  show ∀ q ∈ lw_privs_1 ++ (lw_privs_2 ++ (lw_privs_3 ++ (lw_privs_4))), lw_okq q
  exact List.forall_mem_append.mpr ⟨lw_r1, List.forall_mem_append.mpr ⟨lw_r2, List.forall_mem_append.mpr ⟨lw_r3, lw_r4⟩⟩⟩

def RX0 : String := "WhoseThread$Dealing"
def TX0 : u_T := fun k => match k with
  | 0 => ("WhoseThread$Dealing", "told", "LWhoseThread$Telling;", true)
  | 1 => ("WhoseThread$Dealing", "now", "LWhoseThread$Loom;", true)
  | 2 => ("WhoseThread$Dealing", "days", "[I", true)
  | 3 => ("WhoseThread$Dealing", "row", "[I", true)
  | 4 => ("WhoseThread$Dealing", "slots", "I", false)
  | 5 => ("WhoseThread$Dealing", "first", "[I", true)
  | _ => ("WhoseThread$Dealing", "least", "I", false)
def tyX0 : Nat → FieldType := fun k => match k with
  | 0 => .object "WhoseThread$Telling"
  | 1 => .object "WhoseThread$Loom"
  | 2 => .array .int
  | 3 => .array .int
  | 4 => .int
  | 5 => .array .int
  | _ => .int
abbrev wsX00 : List Cond := u_ws RX0 TX0 7
theorem nmX0 : ∀ a, a < 7 → ∀ b, b < 7 → a ≠ b → (TX0 a).2.1 ≠ (TX0 b).2.1 := by decide +kernel
theorem tyX0_ok : ∀ k, k < 7 → parseFieldDescriptor (TX0 k).2.2.1 = some (tyX0 k) := by decide +kernel
abbrev cX0_init : ByteArray := prog_2_method_1_code
def yX0_init : MethodName := ⟨RX0, "<init>", "(LWhoseThread$Telling;LWhoseThread$Loom;)V"⟩
abbrev cX0_deal : ByteArray := prog_2_method_2_code
def yX0_deal : MethodName := ⟨RX0, "deal", "()V"⟩
abbrev cX0_addDay : ByteArray := prog_2_method_3_code
def yX0_addDay : MethodName := ⟨RX0, "addDay", "(I)V"⟩
abbrev cX0_dealFrom : ByteArray := prog_2_method_4_code
def yX0_dealFrom : MethodName := ⟨RX0, "dealFrom", "(IIIII)V"⟩
abbrev cX0_dealTo : ByteArray := prog_2_method_5_code
def yX0_dealTo : MethodName := ⟨RX0, "dealTo", "(IIIII)V"⟩
abbrev cX0_take : ByteArray := prog_2_method_6_code
def yX0_take : MethodName := ⟨RX0, "take", "(I)V"⟩
abbrev cX0_isAhead : ByteArray := prog_2_method_7_code
def yX0_isAhead : MethodName := ⟨RX0, "isAhead", "()Z"⟩
def RX1 : String := "WhoseThread$Loom"
def TX1 : u_T := fun k => match k with
  | 0 => ("WhoseThread$Loom", "told", "LWhoseThread$Telling;", true)
  | 1 => ("WhoseThread$Loom", "day", "I", false)
  | 2 => ("WhoseThread$Loom", "lost", "I", false)
  | 3 => ("WhoseThread$Loom", "whole", "I", false)
  | 4 => ("WhoseThread$Loom", "cut", "I", false)
  | 5 => ("WhoseThread$Loom", "colours", "[I", true)
  | 6 => ("WhoseThread$Loom", "over", "[I", true)
  | 7 => ("WhoseThread$Loom", "knots", "[I", true)
  | _ => ("WhoseThread$Loom", "cutDays", "[I", true)
def tyX1 : Nat → FieldType := fun k => match k with
  | 0 => .object "WhoseThread$Telling"
  | 1 => .int
  | 2 => .int
  | 3 => .int
  | 4 => .int
  | 5 => .array .int
  | 6 => .array .int
  | 7 => .array .int
  | _ => .array .int
abbrev wsX10 : List Cond := u_ws RX1 TX1 9
theorem nmX1 : ∀ a, a < 9 → ∀ b, b < 9 → a ≠ b → (TX1 a).2.1 ≠ (TX1 b).2.1 := by decide +kernel
theorem tyX1_ok : ∀ k, k < 9 → parseFieldDescriptor (TX1 k).2.2.1 = some (tyX1 k) := by decide +kernel
abbrev cX1_init : ByteArray := prog_3_method_1_code
def yX1_init : MethodName := ⟨RX1, "<init>", "(LWhoseThread$Telling;)V"⟩
abbrev cX1_begin : ByteArray := prog_3_method_2_code
def yX1_begin : MethodName := ⟨RX1, "begin", "()V"⟩
abbrev cX1_copyFrom : ByteArray := prog_3_method_3_code
def yX1_copyFrom : MethodName := ⟨RX1, "copyFrom", "(LWhoseThread$Loom;)V"⟩
abbrev cX1_isWhole : ByteArray := prog_3_method_4_code
def yX1_isWhole : MethodName := ⟨RX1, "isWhole", "(I)Z"⟩
abbrev cX1_fateOf : ByteArray := prog_3_method_5_code
def yX1_fateOf : MethodName := ⟨RX1, "fateOf", "(I)I"⟩
abbrev cX1_topOf : ByteArray := prog_3_method_6_code
def yX1_topOf : MethodName := ⟨RX1, "topOf", "(II)I"⟩
abbrev cX1_fallOf : ByteArray := prog_3_method_7_code
def yX1_fallOf : MethodName := ⟨RX1, "fallOf", "(II)I"⟩
abbrev cX1_cutAt : ByteArray := prog_3_method_8_code
def yX1_cutAt : MethodName := ⟨RX1, "cutAt", "(I)I"⟩
abbrev cX1_endDays : ByteArray := prog_3_method_9_code
def yX1_endDays : MethodName := ⟨RX1, "endDays", "(I)V"⟩
abbrev cX1_endDay : ByteArray := prog_3_method_10_code
def yX1_endDay : MethodName := ⟨RX1, "endDay", "()V"⟩
abbrev cX1_liesOver : ByteArray := prog_3_method_11_code
def yX1_liesOver : MethodName := ⟨RX1, "liesOver", "(I)I"⟩
abbrev cX1_takeOff : ByteArray := prog_3_method_12_code
def yX1_takeOff : MethodName := ⟨RX1, "takeOff", "(I)V"⟩
abbrev cX1_canGive : ByteArray := prog_3_method_13_code
def yX1_canGive : MethodName := ⟨RX1, "canGive", "(II)I"⟩
def RX2 : String := "WhoseThread$Past"
def TX2 : u_T := fun k => match k with
  | 0 => ("WhoseThread$Past", "ring", "[LWhoseThread$Loom;", true)
  | 1 => ("WhoseThread$Past", "next", "I", false)
  | _ => ("WhoseThread$Past", "held", "I", false)
def tyX2 : Nat → FieldType := fun k => match k with
  | 0 => .array (.object "WhoseThread$Loom")
  | 1 => .int
  | _ => .int
abbrev wsX20 : List Cond := u_ws RX2 TX2 3
theorem nmX2 : ∀ a, a < 3 → ∀ b, b < 3 → a ≠ b → (TX2 a).2.1 ≠ (TX2 b).2.1 := by decide +kernel
theorem tyX2_ok : ∀ k, k < 3 → parseFieldDescriptor (TX2 k).2.2.1 = some (tyX2 k) := by decide +kernel
abbrev cX2_init : ByteArray := prog_4_method_1_code
def yX2_init : MethodName := ⟨RX2, "<init>", "(LWhoseThread$Telling;)V"⟩
abbrev cX2_remember : ByteArray := prog_4_method_2_code
def yX2_remember : MethodName := ⟨RX2, "remember", "(LWhoseThread$Loom;)V"⟩
abbrev cX2_bringBack : ByteArray := prog_4_method_3_code
def yX2_bringBack : MethodName := ⟨RX2, "bringBack", "(LWhoseThread$Loom;)V"⟩
def RX3 : String := "WhoseThread$Tailing"
def TX3 : u_T := fun k => match k with
  | 0 => ("WhoseThread$Tailing", "told", "LWhoseThread$Telling;", true)
  | 1 => ("WhoseThread$Tailing", "now", "LWhoseThread$Loom;", true)
  | 2 => ("WhoseThread$Tailing", "row", "[I", true)
  | 3 => ("WhoseThread$Tailing", "first", "[I", true)
  | _ => ("WhoseThread$Tailing", "most", "I", false)
def tyX3 : Nat → FieldType := fun k => match k with
  | 0 => .object "WhoseThread$Telling"
  | 1 => .object "WhoseThread$Loom"
  | 2 => .array .int
  | 3 => .array .int
  | _ => .int
abbrev wsX30 : List Cond := u_ws RX3 TX3 5
theorem nmX3 : ∀ a, a < 5 → ∀ b, b < 5 → a ≠ b → (TX3 a).2.1 ≠ (TX3 b).2.1 := by decide +kernel
theorem tyX3_ok : ∀ k, k < 5 → parseFieldDescriptor (TX3 k).2.2.1 = some (tyX3 k) := by decide +kernel
abbrev cX3_init : ByteArray := prog_5_method_1_code
def yX3_init : MethodName := ⟨RX3, "<init>", "(LWhoseThread$Telling;LWhoseThread$Loom;)V"⟩
abbrev cX3_give : ByteArray := prog_5_method_2_code
def yX3_give : MethodName := ⟨RX3, "give", "()V"⟩
abbrev cX3_giveFrom : ByteArray := prog_5_method_3_code
def yX3_giveFrom : MethodName := ⟨RX3, "giveFrom", "(III)V"⟩
abbrev cX3_giveTo : ByteArray := prog_5_method_4_code
def yX3_giveTo : MethodName := ⟨RX3, "giveTo", "(IIII)V"⟩
abbrev cX3_fits : ByteArray := prog_5_method_5_code
def yX3_fits : MethodName := ⟨RX3, "fits", "(II)Z"⟩
abbrev cX3_take : ByteArray := prog_5_method_6_code
def yX3_take : MethodName := ⟨RX3, "take", "(I)V"⟩
def RX4 : String := "WhoseThread$Telling"
def TX4 : u_T := fun k => match k with
  | 0 => ("WhoseThread$Telling", "threads", "I", false)
  | 1 => ("WhoseThread$Telling", "orders", "I", false)
  | 2 => ("WhoseThread$Telling", "kinds", "[I", true)
  | 3 => ("WhoseThread$Telling", "lengths", "[I", true)
  | 4 => ("WhoseThread$Telling", "colours", "[I", true)
  | 5 => ("WhoseThread$Telling", "over", "[I", true)
  | 6 => ("WhoseThread$Telling", "knots", "[I", true)
  | 7 => ("WhoseThread$Telling", "orderThreads", "[I", true)
  | _ => ("WhoseThread$Telling", "orderDays", "[I", true)
def tyX4 : Nat → FieldType := fun k => match k with
  | 0 => .int
  | 1 => .int
  | 2 => .array .int
  | 3 => .array .int
  | 4 => .array .int
  | 5 => .array .int
  | 6 => .array .int
  | 7 => .array .int
  | _ => .array .int
abbrev wsX40 : List Cond := u_ws RX4 TX4 9
theorem nmX4 : ∀ a, a < 9 → ∀ b, b < 9 → a ≠ b → (TX4 a).2.1 ≠ (TX4 b).2.1 := by decide +kernel
theorem tyX4_ok : ∀ k, k < 9 → parseFieldDescriptor (TX4 k).2.2.1 = some (tyX4 k) := by decide +kernel
abbrev cX4_init : ByteArray := prog_6_method_1_code
def yX4_init : MethodName := ⟨RX4, "<init>", "()V"⟩
abbrev cX4_copyFrom : ByteArray := prog_6_method_2_code
def yX4_copyFrom : MethodName := ⟨RX4, "copyFrom", "(LWhoseThread$Telling;)V"⟩
abbrev cX4_hasRoomFor : ByteArray := prog_6_method_3_code
def yX4_hasRoomFor : MethodName := ⟨RX4, "hasRoomFor", "(I)Z"⟩
abbrev cX4_addThread : ByteArray := prog_6_method_4_code
def yX4_addThread : MethodName := ⟨RX4, "addThread", "(III)V"⟩
abbrev cX4_addOrder : ByteArray := prog_6_method_5_code
def yX4_addOrder : MethodName := ⟨RX4, "addOrder", "(II)V"⟩
abbrev cX4_empty : ByteArray := prog_6_method_6_code
def yX4_empty : MethodName := ⟨RX4, "empty", "()V"⟩
abbrev cX4_loosen : ByteArray := prog_6_method_7_code
def yX4_loosen : MethodName := ⟨RX4, "loosen", "()V"⟩
abbrev cX4_all : ByteArray := prog_6_method_8_code
def yX4_all : MethodName := ⟨RX4, "all", "()I"⟩
abbrev cX4_isOf : ByteArray := prog_6_method_9_code
def yX4_isOf : MethodName := ⟨RX4, "isOf", "(II)Z"⟩
abbrev cX4_isEndless : ByteArray := prog_6_method_10_code
def yX4_isEndless : MethodName := ⟨RX4, "isEndless", "(I)Z"⟩
abbrev cX4_yearsOn : ByteArray := prog_6_method_11_code
def yX4_yearsOn : MethodName := ⟨RX4, "yearsOn", "(II)I"⟩
abbrev cX4_lossOf : ByteArray := prog_6_method_12_code
def yX4_lossOf : MethodName := ⟨RX4, "lossOf", "(II)I"⟩
abbrev cX4_lasting : ByteArray := prog_6_method_13_code
def yX4_lasting : MethodName := ⟨RX4, "lasting", "(II)I"⟩
def RX5 : String := "WhoseThread$Text"
def TX5 : u_T := fun k => match k with
  | 0 => ("WhoseThread$Text", "letters", "[I", true)
  | 1 => ("WhoseThread$Text", "length", "I", false)
  | 2 => ("WhoseThread$Text", "clauses", "I", false)
  | 3 => ("WhoseThread$Text", "begin", "I", false)
  | _ => ("WhoseThread$Text", "end", "I", false)
def tyX5 : Nat → FieldType := fun k => match k with
  | 0 => .array .int
  | 1 => .int
  | 2 => .int
  | 3 => .int
  | _ => .int
abbrev wsX50 : List Cond := u_ws RX5 TX5 5
theorem nmX5 : ∀ a, a < 5 → ∀ b, b < 5 → a ≠ b → (TX5 a).2.1 ≠ (TX5 b).2.1 := by decide +kernel
theorem tyX5_ok : ∀ k, k < 5 → parseFieldDescriptor (TX5 k).2.2.1 = some (tyX5 k) := by decide +kernel
abbrev cX5_init : ByteArray := prog_7_method_1_code
def yX5_init : MethodName := ⟨RX5, "<init>", "()V"⟩
abbrev cX5_add : ByteArray := prog_7_method_2_code
def yX5_add : MethodName := ⟨RX5, "add", "(I)V"⟩
abbrev cX5_firstFault : ByteArray := prog_7_method_3_code
def yX5_firstFault : MethodName := ⟨RX5, "firstFault", "(LWhoseThread$Telling;)I"⟩
abbrev cX5_clauseStands : ByteArray := prog_7_method_4_code
def yX5_clauseStands : MethodName := ⟨RX5, "clauseStands", "(LWhoseThread$Telling;)Z"⟩
abbrev cX5_threadStands : ByteArray := prog_7_method_5_code
def yX5_threadStands : MethodName := ⟨RX5, "threadStands", "(LWhoseThread$Telling;I)Z"⟩
abbrev cX5_overStands : ByteArray := prog_7_method_6_code
def yX5_overStands : MethodName := ⟨RX5, "overStands", "(LWhoseThread$Telling;)Z"⟩
abbrev cX5_knotStands : ByteArray := prog_7_method_7_code
def yX5_knotStands : MethodName := ⟨RX5, "knotStands", "(LWhoseThread$Telling;)Z"⟩
abbrev cX5_orderStands : ByteArray := prog_7_method_8_code
def yX5_orderStands : MethodName := ⟨RX5, "orderStands", "(LWhoseThread$Telling;)Z"⟩
abbrev cX5_step : ByteArray := prog_7_method_9_code
def yX5_step : MethodName := ⟨RX5, "step", "()V"⟩
abbrev cX5_sortOf : ByteArray := prog_7_method_10_code
def yX5_sortOf : MethodName := ⟨RX5, "sortOf", "(I)I"⟩
abbrev cX5_number : ByteArray := prog_7_method_11_code
def yX5_number : MethodName := ⟨RX5, "number", "(II)I"⟩
abbrev cX5_word : ByteArray := prog_7_method_12_code
def yX5_word : MethodName := ⟨RX5, "word", "()I"⟩
abbrev cX5_isWord : ByteArray := prog_7_method_13_code
def yX5_isWord : MethodName := ⟨RX5, "isWord", "(Ljava/lang/String;)Z"⟩
def RX6 : String := "WhoseThread"
def TX6 : u_T := fun k => match k with
  | 0 => ("WhoseThread", "text", "LWhoseThread$Text;", true)
  | 1 => ("WhoseThread", "told", "LWhoseThread$Telling;", true)
  | 2 => ("WhoseThread", "trial", "LWhoseThread$Telling;", true)
  | 3 => ("WhoseThread", "now", "LWhoseThread$Loom;", true)
  | 4 => ("WhoseThread", "spare", "LWhoseThread$Loom;", true)
  | 5 => ("WhoseThread", "past", "LWhoseThread$Past;", true)
  | 6 => ("WhoseThread", "kept", "[LWhoseThread$Loom;", true)
  | 7 => ("WhoseThread", "keptBits", "I", false)
  | 8 => ("WhoseThread", "dealing", "LWhoseThread$Dealing;", true)
  | _ => ("WhoseThread", "tailing", "LWhoseThread$Tailing;", true)
def tyX6 : Nat → FieldType := fun k => match k with
  | 0 => .object "WhoseThread$Text"
  | 1 => .object "WhoseThread$Telling"
  | 2 => .object "WhoseThread$Telling"
  | 3 => .object "WhoseThread$Loom"
  | 4 => .object "WhoseThread$Loom"
  | 5 => .object "WhoseThread$Past"
  | 6 => .array (.object "WhoseThread$Loom")
  | 7 => .int
  | 8 => .object "WhoseThread$Dealing"
  | _ => .object "WhoseThread$Tailing"
abbrev wsX60 : List Cond := u_ws RX6 TX6 10
theorem nmX6 : ∀ a, a < 10 → ∀ b, b < 10 → a ≠ b → (TX6 a).2.1 ≠ (TX6 b).2.1 := by decide +kernel
theorem tyX6_ok : ∀ k, k < 10 → parseFieldDescriptor (TX6 k).2.2.1 = some (tyX6 k) := by decide +kernel
abbrev cX6_init : ByteArray := prog_1_method_1_code
def yX6_init : MethodName := ⟨RX6, "<init>", "()V"⟩
abbrev cX6_write : ByteArray := prog_1_method_2_code
def yX6_write : MethodName := ⟨RX6, "write", "(I)I"⟩
abbrev cX6_erase : ByteArray := prog_1_method_3_code
def yX6_erase : MethodName := ⟨RX6, "erase", "()I"⟩
abbrev cX6_fault : ByteArray := prog_1_method_4_code
def yX6_fault : MethodName := ⟨RX6, "fault", "()I"⟩
abbrev cX6_loom : ByteArray := prog_1_method_5_code
def yX6_loom : MethodName := ⟨RX6, "loom", "()I"⟩
abbrev cX6_thread : ByteArray := prog_1_method_6_code
def yX6_thread : MethodName := ⟨RX6, "thread", "(II)I"⟩
abbrev cX6_as : ByteArray := prog_1_method_7_code
def yX6_as : MethodName := ⟨RX6, "as", "(II)I"⟩
abbrev cX6_order : ByteArray := prog_1_method_8_code
def yX6_order : MethodName := ⟨RX6, "order", "(II)I"⟩
abbrev cX6_top : ByteArray := prog_1_method_9_code
def yX6_top : MethodName := ⟨RX6, "top", "(I)I"⟩
abbrev cX6_cut : ByteArray := prog_1_method_10_code
def yX6_cut : MethodName := ⟨RX6, "cut", "(I)I"⟩
abbrev cX6_put : ByteArray := prog_1_method_11_code
def yX6_put : MethodName := ⟨RX6, "put", "(II)I"⟩
abbrev cX6_lift : ByteArray := prog_1_method_12_code
def yX6_lift : MethodName := ⟨RX6, "lift", "(I)I"⟩
abbrev cX6_knot : ByteArray := prog_1_method_13_code
def yX6_knot : MethodName := ⟨RX6, "knot", "(III)I"⟩
abbrev cX6_dye : ByteArray := prog_1_method_14_code
def yX6_dye : MethodName := ⟨RX6, "dye", "(II)I"⟩
abbrev cX6_go : ByteArray := prog_1_method_15_code
def yX6_go : MethodName := ⟨RX6, "go", "(I)I"⟩
abbrev cX6_undo : ByteArray := prog_1_method_16_code
def yX6_undo : MethodName := ⟨RX6, "undo", "()I"⟩
abbrev cX6_keep : ByteArray := prog_1_method_17_code
def yX6_keep : MethodName := ⟨RX6, "keep", "(I)I"⟩
abbrev cX6_back : ByteArray := prog_1_method_18_code
def yX6_back : MethodName := ⟨RX6, "back", "(I)I"⟩
abbrev cX6_takes : ByteArray := prog_1_method_19_code
def yX6_takes : MethodName := ⟨RX6, "takes", "(I)I"⟩
abbrev cX6_loss : ByteArray := prog_1_method_20_code
def yX6_loss : MethodName := ⟨RX6, "loss", "(I)I"⟩
abbrev cX6_lifts : ByteArray := prog_1_method_21_code
def yX6_lifts : MethodName := ⟨RX6, "lifts", "(II)I"⟩
abbrev cX6_doom : ByteArray := prog_1_method_22_code
def yX6_doom : MethodName := ⟨RX6, "doom", "(I)I"⟩
abbrev cX6_swapped : ByteArray := prog_1_method_23_code
def yX6_swapped : MethodName := ⟨RX6, "swapped", "(I)I"⟩
abbrev cX6_tails : ByteArray := prog_1_method_24_code
def yX6_tails : MethodName := ⟨RX6, "tails", "(I)I"⟩
abbrev cX6_given : ByteArray := prog_1_method_25_code
def yX6_given : MethodName := ⟨RX6, "given", "(III)I"⟩
abbrev cX6_cat : ByteArray := prog_1_method_26_code
def yX6_cat : MethodName := ⟨RX6, "cat", "(II)I"⟩
abbrev cX6_mean : ByteArray := prog_1_method_27_code
def yX6_mean : MethodName := ⟨RX6, "mean", "(I)I"⟩
abbrev cX6_whose : ByteArray := prog_1_method_28_code
def yX6_whose : MethodName := ⟨RX6, "whose", "(I)I"⟩
abbrev cX6_fourth : ByteArray := prog_1_method_29_code
def yX6_fourth : MethodName := ⟨RX6, "fourth", "(I)I"⟩
abbrev cX6_count : ByteArray := prog_1_method_30_code
def yX6_count : MethodName := ⟨RX6, "count", "(I)I"⟩
abbrev cX6_known : ByteArray := prog_1_method_31_code
def yX6_known : MethodName := ⟨RX6, "known", "(I)Z"⟩
abbrev cX6_knownPair : ByteArray := prog_1_method_32_code
def yX6_knownPair : MethodName := ⟨RX6, "knownPair", "(II)Z"⟩
abbrev cX6_lossAt : ByteArray := prog_1_method_33_code
def yX6_lossAt : MethodName := ⟨RX6, "lossAt", "(I)I"⟩
abbrev cX6_bit : ByteArray := prog_1_method_34_code
def yX6_bit : MethodName := ⟨RX6, "bit", "(I)I"⟩
abbrev cX6_has : ByteArray := prog_1_method_35_code
def yX6_has : MethodName := ⟨RX6, "has", "(II)Z"⟩
abbrev cX6_bitsIn : ByteArray := prog_1_method_36_code
def yX6_bitsIn : MethodName := ⟨RX6, "bitsIn", "([I)I"⟩
abbrev cX6_lowest : ByteArray := prog_1_method_37_code
def yX6_lowest : MethodName := ⟨RX6, "lowest", "(III)I"⟩
abbrev cX6_spread : ByteArray := prog_1_method_38_code
def yX6_spread : MethodName := ⟨RX6, "spread", "([III)I"⟩
abbrev cX6_makesRing : ByteArray := prog_1_method_39_code
def yX6_makesRing : MethodName := ⟨RX6, "makesRing", "([III)Z"⟩
def RX7 : String := "WhoseThreadModel"
def TX7 : u_T := fun k => match k with
  | 0 => ("WhoseThreadModel", "kinds", "[I", true)
  | 1 => ("WhoseThreadModel", "lengths", "[I", true)
  | 2 => ("WhoseThreadModel", "threads", "I", false)
  | 3 => ("WhoseThreadModel", "whom", "[I", true)
  | 4 => ("WhoseThreadModel", "when", "[I", true)
  | 5 => ("WhoseThreadModel", "orders", "I", false)
  | 6 => ("WhoseThreadModel", "toldAs", "[I", true)
  | 7 => ("WhoseThreadModel", "st", "[I", true)
  | 8 => ("WhoseThreadModel", "text", "[I", true)
  | 9 => ("WhoseThreadModel", "letters", "I", false)
  | 10 => ("WhoseThreadModel", "place", "I", false)
  | 11 => ("WhoseThreadModel", "token", "I", false)
  | 12 => ("WhoseThreadModel", "value", "I", false)
  | 13 => ("WhoseThreadModel", "begins", "I", false)
  | 14 => ("WhoseThreadModel", "readThreads", "I", false)
  | 15 => ("WhoseThreadModel", "readTold", "[I", true)
  | 16 => ("WhoseThreadModel", "readOvers", "[I", true)
  | 17 => ("WhoseThreadModel", "readKnots", "[I", true)
  | 18 => ("WhoseThreadModel", "readOrders", "I", false)
  | 19 => ("WhoseThreadModel", "readWhom", "[I", true)
  | 20 => ("WhoseThreadModel", "readWhen", "[I", true)
  | 21 => ("WhoseThreadModel", "clauses", "I", false)
  | 22 => ("WhoseThreadModel", "ahead", "[I", true)
  | 23 => ("WhoseThreadModel", "undoMany", "I", false)
  | 24 => ("WhoseThreadModel", "overNow", "[I", true)
  | 25 => ("WhoseThreadModel", "dueOn", "[I", true)
  | 26 => ("WhoseThreadModel", "isKept", "[Z", true)
  | 27 => ("WhoseThreadModel", "kept", "[I", true)
  | 28 => ("WhoseThreadModel", "aside", "[I", true)
  | 29 => ("WhoseThreadModel", "doomed", "I", false)
  | 30 => ("WhoseThreadModel", "open", "[I", true)
  | 31 => ("WhoseThreadModel", "bestDays", "[I", true)
  | _ => ("WhoseThreadModel", "mosts", "[I", true)
def tyX7 : Nat → FieldType := fun k => match k with
  | 0 => .array .int
  | 1 => .array .int
  | 2 => .int
  | 3 => .array .int
  | 4 => .array .int
  | 5 => .int
  | 6 => .array .int
  | 7 => .array .int
  | 8 => .array .int
  | 9 => .int
  | 10 => .int
  | 11 => .int
  | 12 => .int
  | 13 => .int
  | 14 => .int
  | 15 => .array .int
  | 16 => .array .int
  | 17 => .array .int
  | 18 => .int
  | 19 => .array .int
  | 20 => .array .int
  | 21 => .int
  | 22 => .array .int
  | 23 => .int
  | 24 => .array .int
  | 25 => .array .int
  | 26 => .array .boolean
  | 27 => .array .int
  | 28 => .array .int
  | 29 => .int
  | 30 => .array .int
  | 31 => .array .int
  | _ => .array .int
abbrev wsX70 : List Cond := u_ws RX7 TX7 33
theorem nmX7 : ∀ a, a < 33 → ∀ b, b < 33 → a ≠ b → (TX7 a).2.1 ≠ (TX7 b).2.1 := by decide +kernel
theorem tyX7_ok : ∀ k, k < 33 → parseFieldDescriptor (TX7 k).2.2.1 = some (tyX7 k) := by decide +kernel
abbrev cX7_init : ByteArray := prog_9_method_1_code
def yX7_init : MethodName := ⟨RX7, "<init>", "()V"⟩
abbrev cX7_in : ByteArray := prog_9_method_2_code
def yX7_in : MethodName := ⟨RX7, "in", "(JJJ)Z"⟩
abbrev cX7_has : ByteArray := prog_9_method_3_code
def yX7_has : MethodName := ⟨RX7, "has", "(II)Z"⟩
abbrev cX7_ones : ByteArray := prog_9_method_4_code
def yX7_ones : MethodName := ⟨RX7, "ones", "(I)I"⟩
abbrev cX7_isThread : ByteArray := prog_9_method_5_code
def yX7_isThread : MethodName := ⟨RX7, "isThread", "(I)Z"⟩
abbrev cX7_write : ByteArray := prog_9_method_6_code
def yX7_write : MethodName := ⟨RX7, "write", "(I)I"⟩
abbrev cX7_erase : ByteArray := prog_9_method_7_code
def yX7_erase : MethodName := ⟨RX7, "erase", "()I"⟩
abbrev cX7_letterAt : ByteArray := prog_9_method_8_code
def yX7_letterAt : MethodName := ⟨RX7, "letterAt", "(I)I"⟩
abbrev cX7_nextToken : ByteArray := prog_9_method_9_code
def yX7_nextToken : MethodName := ⟨RX7, "nextToken", "()V"⟩
abbrev cX7_wordOf : ByteArray := prog_9_method_10_code
def yX7_wordOf : MethodName := ⟨RX7, "wordOf", "()J"⟩
abbrev cX7_spelt : ByteArray := prog_9_method_11_code
def yX7_spelt : MethodName := ⟨RX7, "spelt", "(IIIIIII)J"⟩
abbrev cX7_verb : ByteArray := prog_9_method_12_code
def yX7_verb : MethodName := ⟨RX7, "verb", "()I"⟩
abbrev cX7_number : ByteArray := prog_9_method_13_code
def yX7_number : MethodName := ⟨RX7, "number", "(II)I"⟩
abbrev cX7_isAbove : ByteArray := prog_9_method_14_code
def yX7_isAbove : MethodName := ⟨RX7, "isAbove", "([III)Z"⟩
abbrev cX7_readThread : ByteArray := prog_9_method_15_code
def yX7_readThread : MethodName := ⟨RX7, "readThread", "(I)Z"⟩
abbrev cX7_readTwo : ByteArray := prog_9_method_16_code
def yX7_readTwo : MethodName := ⟨RX7, "readTwo", "(I)Z"⟩
abbrev cX7_readClause : ByteArray := prog_9_method_17_code
def yX7_readClause : MethodName := ⟨RX7, "readClause", "()Z"⟩
abbrev cX7_readText : ByteArray := prog_9_method_18_code
def yX7_readText : MethodName := ⟨RX7, "readText", "()Z"⟩
abbrev cX7_fault : ByteArray := prog_9_method_19_code
def yX7_fault : MethodName := ⟨RX7, "fault", "()I"⟩
abbrev cX7_loom : ByteArray := prog_9_method_20_code
def yX7_loom : MethodName := ⟨RX7, "loom", "()I"⟩
abbrev cX7_isWhole : ByteArray := prog_9_method_21_code
def yX7_isWhole : MethodName := ⟨RX7, "isWhole", "(I)Z"⟩
abbrev cX7_wholes : ByteArray := prog_9_method_22_code
def yX7_wholes : MethodName := ⟨RX7, "wholes", "()I"⟩
abbrev cX7_yearsOf : ByteArray := prog_9_method_23_code
def yX7_yearsOf : MethodName := ⟨RX7, "yearsOf", "(I)I"⟩
abbrev cX7_thread : ByteArray := prog_9_method_24_code
def yX7_thread : MethodName := ⟨RX7, "thread", "(II)I"⟩
abbrev cX7_as : ByteArray := prog_9_method_25_code
def yX7_as : MethodName := ⟨RX7, "as", "(II)I"⟩
abbrev cX7_order : ByteArray := prog_9_method_26_code
def yX7_order : MethodName := ⟨RX7, "order", "(II)I"⟩
abbrev cX7_topOf : ByteArray := prog_9_method_27_code
def yX7_topOf : MethodName := ⟨RX7, "topOf", "(I)I"⟩
abbrev cX7_top : ByteArray := prog_9_method_28_code
def yX7_top : MethodName := ⟨RX7, "top", "(I)I"⟩
abbrev cX7_fallsOn : ByteArray := prog_9_method_29_code
def yX7_fallsOn : MethodName := ⟨RX7, "fallsOn", "(I)I"⟩
abbrev cX7_lossOf : ByteArray := prog_9_method_30_code
def yX7_lossOf : MethodName := ⟨RX7, "lossOf", "(I)I"⟩
abbrev cX7_cutNow : ByteArray := prog_9_method_31_code
def yX7_cutNow : MethodName := ⟨RX7, "cutNow", "(I)I"⟩
abbrev cX7_note : ByteArray := prog_9_method_32_code
def yX7_note : MethodName := ⟨RX7, "note", "()V"⟩
abbrev cX7_cut : ByteArray := prog_9_method_33_code
def yX7_cut : MethodName := ⟨RX7, "cut", "(I)I"⟩
abbrev cX7_areTwo : ByteArray := prog_9_method_34_code
def yX7_areTwo : MethodName := ⟨RX7, "areTwo", "(II)Z"⟩
abbrev cX7_put : ByteArray := prog_9_method_35_code
def yX7_put : MethodName := ⟨RX7, "put", "(II)I"⟩
abbrev cX7_liesOver : ByteArray := prog_9_method_36_code
def yX7_liesOver : MethodName := ⟨RX7, "liesOver", "(I)I"⟩
abbrev cX7_lift : ByteArray := prog_9_method_37_code
def yX7_lift : MethodName := ⟨RX7, "lift", "(I)I"⟩
abbrev cX7_knot : ByteArray := prog_9_method_38_code
def yX7_knot : MethodName := ⟨RX7, "knot", "(III)I"⟩
abbrev cX7_dye : ByteArray := prog_9_method_39_code
def yX7_dye : MethodName := ⟨RX7, "dye", "(II)I"⟩
abbrev cX7_oneDay : ByteArray := prog_9_method_40_code
def yX7_oneDay : MethodName := ⟨RX7, "oneDay", "()I"⟩
abbrev cX7_asTold : ByteArray := prog_9_method_41_code
def yX7_asTold : MethodName := ⟨RX7, "asTold", "()V"⟩
abbrev cX7_go : ByteArray := prog_9_method_42_code
def yX7_go : MethodName := ⟨RX7, "go", "(I)I"⟩
abbrev cX7_undo : ByteArray := prog_9_method_43_code
def yX7_undo : MethodName := ⟨RX7, "undo", "()I"⟩
abbrev cX7_keep : ByteArray := prog_9_method_44_code
def yX7_keep : MethodName := ⟨RX7, "keep", "(I)I"⟩
abbrev cX7_back : ByteArray := prog_9_method_45_code
def yX7_back : MethodName := ⟨RX7, "back", "(I)I"⟩
abbrev cX7_takes : ByteArray := prog_9_method_46_code
def yX7_takes : MethodName := ⟨RX7, "takes", "(I)I"⟩
abbrev cX7_loss : ByteArray := prog_9_method_47_code
def yX7_loss : MethodName := ⟨RX7, "loss", "(I)I"⟩
abbrev cX7_lifts : ByteArray := prog_9_method_48_code
def yX7_lifts : MethodName := ⟨RX7, "lifts", "(II)I"⟩
abbrev cX7_doomBy : ByteArray := prog_9_method_49_code
def yX7_doomBy : MethodName := ⟨RX7, "doomBy", "()I"⟩
abbrev cX7_doom : ByteArray := prog_9_method_50_code
def yX7_doom : MethodName := ⟨RX7, "doom", "(I)I"⟩
abbrev cX7_nextRow : ByteArray := prog_9_method_51_code
def yX7_nextRow : MethodName := ⟨RX7, "nextRow", "(I)Z"⟩
abbrev cX7_exchange : ByteArray := prog_9_method_52_code
def yX7_exchange : MethodName := ⟨RX7, "exchange", "(II)V"⟩
abbrev cX7_swapped : ByteArray := prog_9_method_53_code
def yX7_swapped : MethodName := ⟨RX7, "swapped", "(I)I"⟩
abbrev cX7_tailOf : ByteArray := prog_9_method_54_code
def yX7_tailOf : MethodName := ⟨RX7, "tailOf", "(I)I"⟩
abbrev cX7_mayHave : ByteArray := prog_9_method_55_code
def yX7_mayHave : MethodName := ⟨RX7, "mayHave", "(II)Z"⟩
abbrev cX7_findMosts : ByteArray := prog_9_method_56_code
def yX7_findMosts : MethodName := ⟨RX7, "findMosts", "()V"⟩
abbrev cX7_tails : ByteArray := prog_9_method_57_code
def yX7_tails : MethodName := ⟨RX7, "tails", "(I)I"⟩
abbrev cX7_canGive : ByteArray := prog_9_method_58_code
def yX7_canGive : MethodName := ⟨RX7, "canGive", "(II)I"⟩
abbrev cX7_given : ByteArray := prog_9_method_59_code
def yX7_given : MethodName := ⟨RX7, "given", "(III)I"⟩
abbrev cX7_common : ByteArray := prog_9_method_60_code
def yX7_common : MethodName := ⟨RX7, "common", "(II)I"⟩
abbrev cX7_part : ByteArray := prog_9_method_61_code
def yX7_part : MethodName := ⟨RX7, "part", "(III)I"⟩
abbrev cX7_cat : ByteArray := prog_9_method_62_code
def yX7_cat : MethodName := ⟨RX7, "cat", "(II)I"⟩
abbrev cX7_mean : ByteArray := prog_9_method_63_code
def yX7_mean : MethodName := ⟨RX7, "mean", "(I)I"⟩
abbrev cX7_whose : ByteArray := prog_9_method_64_code
def yX7_whose : MethodName := ⟨RX7, "whose", "(I)I"⟩
abbrev cX7_fourth : ByteArray := prog_9_method_65_code
def yX7_fourth : MethodName := ⟨RX7, "fourth", "(I)I"⟩
abbrev cX7_count : ByteArray := prog_9_method_66_code
def yX7_count : MethodName := ⟨RX7, "count", "(I)I"⟩
def RJ6 : String := "java/lang/Integer"
def TJ6 : u_T := fun k => match k with
  | _ => ("", "", "", false)
def tyJ6 : Nat → FieldType := fun k => match k with
  | _ => .int
abbrev wsJ60 : List Cond := u_ws RJ6 TJ6 0
theorem tyJ6_ok : ∀ k, k < 0 → parseFieldDescriptor (TJ6 k).2.2.1 = some (tyJ6 k) := by decide +kernel
abbrev cJ6_numberOfTrailingZeros_0f7a4 : ByteArray := prog_10_method_48_code
def yJ6_numberOfTrailingZeros_0f7a4 : MethodName := ⟨RJ6, "numberOfTrailingZeros", "(I)I"⟩
abbrev cJ6_bitCount_0f7a4 : ByteArray := prog_10_method_49_code
def yJ6_bitCount_0f7a4 : MethodName := ⟨RJ6, "bitCount", "(I)I"⟩
def RJ9 : String := "java/lang/Math"
def TJ9 : u_T := fun k => match k with
  | _ => ("", "", "", false)
def tyJ9 : Nat → FieldType := fun k => match k with
  | _ => .int
abbrev wsJ90 : List Cond := u_ws RJ9 TJ9 0
theorem tyJ9_ok : ∀ k, k < 0 → parseFieldDescriptor (TJ9 k).2.2.1 = some (tyJ9 k) := by decide +kernel
abbrev cJ9_max_7cf53 : ByteArray := prog_11_method_65_code
def yJ9_max_7cf53 : MethodName := ⟨RJ9, "max", "(II)I"⟩
abbrev cJ9_min_7cf53 : ByteArray := prog_11_method_69_code
def yJ9_min_7cf53 : MethodName := ⟨RJ9, "min", "(II)I"⟩
def RJ0 : String := "java/lang/String"
def TJ0 : u_T := fun k => match k with
  | _ => ("", "", "", false)
def tyJ0 : Nat → FieldType := fun k => match k with
  | _ => .int
abbrev wsJ00 : List Cond := u_ws RJ0 TJ0 0
theorem tyJ0_ok : ∀ k, k < 0 → parseFieldDescriptor (TJ0 k).2.2.1 = some (tyJ0 k) := by decide +kernel
abbrev cJ0_length_8abf5 : ByteArray := prog_12_method_54_code
def yJ0_length_8abf5 : MethodName := ⟨RJ0, "length", "()I"⟩
abbrev cJ0_charAt_5068e : ByteArray := prog_12_method_56_code
def yJ0_charAt_5068e : MethodName := ⟨RJ0, "charAt", "(I)C"⟩
abbrev cJ0_coder_7d493 : ByteArray := prog_12_method_152_code
def yJ0_coder_7d493 : MethodName := ⟨RJ0, "coder", "()B"⟩
abbrev cJ0_isLatin1_aae02 : ByteArray := prog_12_method_154_code
def yJ0_isLatin1_aae02 : MethodName := ⟨RJ0, "isLatin1", "()Z"⟩
abbrev cJ0_checkIndex_df160 : ByteArray := prog_12_method_155_code
def yJ0_checkIndex_df160 : MethodName := ⟨RJ0, "checkIndex", "(II)V"⟩
def RJ1 : String := "java/lang/StringLatin1"
def TJ1 : u_T := fun k => match k with
  | _ => ("", "", "", false)
def tyJ1 : Nat → FieldType := fun k => match k with
  | _ => .int
abbrev wsJ10 : List Cond := u_ws RJ1 TJ1 0
theorem tyJ1_ok : ∀ k, k < 0 → parseFieldDescriptor (TJ1 k).2.2.1 = some (tyJ1 k) := by decide +kernel
abbrev cJ1_charAt_3b067 : ByteArray := prog_13_method_2_code
def yJ1_charAt_3b067 : MethodName := ⟨RJ1, "charAt", "([BI)C"⟩
def RJ2 : String := "java/lang/StringUTF16"
def TJ2 : u_T := fun k => match k with
  | _ => ("", "", "", false)
def tyJ2 : Nat → FieldType := fun k => match k with
  | _ => .int
abbrev wsJ20 : List Cond := u_ws RJ2 TJ2 0
theorem tyJ2_ok : ∀ k, k < 0 → parseFieldDescriptor (TJ2 k).2.2.1 = some (tyJ2 k) := by decide +kernel
abbrev cJ2_getChar_3b067 : ByteArray := prog_14_method_5_code
def yJ2_getChar_3b067 : MethodName := ⟨RJ2, "getChar", "([BI)C"⟩
abbrev cJ2_length_9d52b : ByteArray := prog_14_method_6_code
def yJ2_length_9d52b : MethodName := ⟨RJ2, "length", "([B)I"⟩
abbrev cJ2_charAt_3b067 : ByteArray := prog_14_method_83_code
def yJ2_charAt_3b067 : MethodName := ⟨RJ2, "charAt", "([BI)C"⟩
abbrev cJ2_checkIndex_2214a : ByteArray := prog_14_method_91_code
def yJ2_checkIndex_2214a : MethodName := ⟨RJ2, "checkIndex", "(I[B)V"⟩
def RJ10 : String := "java/lang/System"
def TJ10 : u_T := fun k => match k with
  | _ => ("", "", "", false)
def tyJ10 : Nat → FieldType := fun k => match k with
  | _ => .int
theorem tyJ10_ok : ∀ k, k < 0 → parseFieldDescriptor (TJ10 k).2.2.1 = some (tyJ10 k) := by decide +kernel
def RJ3 : String := "jdk/internal/util/Preconditions"
def TJ3 : u_T := fun k => match k with
  | _ => ("", "", "", false)
def tyJ3 : Nat → FieldType := fun k => match k with
  | _ => .int
abbrev wsJ30 : List Cond := u_ws RJ3 TJ3 0
theorem tyJ3_ok : ∀ k, k < 0 → parseFieldDescriptor (TJ3 k).2.2.1 = some (tyJ3 k) := by decide +kernel
abbrev cJ3_checkIndex_8e157 : ByteArray := prog_16_method_11_code
def yJ3_checkIndex_8e157 : MethodName := ⟨RJ3, "checkIndex", "(IILjava/util/function/BiFunction;)I"⟩
def RL : String := "WhoseThreadLaw"
abbrev cL_law : ByteArray := code
def yL_law : MethodName := ⟨RL, "law", "([I)Z"⟩
abbrev vwCl : List vw_C := [(RX0, TX0, 7), (RX1, TX1, 9), (RX2, TX2, 3), (RX3, TX3, 5), (RX4, TX4, 9), (RX5, TX5, 5), (RX6, TX6, 10), (RX7, TX7, 33)]
end
section
theorem dX0_init_0 : decode cX0_init 0 = .ok (.aload_n 0, 1) := by decide +kernel
theorem dX0_init_1 : decode cX0_init 1 = .ok (.invokespecial 3, 3) := by decide +kernel
theorem dX0_init_4 : decode cX0_init 4 = .ok (.aload_n 0, 1) := by decide +kernel
theorem dX0_init_5 : decode cX0_init 5 = .ok (.bipush 6, 2) := by decide +kernel
theorem dX0_init_7 : decode cX0_init 7 = .ok (.newarray .int, 2) := by decide +kernel
theorem dX0_init_9 : decode cX0_init 9 = .ok (.putfield 9, 3) := by decide +kernel
theorem dX0_init_12 : decode cX0_init 12 = .ok (.aload_n 0, 1) := by decide +kernel
theorem dX0_init_13 : decode cX0_init 13 = .ok (.bipush 6, 2) := by decide +kernel
theorem dX0_init_15 : decode cX0_init 15 = .ok (.newarray .int, 2) := by decide +kernel
theorem dX0_init_17 : decode cX0_init 17 = .ok (.putfield 15, 3) := by decide +kernel
theorem dX0_init_20 : decode cX0_init 20 = .ok (.aload_n 0, 1) := by decide +kernel
theorem dX0_init_21 : decode cX0_init 21 = .ok (.bipush 6, 2) := by decide +kernel
theorem dX0_init_23 : decode cX0_init 23 = .ok (.newarray .int, 2) := by decide +kernel
theorem dX0_init_25 : decode cX0_init 25 = .ok (.putfield 18, 3) := by decide +kernel
theorem dX0_init_28 : decode cX0_init 28 = .ok (.aload_n 0, 1) := by decide +kernel
theorem dX0_init_29 : decode cX0_init 29 = .ok (.aload_n 1, 1) := by decide +kernel
theorem dX0_init_30 : decode cX0_init 30 = .ok (.putfield 21, 3) := by decide +kernel
theorem dX0_init_33 : decode cX0_init 33 = .ok (.aload_n 0, 1) := by decide +kernel
theorem dX0_init_34 : decode cX0_init 34 = .ok (.aload_n 2, 1) := by decide +kernel
theorem dX0_init_35 : decode cX0_init 35 = .ok (.putfield 25, 3) := by decide +kernel
theorem dX0_init_38 : decode cX0_init 38 = .ok (.return_, 1) := by decide +kernel
theorem dX0_deal_0 : decode cX0_deal 0 = .ok (.aload_n 0, 1) := by decide +kernel
theorem dX0_deal_1 : decode cX0_deal 1 = .ok (.iconst 0, 1) := by decide +kernel
theorem dX0_deal_2 : decode cX0_deal 2 = .ok (.putfield 29, 3) := by decide +kernel
theorem dX0_deal_5 : decode cX0_deal 5 = .ok (.iconst 0, 1) := by decide +kernel
theorem dX0_deal_6 : decode cX0_deal 6 = .ok (.istore_n 1, 1) := by decide +kernel
theorem dX0_deal_7 : decode cX0_deal 7 = .ok (.iconst 0, 1) := by decide +kernel
theorem dX0_deal_8 : decode cX0_deal 8 = .ok (.istore_n 2, 1) := by decide +kernel
theorem dX0_deal_9 : decode cX0_deal 9 = .ok (.iload_n 2, 1) := by decide +kernel
theorem dX0_deal_10 : decode cX0_deal 10 = .ok (.aload_n 0, 1) := by decide +kernel
theorem dX0_deal_11 : decode cX0_deal 11 = .ok (.getfield 21, 3) := by decide +kernel
theorem dX0_deal_14 : decode cX0_deal 14 = .ok (.getfield 33, 3) := by decide +kernel
theorem dX0_deal_17 : decode cX0_deal 17 = .ok (.if_icmp .ge 57, 3) := by decide +kernel
theorem dX0_deal_20 : decode cX0_deal 20 = .ok (.aload_n 0, 1) := by decide +kernel
theorem dX0_deal_21 : decode cX0_deal 21 = .ok (.getfield 15, 3) := by decide +kernel
theorem dX0_deal_24 : decode cX0_deal 24 = .ok (.iload_n 2, 1) := by decide +kernel
theorem dX0_deal_25 : decode cX0_deal 25 = .ok (.aload_n 0, 1) := by decide +kernel
theorem dX0_deal_26 : decode cX0_deal 26 = .ok (.getfield 21, 3) := by decide +kernel
theorem dX0_deal_29 : decode cX0_deal 29 = .ok (.getfield 38, 3) := by decide +kernel
theorem dX0_deal_32 : decode cX0_deal 32 = .ok (.iload_n 2, 1) := by decide +kernel
theorem dX0_deal_33 : decode cX0_deal 33 = .ok (.iaload, 1) := by decide +kernel
theorem dX0_deal_34 : decode cX0_deal 34 = .ok (.iastore, 1) := by decide +kernel
theorem dX0_deal_35 : decode cX0_deal 35 = .ok (.aload_n 0, 1) := by decide +kernel
theorem dX0_deal_36 : decode cX0_deal 36 = .ok (.getfield 15, 3) := by decide +kernel
theorem dX0_deal_39 : decode cX0_deal 39 = .ok (.iload_n 2, 1) := by decide +kernel
theorem dX0_deal_40 : decode cX0_deal 40 = .ok (.iaload, 1) := by decide +kernel
theorem dX0_deal_41 : decode cX0_deal 41 = .ok (.aload_n 0, 1) := by decide +kernel
theorem dX0_deal_42 : decode cX0_deal 42 = .ok (.getfield 25, 3) := by decide +kernel
theorem dX0_deal_45 : decode cX0_deal 45 = .ok (.getfield 41, 3) := by decide +kernel
theorem dX0_deal_48 : decode cX0_deal 48 = .ok (.if_icmp .lt 20, 3) := by decide +kernel
theorem dX0_deal_51 : decode cX0_deal 51 = .ok (.aload_n 0, 1) := by decide +kernel
theorem dX0_deal_52 : decode cX0_deal 52 = .ok (.aload_n 0, 1) := by decide +kernel
theorem dX0_deal_53 : decode cX0_deal 53 = .ok (.getfield 15, 3) := by decide +kernel
theorem dX0_deal_56 : decode cX0_deal 56 = .ok (.iload_n 2, 1) := by decide +kernel
theorem dX0_deal_57 : decode cX0_deal 57 = .ok (.iaload, 1) := by decide +kernel
theorem dX0_deal_58 : decode cX0_deal 58 = .ok (.invokevirtual 46, 3) := by decide +kernel
theorem dX0_deal_61 : decode cX0_deal 61 = .ok (.iload_n 1, 1) := by decide +kernel
theorem dX0_deal_62 : decode cX0_deal 62 = .ok (.iload_n 2, 1) := by decide +kernel
theorem dX0_deal_63 : decode cX0_deal 63 = .ok (.invokestatic 50, 3) := by decide +kernel
theorem dX0_deal_66 : decode cX0_deal 66 = .ok (.ior, 1) := by decide +kernel
theorem dX0_deal_67 : decode cX0_deal 67 = .ok (.istore_n 1, 1) := by decide +kernel
theorem dX0_deal_68 : decode cX0_deal 68 = .ok (.iinc 2 1, 3) := by decide +kernel
theorem dX0_deal_71 : decode cX0_deal 71 = .ok (.goto (-62), 3) := by decide +kernel
theorem dX0_deal_74 : decode cX0_deal 74 = .ok (.aload_n 0, 1) := by decide +kernel
theorem dX0_deal_75 : decode cX0_deal 75 = .ok (.ldc 56, 2) := by decide +kernel
theorem dX0_deal_77 : decode cX0_deal 77 = .ok (.putfield 57, 3) := by decide +kernel
theorem dX0_deal_80 : decode cX0_deal 80 = .ok (.aload_n 0, 1) := by decide +kernel
theorem dX0_deal_81 : decode cX0_deal 81 = .ok (.iconst 0, 1) := by decide +kernel
theorem dX0_deal_82 : decode cX0_deal 82 = .ok (.iconst (-1), 1) := by decide +kernel
theorem dX0_deal_83 : decode cX0_deal 83 = .ok (.iload_n 1, 1) := by decide +kernel
theorem dX0_deal_84 : decode cX0_deal 84 = .ok (.aload_n 0, 1) := by decide +kernel
theorem dX0_deal_85 : decode cX0_deal 85 = .ok (.getfield 25, 3) := by decide +kernel
theorem dX0_deal_88 : decode cX0_deal 88 = .ok (.getfield 60, 3) := by decide +kernel
theorem dX0_deal_91 : decode cX0_deal 91 = .ok (.iconst 0, 1) := by decide +kernel
theorem dX0_deal_92 : decode cX0_deal 92 = .ok (.invokevirtual 63, 3) := by decide +kernel
theorem dX0_deal_95 : decode cX0_deal 95 = .ok (.return_, 1) := by decide +kernel
theorem dX0_addDay_0 : decode cX0_addDay 0 = .ok (.aload_n 0, 1) := by decide +kernel
theorem dX0_addDay_1 : decode cX0_addDay 1 = .ok (.getfield 29, 3) := by decide +kernel
theorem dX0_addDay_4 : decode cX0_addDay 4 = .ok (.bipush 6, 2) := by decide +kernel
theorem dX0_addDay_6 : decode cX0_addDay 6 = .ok (.if_icmp .lt 4, 3) := by decide +kernel
theorem dX0_addDay_9 : decode cX0_addDay 9 = .ok (.return_, 1) := by decide +kernel
theorem dX0_addDay_10 : decode cX0_addDay 10 = .ok (.aload_n 0, 1) := by decide +kernel
theorem dX0_addDay_11 : decode cX0_addDay 11 = .ok (.getfield 29, 3) := by decide +kernel
theorem dX0_addDay_14 : decode cX0_addDay 14 = .ok (.istore_n 2, 1) := by decide +kernel
theorem dX0_addDay_15 : decode cX0_addDay 15 = .ok (.iload_n 2, 1) := by decide +kernel
theorem dX0_addDay_16 : decode cX0_addDay 16 = .ok (.ifCond .le 35, 3) := by decide +kernel
theorem dX0_addDay_19 : decode cX0_addDay 19 = .ok (.aload_n 0, 1) := by decide +kernel
theorem dX0_addDay_20 : decode cX0_addDay 20 = .ok (.getfield 9, 3) := by decide +kernel
theorem dX0_addDay_23 : decode cX0_addDay 23 = .ok (.iload_n 2, 1) := by decide +kernel
theorem dX0_addDay_24 : decode cX0_addDay 24 = .ok (.iconst 1, 1) := by decide +kernel
theorem dX0_addDay_25 : decode cX0_addDay 25 = .ok (.isub, 1) := by decide +kernel
theorem dX0_addDay_26 : decode cX0_addDay 26 = .ok (.iaload, 1) := by decide +kernel
theorem dX0_addDay_27 : decode cX0_addDay 27 = .ok (.iload_n 1, 1) := by decide +kernel
theorem dX0_addDay_28 : decode cX0_addDay 28 = .ok (.if_icmp .le 23, 3) := by decide +kernel
theorem dX0_addDay_31 : decode cX0_addDay 31 = .ok (.aload_n 0, 1) := by decide +kernel
theorem dX0_addDay_32 : decode cX0_addDay 32 = .ok (.getfield 9, 3) := by decide +kernel
theorem dX0_addDay_35 : decode cX0_addDay 35 = .ok (.iload_n 2, 1) := by decide +kernel
theorem dX0_addDay_36 : decode cX0_addDay 36 = .ok (.aload_n 0, 1) := by decide +kernel
theorem dX0_addDay_37 : decode cX0_addDay 37 = .ok (.getfield 9, 3) := by decide +kernel
theorem dX0_addDay_40 : decode cX0_addDay 40 = .ok (.iload_n 2, 1) := by decide +kernel
theorem dX0_addDay_41 : decode cX0_addDay 41 = .ok (.iconst 1, 1) := by decide +kernel
theorem dX0_addDay_42 : decode cX0_addDay 42 = .ok (.isub, 1) := by decide +kernel
theorem dX0_addDay_43 : decode cX0_addDay 43 = .ok (.iaload, 1) := by decide +kernel
theorem dX0_addDay_44 : decode cX0_addDay 44 = .ok (.iastore, 1) := by decide +kernel
theorem dX0_addDay_45 : decode cX0_addDay 45 = .ok (.iinc 2 (-1), 3) := by decide +kernel
theorem dX0_addDay_48 : decode cX0_addDay 48 = .ok (.goto (-33), 3) := by decide +kernel
theorem dX0_addDay_51 : decode cX0_addDay 51 = .ok (.aload_n 0, 1) := by decide +kernel
theorem dX0_addDay_52 : decode cX0_addDay 52 = .ok (.getfield 9, 3) := by decide +kernel
theorem dX0_addDay_55 : decode cX0_addDay 55 = .ok (.iload_n 2, 1) := by decide +kernel
theorem dX0_addDay_56 : decode cX0_addDay 56 = .ok (.iload_n 1, 1) := by decide +kernel
theorem dX0_addDay_57 : decode cX0_addDay 57 = .ok (.iastore, 1) := by decide +kernel
theorem dX0_addDay_58 : decode cX0_addDay 58 = .ok (.aload_n 0, 1) := by decide +kernel
theorem dX0_addDay_59 : decode cX0_addDay 59 = .ok (.dup, 1) := by decide +kernel
theorem dX0_addDay_60 : decode cX0_addDay 60 = .ok (.getfield 29, 3) := by decide +kernel
theorem dX0_addDay_63 : decode cX0_addDay 63 = .ok (.iconst 1, 1) := by decide +kernel
theorem dX0_addDay_64 : decode cX0_addDay 64 = .ok (.iadd, 1) := by decide +kernel
theorem dX0_addDay_65 : decode cX0_addDay 65 = .ok (.putfield 29, 3) := by decide +kernel
theorem dX0_addDay_68 : decode cX0_addDay 68 = .ok (.return_, 1) := by decide +kernel
theorem dX0_dealFrom_0 : decode cX0_dealFrom 0 = .ok (.iload 5, 2) := by decide +kernel
theorem dX0_dealFrom_2 : decode cX0_dealFrom 2 = .ok (.aload_n 0, 1) := by decide +kernel
theorem dX0_dealFrom_3 : decode cX0_dealFrom 3 = .ok (.getfield 57, 3) := by decide +kernel
theorem dX0_dealFrom_6 : decode cX0_dealFrom 6 = .ok (.if_icmp .le 4, 3) := by decide +kernel
theorem dX0_dealFrom_9 : decode cX0_dealFrom 9 = .ok (.return_, 1) := by decide +kernel
theorem dX0_dealFrom_10 : decode cX0_dealFrom 10 = .ok (.iload_n 1, 1) := by decide +kernel
theorem dX0_dealFrom_11 : decode cX0_dealFrom 11 = .ok (.aload_n 0, 1) := by decide +kernel
theorem dX0_dealFrom_12 : decode cX0_dealFrom 12 = .ok (.getfield 29, 3) := by decide +kernel
theorem dX0_dealFrom_15 : decode cX0_dealFrom 15 = .ok (.if_icmp .lt 10, 3) := by decide +kernel
theorem dX0_dealFrom_18 : decode cX0_dealFrom 18 = .ok (.aload_n 0, 1) := by decide +kernel
theorem dX0_dealFrom_19 : decode cX0_dealFrom 19 = .ok (.iload 5, 2) := by decide +kernel
theorem dX0_dealFrom_21 : decode cX0_dealFrom 21 = .ok (.invokevirtual 67, 3) := by decide +kernel
theorem dX0_dealFrom_24 : decode cX0_dealFrom 24 = .ok (.return_, 1) := by decide +kernel
theorem dX0_dealFrom_25 : decode cX0_dealFrom 25 = .ok (.aload_n 0, 1) := by decide +kernel
theorem dX0_dealFrom_26 : decode cX0_dealFrom 26 = .ok (.getfield 9, 3) := by decide +kernel
theorem dX0_dealFrom_29 : decode cX0_dealFrom 29 = .ok (.iload_n 1, 1) := by decide +kernel
theorem dX0_dealFrom_30 : decode cX0_dealFrom 30 = .ok (.iaload, 1) := by decide +kernel
theorem dX0_dealFrom_31 : decode cX0_dealFrom 31 = .ok (.istore 6, 2) := by decide +kernel
theorem dX0_dealFrom_33 : decode cX0_dealFrom 33 = .ok (.aload_n 0, 1) := by decide +kernel
theorem dX0_dealFrom_34 : decode cX0_dealFrom 34 = .ok (.getfield 21, 3) := by decide +kernel
theorem dX0_dealFrom_37 : decode cX0_dealFrom 37 = .ok (.iload 4, 2) := by decide +kernel
theorem dX0_dealFrom_39 : decode cX0_dealFrom 39 = .ok (.iload 6, 2) := by decide +kernel
theorem dX0_dealFrom_41 : decode cX0_dealFrom 41 = .ok (.invokevirtual 70, 3) := by decide +kernel
theorem dX0_dealFrom_44 : decode cX0_dealFrom 44 = .ok (.istore 7, 2) := by decide +kernel
theorem dX0_dealFrom_46 : decode cX0_dealFrom 46 = .ok (.iload_n 1, 1) := by decide +kernel
theorem dX0_dealFrom_47 : decode cX0_dealFrom 47 = .ok (.ifCond .le 20, 3) := by decide +kernel
theorem dX0_dealFrom_50 : decode cX0_dealFrom 50 = .ok (.aload_n 0, 1) := by decide +kernel
theorem dX0_dealFrom_51 : decode cX0_dealFrom 51 = .ok (.getfield 9, 3) := by decide +kernel
theorem dX0_dealFrom_54 : decode cX0_dealFrom 54 = .ok (.iload_n 1, 1) := by decide +kernel
theorem dX0_dealFrom_55 : decode cX0_dealFrom 55 = .ok (.iconst 1, 1) := by decide +kernel
theorem dX0_dealFrom_56 : decode cX0_dealFrom 56 = .ok (.isub, 1) := by decide +kernel
theorem dX0_dealFrom_57 : decode cX0_dealFrom 57 = .ok (.iaload, 1) := by decide +kernel
theorem dX0_dealFrom_58 : decode cX0_dealFrom 58 = .ok (.iload 6, 2) := by decide +kernel
theorem dX0_dealFrom_60 : decode cX0_dealFrom 60 = .ok (.if_icmp .ne 7, 3) := by decide +kernel
theorem dX0_dealFrom_63 : decode cX0_dealFrom 63 = .ok (.iconst 1, 1) := by decide +kernel
theorem dX0_dealFrom_64 : decode cX0_dealFrom 64 = .ok (.goto 4, 3) := by decide +kernel
theorem dX0_dealFrom_67 : decode cX0_dealFrom 67 = .ok (.iconst 0, 1) := by decide +kernel
theorem dX0_dealFrom_68 : decode cX0_dealFrom 68 = .ok (.istore 8, 2) := by decide +kernel
theorem dX0_dealFrom_70 : decode cX0_dealFrom 70 = .ok (.iload 8, 2) := by decide +kernel
theorem dX0_dealFrom_72 : decode cX0_dealFrom 72 = .ok (.ifCond .eq 9, 3) := by decide +kernel
theorem dX0_dealFrom_75 : decode cX0_dealFrom 75 = .ok (.iload_n 2, 1) := by decide +kernel
theorem dX0_dealFrom_76 : decode cX0_dealFrom 76 = .ok (.iconst 1, 1) := by decide +kernel
theorem dX0_dealFrom_77 : decode cX0_dealFrom 77 = .ok (.iadd, 1) := by decide +kernel
theorem dX0_dealFrom_78 : decode cX0_dealFrom 78 = .ok (.goto 4, 3) := by decide +kernel
theorem dX0_dealFrom_81 : decode cX0_dealFrom 81 = .ok (.iconst 0, 1) := by decide +kernel
theorem dX0_dealFrom_82 : decode cX0_dealFrom 82 = .ok (.istore 9, 2) := by decide +kernel
theorem dX0_dealFrom_84 : decode cX0_dealFrom 84 = .ok (.iload 9, 2) := by decide +kernel
theorem dX0_dealFrom_86 : decode cX0_dealFrom 86 = .ok (.aload_n 0, 1) := by decide +kernel
theorem dX0_dealFrom_87 : decode cX0_dealFrom 87 = .ok (.getfield 21, 3) := by decide +kernel
theorem dX0_dealFrom_90 : decode cX0_dealFrom 90 = .ok (.getfield 33, 3) := by decide +kernel
theorem dX0_dealFrom_93 : decode cX0_dealFrom 93 = .ok (.if_icmp .ge 30, 3) := by decide +kernel
theorem dX0_dealFrom_96 : decode cX0_dealFrom 96 = .ok (.iload_n 3, 1) := by decide +kernel
theorem dX0_dealFrom_97 : decode cX0_dealFrom 97 = .ok (.iload 9, 2) := by decide +kernel
theorem dX0_dealFrom_99 : decode cX0_dealFrom 99 = .ok (.invokestatic 74, 3) := by decide +kernel
theorem dX0_dealFrom_102 : decode cX0_dealFrom 102 = .ok (.ifCond .eq 15, 3) := by decide +kernel
theorem dX0_dealFrom_105 : decode cX0_dealFrom 105 = .ok (.aload_n 0, 1) := by decide +kernel
theorem dX0_dealFrom_106 : decode cX0_dealFrom 106 = .ok (.iload 9, 2) := by decide +kernel
theorem dX0_dealFrom_108 : decode cX0_dealFrom 108 = .ok (.iload_n 1, 1) := by decide +kernel
theorem dX0_dealFrom_109 : decode cX0_dealFrom 109 = .ok (.iload_n 3, 1) := by decide +kernel
theorem dX0_dealFrom_110 : decode cX0_dealFrom 110 = .ok (.iload 7, 2) := by decide +kernel
theorem dX0_dealFrom_112 : decode cX0_dealFrom 112 = .ok (.iload 5, 2) := by decide +kernel
theorem dX0_dealFrom_114 : decode cX0_dealFrom 114 = .ok (.invokevirtual 78, 3) := by decide +kernel
theorem dX0_dealFrom_117 : decode cX0_dealFrom 117 = .ok (.iinc 9 1, 3) := by decide +kernel
theorem dX0_dealFrom_120 : decode cX0_dealFrom 120 = .ok (.goto (-36), 3) := by decide +kernel
theorem dX0_dealFrom_123 : decode cX0_dealFrom 123 = .ok (.return_, 1) := by decide +kernel
theorem dX0_dealTo_0 : decode cX0_dealTo 0 = .ok (.aload_n 0, 1) := by decide +kernel
theorem dX0_dealTo_1 : decode cX0_dealTo 1 = .ok (.getfield 9, 3) := by decide +kernel
theorem dX0_dealTo_4 : decode cX0_dealTo 4 = .ok (.iload_n 2, 1) := by decide +kernel
theorem dX0_dealTo_5 : decode cX0_dealTo 5 = .ok (.iaload, 1) := by decide +kernel
theorem dX0_dealTo_6 : decode cX0_dealTo 6 = .ok (.istore 6, 2) := by decide +kernel
theorem dX0_dealTo_8 : decode cX0_dealTo 8 = .ok (.aload_n 0, 1) := by decide +kernel
theorem dX0_dealTo_9 : decode cX0_dealTo 9 = .ok (.getfield 25, 3) := by decide +kernel
theorem dX0_dealTo_12 : decode cX0_dealTo 12 = .ok (.aload_n 0, 1) := by decide +kernel
theorem dX0_dealTo_13 : decode cX0_dealTo 13 = .ok (.getfield 21, 3) := by decide +kernel
theorem dX0_dealTo_16 : decode cX0_dealTo 16 = .ok (.getfield 81, 3) := by decide +kernel
theorem dX0_dealTo_19 : decode cX0_dealTo 19 = .ok (.iload_n 1, 1) := by decide +kernel
theorem dX0_dealTo_20 : decode cX0_dealTo 20 = .ok (.iaload, 1) := by decide +kernel
theorem dX0_dealTo_21 : decode cX0_dealTo 21 = .ok (.iload 4, 2) := by decide +kernel
theorem dX0_dealTo_23 : decode cX0_dealTo 23 = .ok (.invokevirtual 84, 3) := by decide +kernel
theorem dX0_dealTo_26 : decode cX0_dealTo 26 = .ok (.istore 7, 2) := by decide +kernel
theorem dX0_dealTo_28 : decode cX0_dealTo 28 = .ok (.aload_n 0, 1) := by decide +kernel
theorem dX0_dealTo_29 : decode cX0_dealTo 29 = .ok (.getfield 15, 3) := by decide +kernel
theorem dX0_dealTo_32 : decode cX0_dealTo 32 = .ok (.iload_n 1, 1) := by decide +kernel
theorem dX0_dealTo_33 : decode cX0_dealTo 33 = .ok (.iload 6, 2) := by decide +kernel
theorem dX0_dealTo_35 : decode cX0_dealTo 35 = .ok (.iastore, 1) := by decide +kernel
theorem dX0_dealTo_36 : decode cX0_dealTo 36 = .ok (.aload_n 0, 1) := by decide +kernel
theorem dX0_dealTo_37 : decode cX0_dealTo 37 = .ok (.iload_n 2, 1) := by decide +kernel
theorem dX0_dealTo_38 : decode cX0_dealTo 38 = .ok (.iconst 1, 1) := by decide +kernel
theorem dX0_dealTo_39 : decode cX0_dealTo 39 = .ok (.iadd, 1) := by decide +kernel
theorem dX0_dealTo_40 : decode cX0_dealTo 40 = .ok (.iload_n 1, 1) := by decide +kernel
theorem dX0_dealTo_41 : decode cX0_dealTo 41 = .ok (.iload_n 3, 1) := by decide +kernel
theorem dX0_dealTo_42 : decode cX0_dealTo 42 = .ok (.iload_n 1, 1) := by decide +kernel
theorem dX0_dealTo_43 : decode cX0_dealTo 43 = .ok (.invokestatic 50, 3) := by decide +kernel
theorem dX0_dealTo_46 : decode cX0_dealTo 46 = .ok (.iconst (-1), 1) := by decide +kernel
theorem dX0_dealTo_47 : decode cX0_dealTo 47 = .ok (.ixor, 1) := by decide +kernel
theorem dX0_dealTo_48 : decode cX0_dealTo 48 = .ok (.iand, 1) := by decide +kernel
theorem dX0_dealTo_49 : decode cX0_dealTo 49 = .ok (.iload 4, 2) := by decide +kernel
theorem dX0_dealTo_51 : decode cX0_dealTo 51 = .ok (.iload 7, 2) := by decide +kernel
theorem dX0_dealTo_53 : decode cX0_dealTo 53 = .ok (.iconst (-1), 1) := by decide +kernel
theorem dX0_dealTo_54 : decode cX0_dealTo 54 = .ok (.ixor, 1) := by decide +kernel
theorem dX0_dealTo_55 : decode cX0_dealTo 55 = .ok (.iand, 1) := by decide +kernel
theorem dX0_dealTo_56 : decode cX0_dealTo 56 = .ok (.iload 5, 2) := by decide +kernel
theorem dX0_dealTo_58 : decode cX0_dealTo 58 = .ok (.aload_n 0, 1) := by decide +kernel
theorem dX0_dealTo_59 : decode cX0_dealTo 59 = .ok (.getfield 21, 3) := by decide +kernel
theorem dX0_dealTo_62 : decode cX0_dealTo 62 = .ok (.iload 7, 2) := by decide +kernel
theorem dX0_dealTo_64 : decode cX0_dealTo 64 = .ok (.iload 6, 2) := by decide +kernel
theorem dX0_dealTo_66 : decode cX0_dealTo 66 = .ok (.invokevirtual 87, 3) := by decide +kernel
theorem dX0_dealTo_69 : decode cX0_dealTo 69 = .ok (.iadd, 1) := by decide +kernel
theorem dX0_dealTo_70 : decode cX0_dealTo 70 = .ok (.invokevirtual 63, 3) := by decide +kernel
theorem dX0_dealTo_73 : decode cX0_dealTo 73 = .ok (.return_, 1) := by decide +kernel
theorem dX0_take_0 : decode cX0_take 0 = .ok (.iload_n 1, 1) := by decide +kernel
theorem dX0_take_1 : decode cX0_take 1 = .ok (.aload_n 0, 1) := by decide +kernel
theorem dX0_take_2 : decode cX0_take 2 = .ok (.getfield 57, 3) := by decide +kernel
theorem dX0_take_5 : decode cX0_take 5 = .ok (.if_icmp .lt 10, 3) := by decide +kernel
theorem dX0_take_8 : decode cX0_take 8 = .ok (.aload_n 0, 1) := by decide +kernel
theorem dX0_take_9 : decode cX0_take 9 = .ok (.invokevirtual 90, 3) := by decide +kernel
theorem dX0_take_12 : decode cX0_take 12 = .ok (.ifCond .eq 23, 3) := by decide +kernel
theorem dX0_take_15 : decode cX0_take 15 = .ok (.aload_n 0, 1) := by decide +kernel
theorem dX0_take_16 : decode cX0_take 16 = .ok (.iload_n 1, 1) := by decide +kernel
theorem dX0_take_17 : decode cX0_take 17 = .ok (.putfield 57, 3) := by decide +kernel
theorem dX0_take_20 : decode cX0_take 20 = .ok (.aload_n 0, 1) := by decide +kernel
theorem dX0_take_21 : decode cX0_take 21 = .ok (.getfield 15, 3) := by decide +kernel
theorem dX0_take_24 : decode cX0_take 24 = .ok (.iconst 0, 1) := by decide +kernel
theorem dX0_take_25 : decode cX0_take 25 = .ok (.aload_n 0, 1) := by decide +kernel
theorem dX0_take_26 : decode cX0_take 26 = .ok (.getfield 18, 3) := by decide +kernel
theorem dX0_take_29 : decode cX0_take 29 = .ok (.iconst 0, 1) := by decide +kernel
theorem dX0_take_30 : decode cX0_take 30 = .ok (.bipush 6, 2) := by decide +kernel
theorem dX0_take_32 : decode cX0_take 32 = .ok (.invokestatic 94, 3) := by decide +kernel
theorem dX0_take_35 : decode cX0_take 35 = .ok (.return_, 1) := by decide +kernel
theorem dX0_isAhead_0 : decode cX0_isAhead 0 = .ok (.iconst 0, 1) := by decide +kernel
theorem dX0_isAhead_1 : decode cX0_isAhead 1 = .ok (.istore_n 1, 1) := by decide +kernel
theorem dX0_isAhead_2 : decode cX0_isAhead 2 = .ok (.iload_n 1, 1) := by decide +kernel
theorem dX0_isAhead_3 : decode cX0_isAhead 3 = .ok (.aload_n 0, 1) := by decide +kernel
theorem dX0_isAhead_4 : decode cX0_isAhead 4 = .ok (.getfield 21, 3) := by decide +kernel
theorem dX0_isAhead_7 : decode cX0_isAhead 7 = .ok (.getfield 33, 3) := by decide +kernel
theorem dX0_isAhead_10 : decode cX0_isAhead 10 = .ok (.if_icmp .ge 45, 3) := by decide +kernel
theorem dX0_isAhead_13 : decode cX0_isAhead 13 = .ok (.aload_n 0, 1) := by decide +kernel
theorem dX0_isAhead_14 : decode cX0_isAhead 14 = .ok (.getfield 15, 3) := by decide +kernel
theorem dX0_isAhead_17 : decode cX0_isAhead 17 = .ok (.iload_n 1, 1) := by decide +kernel
theorem dX0_isAhead_18 : decode cX0_isAhead 18 = .ok (.iaload, 1) := by decide +kernel
theorem dX0_isAhead_19 : decode cX0_isAhead 19 = .ok (.aload_n 0, 1) := by decide +kernel
theorem dX0_isAhead_20 : decode cX0_isAhead 20 = .ok (.getfield 18, 3) := by decide +kernel
theorem dX0_isAhead_23 : decode cX0_isAhead 23 = .ok (.iload_n 1, 1) := by decide +kernel
theorem dX0_isAhead_24 : decode cX0_isAhead 24 = .ok (.iaload, 1) := by decide +kernel
theorem dX0_isAhead_25 : decode cX0_isAhead 25 = .ok (.if_icmp .eq 24, 3) := by decide +kernel
theorem dX0_isAhead_28 : decode cX0_isAhead 28 = .ok (.aload_n 0, 1) := by decide +kernel
theorem dX0_isAhead_29 : decode cX0_isAhead 29 = .ok (.getfield 15, 3) := by decide +kernel
theorem dX0_isAhead_32 : decode cX0_isAhead 32 = .ok (.iload_n 1, 1) := by decide +kernel
theorem dX0_isAhead_33 : decode cX0_isAhead 33 = .ok (.iaload, 1) := by decide +kernel
theorem dX0_isAhead_34 : decode cX0_isAhead 34 = .ok (.aload_n 0, 1) := by decide +kernel
theorem dX0_isAhead_35 : decode cX0_isAhead 35 = .ok (.getfield 18, 3) := by decide +kernel
theorem dX0_isAhead_38 : decode cX0_isAhead 38 = .ok (.iload_n 1, 1) := by decide +kernel
theorem dX0_isAhead_39 : decode cX0_isAhead 39 = .ok (.iaload, 1) := by decide +kernel
theorem dX0_isAhead_40 : decode cX0_isAhead 40 = .ok (.if_icmp .ge 7, 3) := by decide +kernel
theorem dX0_isAhead_43 : decode cX0_isAhead 43 = .ok (.iconst 1, 1) := by decide +kernel
theorem dX0_isAhead_44 : decode cX0_isAhead 44 = .ok (.goto 4, 3) := by decide +kernel
theorem dX0_isAhead_47 : decode cX0_isAhead 47 = .ok (.iconst 0, 1) := by decide +kernel
theorem dX0_isAhead_48 : decode cX0_isAhead 48 = .ok (.ireturn, 1) := by decide +kernel
theorem dX0_isAhead_49 : decode cX0_isAhead 49 = .ok (.iinc 1 1, 3) := by decide +kernel
theorem dX0_isAhead_52 : decode cX0_isAhead 52 = .ok (.goto (-50), 3) := by decide +kernel
theorem dX0_isAhead_55 : decode cX0_isAhead 55 = .ok (.iconst 0, 1) := by decide +kernel
theorem dX0_isAhead_56 : decode cX0_isAhead 56 = .ok (.ireturn, 1) := by decide +kernel
theorem dX1_init_0 : decode cX1_init 0 = .ok (.aload_n 0, 1) := by decide +kernel
theorem dX1_init_1 : decode cX1_init 1 = .ok (.invokespecial 3, 3) := by decide +kernel
theorem dX1_init_4 : decode cX1_init 4 = .ok (.aload_n 0, 1) := by decide +kernel
theorem dX1_init_5 : decode cX1_init 5 = .ok (.bipush 8, 2) := by decide +kernel
theorem dX1_init_7 : decode cX1_init 7 = .ok (.newarray .int, 2) := by decide +kernel
theorem dX1_init_9 : decode cX1_init 9 = .ok (.putfield 9, 3) := by decide +kernel
theorem dX1_init_12 : decode cX1_init 12 = .ok (.aload_n 0, 1) := by decide +kernel
theorem dX1_init_13 : decode cX1_init 13 = .ok (.bipush 8, 2) := by decide +kernel
theorem dX1_init_15 : decode cX1_init 15 = .ok (.newarray .int, 2) := by decide +kernel
theorem dX1_init_17 : decode cX1_init 17 = .ok (.putfield 15, 3) := by decide +kernel
theorem dX1_init_20 : decode cX1_init 20 = .ok (.aload_n 0, 1) := by decide +kernel
theorem dX1_init_21 : decode cX1_init 21 = .ok (.bipush 8, 2) := by decide +kernel
theorem dX1_init_23 : decode cX1_init 23 = .ok (.newarray .int, 2) := by decide +kernel
theorem dX1_init_25 : decode cX1_init 25 = .ok (.putfield 18, 3) := by decide +kernel
theorem dX1_init_28 : decode cX1_init 28 = .ok (.aload_n 0, 1) := by decide +kernel
theorem dX1_init_29 : decode cX1_init 29 = .ok (.bipush 8, 2) := by decide +kernel
theorem dX1_init_31 : decode cX1_init 31 = .ok (.newarray .int, 2) := by decide +kernel
theorem dX1_init_33 : decode cX1_init 33 = .ok (.putfield 21, 3) := by decide +kernel
theorem dX1_init_36 : decode cX1_init 36 = .ok (.aload_n 0, 1) := by decide +kernel
theorem dX1_init_37 : decode cX1_init 37 = .ok (.aload_n 1, 1) := by decide +kernel
theorem dX1_init_38 : decode cX1_init 38 = .ok (.putfield 24, 3) := by decide +kernel
theorem dX1_init_41 : decode cX1_init 41 = .ok (.return_, 1) := by decide +kernel
theorem dX1_begin_0 : decode cX1_begin 0 = .ok (.aload_n 0, 1) := by decide +kernel
theorem dX1_begin_1 : decode cX1_begin 1 = .ok (.iconst 0, 1) := by decide +kernel
theorem dX1_begin_2 : decode cX1_begin 2 = .ok (.putfield 28, 3) := by decide +kernel
theorem dX1_begin_5 : decode cX1_begin 5 = .ok (.aload_n 0, 1) := by decide +kernel
theorem dX1_begin_6 : decode cX1_begin 6 = .ok (.iconst 0, 1) := by decide +kernel
theorem dX1_begin_7 : decode cX1_begin 7 = .ok (.putfield 32, 3) := by decide +kernel
theorem dX1_begin_10 : decode cX1_begin 10 = .ok (.aload_n 0, 1) := by decide +kernel
theorem dX1_begin_11 : decode cX1_begin 11 = .ok (.aload_n 0, 1) := by decide +kernel
theorem dX1_begin_12 : decode cX1_begin 12 = .ok (.getfield 24, 3) := by decide +kernel
theorem dX1_begin_15 : decode cX1_begin 15 = .ok (.invokevirtual 35, 3) := by decide +kernel
theorem dX1_begin_18 : decode cX1_begin 18 = .ok (.putfield 41, 3) := by decide +kernel
theorem dX1_begin_21 : decode cX1_begin 21 = .ok (.aload_n 0, 1) := by decide +kernel
theorem dX1_begin_22 : decode cX1_begin 22 = .ok (.iconst 0, 1) := by decide +kernel
theorem dX1_begin_23 : decode cX1_begin 23 = .ok (.putfield 44, 3) := by decide +kernel
theorem dX1_begin_26 : decode cX1_begin 26 = .ok (.iconst 0, 1) := by decide +kernel
theorem dX1_begin_27 : decode cX1_begin 27 = .ok (.istore_n 1, 1) := by decide +kernel
theorem dX1_begin_28 : decode cX1_begin 28 = .ok (.iload_n 1, 1) := by decide +kernel
theorem dX1_begin_29 : decode cX1_begin 29 = .ok (.bipush 8, 2) := by decide +kernel
theorem dX1_begin_31 : decode cX1_begin 31 = .ok (.if_icmp .ge 61, 3) := by decide +kernel
theorem dX1_begin_34 : decode cX1_begin 34 = .ok (.aload_n 0, 1) := by decide +kernel
theorem dX1_begin_35 : decode cX1_begin 35 = .ok (.getfield 9, 3) := by decide +kernel
theorem dX1_begin_38 : decode cX1_begin 38 = .ok (.iload_n 1, 1) := by decide +kernel
theorem dX1_begin_39 : decode cX1_begin 39 = .ok (.aload_n 0, 1) := by decide +kernel
theorem dX1_begin_40 : decode cX1_begin 40 = .ok (.getfield 24, 3) := by decide +kernel
theorem dX1_begin_43 : decode cX1_begin 43 = .ok (.getfield 47, 3) := by decide +kernel
theorem dX1_begin_46 : decode cX1_begin 46 = .ok (.iload_n 1, 1) := by decide +kernel
theorem dX1_begin_47 : decode cX1_begin 47 = .ok (.iaload, 1) := by decide +kernel
theorem dX1_begin_48 : decode cX1_begin 48 = .ok (.iastore, 1) := by decide +kernel
theorem dX1_begin_49 : decode cX1_begin 49 = .ok (.aload_n 0, 1) := by decide +kernel
theorem dX1_begin_50 : decode cX1_begin 50 = .ok (.getfield 15, 3) := by decide +kernel
theorem dX1_begin_53 : decode cX1_begin 53 = .ok (.iload_n 1, 1) := by decide +kernel
theorem dX1_begin_54 : decode cX1_begin 54 = .ok (.aload_n 0, 1) := by decide +kernel
theorem dX1_begin_55 : decode cX1_begin 55 = .ok (.getfield 24, 3) := by decide +kernel
theorem dX1_begin_58 : decode cX1_begin 58 = .ok (.getfield 48, 3) := by decide +kernel
theorem dX1_begin_61 : decode cX1_begin 61 = .ok (.iload_n 1, 1) := by decide +kernel
theorem dX1_begin_62 : decode cX1_begin 62 = .ok (.iaload, 1) := by decide +kernel
theorem dX1_begin_63 : decode cX1_begin 63 = .ok (.iastore, 1) := by decide +kernel
theorem dX1_begin_64 : decode cX1_begin 64 = .ok (.aload_n 0, 1) := by decide +kernel
theorem dX1_begin_65 : decode cX1_begin 65 = .ok (.getfield 18, 3) := by decide +kernel
theorem dX1_begin_68 : decode cX1_begin 68 = .ok (.iload_n 1, 1) := by decide +kernel
theorem dX1_begin_69 : decode cX1_begin 69 = .ok (.aload_n 0, 1) := by decide +kernel
theorem dX1_begin_70 : decode cX1_begin 70 = .ok (.getfield 24, 3) := by decide +kernel
theorem dX1_begin_73 : decode cX1_begin 73 = .ok (.getfield 49, 3) := by decide +kernel
theorem dX1_begin_76 : decode cX1_begin 76 = .ok (.iload_n 1, 1) := by decide +kernel
theorem dX1_begin_77 : decode cX1_begin 77 = .ok (.iaload, 1) := by decide +kernel
theorem dX1_begin_78 : decode cX1_begin 78 = .ok (.iastore, 1) := by decide +kernel
theorem dX1_begin_79 : decode cX1_begin 79 = .ok (.aload_n 0, 1) := by decide +kernel
theorem dX1_begin_80 : decode cX1_begin 80 = .ok (.getfield 21, 3) := by decide +kernel
theorem dX1_begin_83 : decode cX1_begin 83 = .ok (.iload_n 1, 1) := by decide +kernel
theorem dX1_begin_84 : decode cX1_begin 84 = .ok (.iconst (-1), 1) := by decide +kernel
theorem dX1_begin_85 : decode cX1_begin 85 = .ok (.iastore, 1) := by decide +kernel
theorem dX1_begin_86 : decode cX1_begin 86 = .ok (.iinc 1 1, 3) := by decide +kernel
theorem dX1_begin_89 : decode cX1_begin 89 = .ok (.goto (-61), 3) := by decide +kernel
theorem dX1_begin_92 : decode cX1_begin 92 = .ok (.return_, 1) := by decide +kernel
theorem dX1_copyFrom_0 : decode cX1_copyFrom 0 = .ok (.aload_n 0, 1) := by decide +kernel
theorem dX1_copyFrom_1 : decode cX1_copyFrom 1 = .ok (.aload_n 1, 1) := by decide +kernel
theorem dX1_copyFrom_2 : decode cX1_copyFrom 2 = .ok (.getfield 28, 3) := by decide +kernel
theorem dX1_copyFrom_5 : decode cX1_copyFrom 5 = .ok (.putfield 28, 3) := by decide +kernel
theorem dX1_copyFrom_8 : decode cX1_copyFrom 8 = .ok (.aload_n 0, 1) := by decide +kernel
theorem dX1_copyFrom_9 : decode cX1_copyFrom 9 = .ok (.aload_n 1, 1) := by decide +kernel
theorem dX1_copyFrom_10 : decode cX1_copyFrom 10 = .ok (.getfield 32, 3) := by decide +kernel
theorem dX1_copyFrom_13 : decode cX1_copyFrom 13 = .ok (.putfield 32, 3) := by decide +kernel
theorem dX1_copyFrom_16 : decode cX1_copyFrom 16 = .ok (.aload_n 0, 1) := by decide +kernel
theorem dX1_copyFrom_17 : decode cX1_copyFrom 17 = .ok (.aload_n 1, 1) := by decide +kernel
theorem dX1_copyFrom_18 : decode cX1_copyFrom 18 = .ok (.getfield 41, 3) := by decide +kernel
theorem dX1_copyFrom_21 : decode cX1_copyFrom 21 = .ok (.putfield 41, 3) := by decide +kernel
theorem dX1_copyFrom_24 : decode cX1_copyFrom 24 = .ok (.aload_n 0, 1) := by decide +kernel
theorem dX1_copyFrom_25 : decode cX1_copyFrom 25 = .ok (.aload_n 1, 1) := by decide +kernel
theorem dX1_copyFrom_26 : decode cX1_copyFrom 26 = .ok (.getfield 44, 3) := by decide +kernel
theorem dX1_copyFrom_29 : decode cX1_copyFrom 29 = .ok (.putfield 44, 3) := by decide +kernel
theorem dX1_copyFrom_32 : decode cX1_copyFrom 32 = .ok (.aload_n 1, 1) := by decide +kernel
theorem dX1_copyFrom_33 : decode cX1_copyFrom 33 = .ok (.getfield 9, 3) := by decide +kernel
theorem dX1_copyFrom_36 : decode cX1_copyFrom 36 = .ok (.iconst 0, 1) := by decide +kernel
theorem dX1_copyFrom_37 : decode cX1_copyFrom 37 = .ok (.aload_n 0, 1) := by decide +kernel
theorem dX1_copyFrom_38 : decode cX1_copyFrom 38 = .ok (.getfield 9, 3) := by decide +kernel
theorem dX1_copyFrom_41 : decode cX1_copyFrom 41 = .ok (.iconst 0, 1) := by decide +kernel
theorem dX1_copyFrom_42 : decode cX1_copyFrom 42 = .ok (.bipush 8, 2) := by decide +kernel
theorem dX1_copyFrom_44 : decode cX1_copyFrom 44 = .ok (.invokestatic 50, 3) := by decide +kernel
theorem dX1_copyFrom_47 : decode cX1_copyFrom 47 = .ok (.aload_n 1, 1) := by decide +kernel
theorem dX1_copyFrom_48 : decode cX1_copyFrom 48 = .ok (.getfield 15, 3) := by decide +kernel
theorem dX1_copyFrom_51 : decode cX1_copyFrom 51 = .ok (.iconst 0, 1) := by decide +kernel
theorem dX1_copyFrom_52 : decode cX1_copyFrom 52 = .ok (.aload_n 0, 1) := by decide +kernel
theorem dX1_copyFrom_53 : decode cX1_copyFrom 53 = .ok (.getfield 15, 3) := by decide +kernel
theorem dX1_copyFrom_56 : decode cX1_copyFrom 56 = .ok (.iconst 0, 1) := by decide +kernel
theorem dX1_copyFrom_57 : decode cX1_copyFrom 57 = .ok (.bipush 8, 2) := by decide +kernel
theorem dX1_copyFrom_59 : decode cX1_copyFrom 59 = .ok (.invokestatic 50, 3) := by decide +kernel
theorem dX1_copyFrom_62 : decode cX1_copyFrom 62 = .ok (.aload_n 1, 1) := by decide +kernel
theorem dX1_copyFrom_63 : decode cX1_copyFrom 63 = .ok (.getfield 18, 3) := by decide +kernel
theorem dX1_copyFrom_66 : decode cX1_copyFrom 66 = .ok (.iconst 0, 1) := by decide +kernel
theorem dX1_copyFrom_67 : decode cX1_copyFrom 67 = .ok (.aload_n 0, 1) := by decide +kernel
theorem dX1_copyFrom_68 : decode cX1_copyFrom 68 = .ok (.getfield 18, 3) := by decide +kernel
theorem dX1_copyFrom_71 : decode cX1_copyFrom 71 = .ok (.iconst 0, 1) := by decide +kernel
theorem dX1_copyFrom_72 : decode cX1_copyFrom 72 = .ok (.bipush 8, 2) := by decide +kernel
theorem dX1_copyFrom_74 : decode cX1_copyFrom 74 = .ok (.invokestatic 50, 3) := by decide +kernel
theorem dX1_copyFrom_77 : decode cX1_copyFrom 77 = .ok (.aload_n 1, 1) := by decide +kernel
theorem dX1_copyFrom_78 : decode cX1_copyFrom 78 = .ok (.getfield 21, 3) := by decide +kernel
theorem dX1_copyFrom_81 : decode cX1_copyFrom 81 = .ok (.iconst 0, 1) := by decide +kernel
theorem dX1_copyFrom_82 : decode cX1_copyFrom 82 = .ok (.aload_n 0, 1) := by decide +kernel
theorem dX1_copyFrom_83 : decode cX1_copyFrom 83 = .ok (.getfield 21, 3) := by decide +kernel
theorem dX1_copyFrom_86 : decode cX1_copyFrom 86 = .ok (.iconst 0, 1) := by decide +kernel
theorem dX1_copyFrom_87 : decode cX1_copyFrom 87 = .ok (.bipush 8, 2) := by decide +kernel
theorem dX1_copyFrom_89 : decode cX1_copyFrom 89 = .ok (.invokestatic 50, 3) := by decide +kernel
theorem dX1_copyFrom_92 : decode cX1_copyFrom 92 = .ok (.return_, 1) := by decide +kernel
theorem dX1_isWhole_0 : decode cX1_isWhole 0 = .ok (.aload_n 0, 1) := by decide +kernel
theorem dX1_isWhole_1 : decode cX1_isWhole 1 = .ok (.getfield 41, 3) := by decide +kernel
theorem dX1_isWhole_4 : decode cX1_isWhole 4 = .ok (.iload_n 1, 1) := by decide +kernel
theorem dX1_isWhole_5 : decode cX1_isWhole 5 = .ok (.invokestatic 56, 3) := by decide +kernel
theorem dX1_isWhole_8 : decode cX1_isWhole 8 = .ok (.ireturn, 1) := by decide +kernel
theorem dX1_fateOf_0 : decode cX1_fateOf 0 = .ok (.aload_n 0, 1) := by decide +kernel
theorem dX1_fateOf_1 : decode cX1_fateOf 1 = .ok (.getfield 41, 3) := by decide +kernel
theorem dX1_fateOf_4 : decode cX1_fateOf 4 = .ok (.iload_n 1, 1) := by decide +kernel
theorem dX1_fateOf_5 : decode cX1_fateOf 5 = .ok (.invokestatic 56, 3) := by decide +kernel
theorem dX1_fateOf_8 : decode cX1_fateOf 8 = .ok (.ifCond .eq 5, 3) := by decide +kernel
theorem dX1_fateOf_11 : decode cX1_fateOf 11 = .ok (.iconst 0, 1) := by decide +kernel
theorem dX1_fateOf_12 : decode cX1_fateOf 12 = .ok (.ireturn, 1) := by decide +kernel
theorem dX1_fateOf_13 : decode cX1_fateOf 13 = .ok (.aload_n 0, 1) := by decide +kernel
theorem dX1_fateOf_14 : decode cX1_fateOf 14 = .ok (.getfield 44, 3) := by decide +kernel
theorem dX1_fateOf_17 : decode cX1_fateOf 17 = .ok (.iload_n 1, 1) := by decide +kernel
theorem dX1_fateOf_18 : decode cX1_fateOf 18 = .ok (.invokestatic 56, 3) := by decide +kernel
theorem dX1_fateOf_21 : decode cX1_fateOf 21 = .ok (.ifCond .eq 7, 3) := by decide +kernel
theorem dX1_fateOf_24 : decode cX1_fateOf 24 = .ok (.iconst 1, 1) := by decide +kernel
theorem dX1_fateOf_25 : decode cX1_fateOf 25 = .ok (.goto 4, 3) := by decide +kernel
theorem dX1_fateOf_28 : decode cX1_fateOf 28 = .ok (.iconst 2, 1) := by decide +kernel
theorem dX1_fateOf_29 : decode cX1_fateOf 29 = .ok (.ireturn, 1) := by decide +kernel
theorem dX1_topOf_0 : decode cX1_topOf 0 = .ok (.iload_n 1, 1) := by decide +kernel
theorem dX1_topOf_1 : decode cX1_topOf 1 = .ok (.istore_n 3, 1) := by decide +kernel
theorem dX1_topOf_2 : decode cX1_topOf 2 = .ok (.iconst 0, 1) := by decide +kernel
theorem dX1_topOf_3 : decode cX1_topOf 3 = .ok (.istore 4, 2) := by decide +kernel
theorem dX1_topOf_5 : decode cX1_topOf 5 = .ok (.iload 4, 2) := by decide +kernel
theorem dX1_topOf_7 : decode cX1_topOf 7 = .ok (.bipush 8, 2) := by decide +kernel
theorem dX1_topOf_9 : decode cX1_topOf 9 = .ok (.if_icmp .ge 32, 3) := by decide +kernel
theorem dX1_topOf_12 : decode cX1_topOf 12 = .ok (.aload_n 0, 1) := by decide +kernel
theorem dX1_topOf_13 : decode cX1_topOf 13 = .ok (.getfield 15, 3) := by decide +kernel
theorem dX1_topOf_16 : decode cX1_topOf 16 = .ok (.iload_n 3, 1) := by decide +kernel
theorem dX1_topOf_17 : decode cX1_topOf 17 = .ok (.iaload, 1) := by decide +kernel
theorem dX1_topOf_18 : decode cX1_topOf 18 = .ok (.iload_n 2, 1) := by decide +kernel
theorem dX1_topOf_19 : decode cX1_topOf 19 = .ok (.iand, 1) := by decide +kernel
theorem dX1_topOf_20 : decode cX1_topOf 20 = .ok (.istore 5, 2) := by decide +kernel
theorem dX1_topOf_22 : decode cX1_topOf 22 = .ok (.iload 5, 2) := by decide +kernel
theorem dX1_topOf_24 : decode cX1_topOf 24 = .ok (.ifCond .ne 5, 3) := by decide +kernel
theorem dX1_topOf_27 : decode cX1_topOf 27 = .ok (.iload_n 3, 1) := by decide +kernel
theorem dX1_topOf_28 : decode cX1_topOf 28 = .ok (.ireturn, 1) := by decide +kernel
theorem dX1_topOf_29 : decode cX1_topOf 29 = .ok (.iload 5, 2) := by decide +kernel
theorem dX1_topOf_31 : decode cX1_topOf 31 = .ok (.invokestatic 60, 3) := by decide +kernel
theorem dX1_topOf_34 : decode cX1_topOf 34 = .ok (.istore_n 3, 1) := by decide +kernel
theorem dX1_topOf_35 : decode cX1_topOf 35 = .ok (.iinc 4 1, 3) := by decide +kernel
theorem dX1_topOf_38 : decode cX1_topOf 38 = .ok (.goto (-33), 3) := by decide +kernel
theorem dX1_topOf_41 : decode cX1_topOf 41 = .ok (.iload_n 3, 1) := by decide +kernel
theorem dX1_topOf_42 : decode cX1_topOf 42 = .ok (.ireturn, 1) := by decide +kernel
theorem dX1_fallOf_0 : decode cX1_fallOf 0 = .ok (.iload_n 2, 1) := by decide +kernel
theorem dX1_fallOf_1 : decode cX1_fallOf 1 = .ok (.iload_n 1, 1) := by decide +kernel
theorem dX1_fallOf_2 : decode cX1_fallOf 2 = .ok (.invokestatic 56, 3) := by decide +kernel
theorem dX1_fallOf_5 : decode cX1_fallOf 5 = .ok (.ifCond .ne 5, 3) := by decide +kernel
theorem dX1_fallOf_8 : decode cX1_fallOf 8 = .ok (.iconst 0, 1) := by decide +kernel
theorem dX1_fallOf_9 : decode cX1_fallOf 9 = .ok (.ireturn, 1) := by decide +kernel
theorem dX1_fallOf_10 : decode cX1_fallOf 10 = .ok (.aload_n 0, 1) := by decide +kernel
theorem dX1_fallOf_11 : decode cX1_fallOf 11 = .ok (.iload_n 1, 1) := by decide +kernel
theorem dX1_fallOf_12 : decode cX1_fallOf 12 = .ok (.iload_n 2, 1) := by decide +kernel
theorem dX1_fallOf_13 : decode cX1_fallOf 13 = .ok (.invokevirtual 66, 3) := by decide +kernel
theorem dX1_fallOf_16 : decode cX1_fallOf 16 = .ok (.istore_n 3, 1) := by decide +kernel
theorem dX1_fallOf_17 : decode cX1_fallOf 17 = .ok (.aload_n 0, 1) := by decide +kernel
theorem dX1_fallOf_18 : decode cX1_fallOf 18 = .ok (.getfield 24, 3) := by decide +kernel
theorem dX1_fallOf_21 : decode cX1_fallOf 21 = .ok (.iload_n 3, 1) := by decide +kernel
theorem dX1_fallOf_22 : decode cX1_fallOf 22 = .ok (.invokevirtual 70, 3) := by decide +kernel
theorem dX1_fallOf_25 : decode cX1_fallOf 25 = .ok (.ifCond .eq 7, 3) := by decide +kernel
theorem dX1_fallOf_28 : decode cX1_fallOf 28 = .ok (.iconst 0, 1) := by decide +kernel
theorem dX1_fallOf_29 : decode cX1_fallOf 29 = .ok (.goto 15, 3) := by decide +kernel
theorem dX1_fallOf_32 : decode cX1_fallOf 32 = .ok (.aload_n 0, 1) := by decide +kernel
theorem dX1_fallOf_33 : decode cX1_fallOf 33 = .ok (.getfield 18, 3) := by decide +kernel
theorem dX1_fallOf_36 : decode cX1_fallOf 36 = .ok (.iload_n 3, 1) := by decide +kernel
theorem dX1_fallOf_37 : decode cX1_fallOf 37 = .ok (.invokestatic 74, 3) := by decide +kernel
theorem dX1_fallOf_40 : decode cX1_fallOf 40 = .ok (.iload_n 2, 1) := by decide +kernel
theorem dX1_fallOf_41 : decode cX1_fallOf 41 = .ok (.invokestatic 77, 3) := by decide +kernel
theorem dX1_fallOf_44 : decode cX1_fallOf 44 = .ok (.ireturn, 1) := by decide +kernel
theorem dX1_cutAt_0 : decode cX1_cutAt 0 = .ok (.aload_n 0, 1) := by decide +kernel
theorem dX1_cutAt_1 : decode cX1_cutAt 1 = .ok (.iload_n 1, 1) := by decide +kernel
theorem dX1_cutAt_2 : decode cX1_cutAt 2 = .ok (.aload_n 0, 1) := by decide +kernel
theorem dX1_cutAt_3 : decode cX1_cutAt 3 = .ok (.getfield 41, 3) := by decide +kernel
theorem dX1_cutAt_6 : decode cX1_cutAt 6 = .ok (.invokevirtual 81, 3) := by decide +kernel
theorem dX1_cutAt_9 : decode cX1_cutAt 9 = .ok (.istore_n 2, 1) := by decide +kernel
theorem dX1_cutAt_10 : decode cX1_cutAt 10 = .ok (.aload_n 0, 1) := by decide +kernel
theorem dX1_cutAt_11 : decode cX1_cutAt 11 = .ok (.dup, 1) := by decide +kernel
theorem dX1_cutAt_12 : decode cX1_cutAt 12 = .ok (.getfield 32, 3) := by decide +kernel
theorem dX1_cutAt_15 : decode cX1_cutAt 15 = .ok (.aload_n 0, 1) := by decide +kernel
theorem dX1_cutAt_16 : decode cX1_cutAt 16 = .ok (.getfield 24, 3) := by decide +kernel
theorem dX1_cutAt_19 : decode cX1_cutAt 19 = .ok (.iload_n 2, 1) := by decide +kernel
theorem dX1_cutAt_20 : decode cX1_cutAt 20 = .ok (.aload_n 0, 1) := by decide +kernel
theorem dX1_cutAt_21 : decode cX1_cutAt 21 = .ok (.getfield 28, 3) := by decide +kernel
theorem dX1_cutAt_24 : decode cX1_cutAt 24 = .ok (.invokevirtual 84, 3) := by decide +kernel
theorem dX1_cutAt_27 : decode cX1_cutAt 27 = .ok (.iadd, 1) := by decide +kernel
theorem dX1_cutAt_28 : decode cX1_cutAt 28 = .ok (.putfield 32, 3) := by decide +kernel
theorem dX1_cutAt_31 : decode cX1_cutAt 31 = .ok (.aload_n 0, 1) := by decide +kernel
theorem dX1_cutAt_32 : decode cX1_cutAt 32 = .ok (.dup, 1) := by decide +kernel
theorem dX1_cutAt_33 : decode cX1_cutAt 33 = .ok (.getfield 41, 3) := by decide +kernel
theorem dX1_cutAt_36 : decode cX1_cutAt 36 = .ok (.iload_n 2, 1) := by decide +kernel
theorem dX1_cutAt_37 : decode cX1_cutAt 37 = .ok (.iconst (-1), 1) := by decide +kernel
theorem dX1_cutAt_38 : decode cX1_cutAt 38 = .ok (.ixor, 1) := by decide +kernel
theorem dX1_cutAt_39 : decode cX1_cutAt 39 = .ok (.iand, 1) := by decide +kernel
theorem dX1_cutAt_40 : decode cX1_cutAt 40 = .ok (.putfield 41, 3) := by decide +kernel
theorem dX1_cutAt_43 : decode cX1_cutAt 43 = .ok (.aload_n 0, 1) := by decide +kernel
theorem dX1_cutAt_44 : decode cX1_cutAt 44 = .ok (.dup, 1) := by decide +kernel
theorem dX1_cutAt_45 : decode cX1_cutAt 45 = .ok (.getfield 44, 3) := by decide +kernel
theorem dX1_cutAt_48 : decode cX1_cutAt 48 = .ok (.iload_n 2, 1) := by decide +kernel
theorem dX1_cutAt_49 : decode cX1_cutAt 49 = .ok (.ior, 1) := by decide +kernel
theorem dX1_cutAt_50 : decode cX1_cutAt 50 = .ok (.putfield 44, 3) := by decide +kernel
theorem dX1_cutAt_53 : decode cX1_cutAt 53 = .ok (.iconst 0, 1) := by decide +kernel
theorem dX1_cutAt_54 : decode cX1_cutAt 54 = .ok (.istore_n 3, 1) := by decide +kernel
theorem dX1_cutAt_55 : decode cX1_cutAt 55 = .ok (.iload_n 3, 1) := by decide +kernel
theorem dX1_cutAt_56 : decode cX1_cutAt 56 = .ok (.bipush 8, 2) := by decide +kernel
theorem dX1_cutAt_58 : decode cX1_cutAt 58 = .ok (.if_icmp .ge 27, 3) := by decide +kernel
theorem dX1_cutAt_61 : decode cX1_cutAt 61 = .ok (.iload_n 2, 1) := by decide +kernel
theorem dX1_cutAt_62 : decode cX1_cutAt 62 = .ok (.iload_n 3, 1) := by decide +kernel
theorem dX1_cutAt_63 : decode cX1_cutAt 63 = .ok (.invokestatic 56, 3) := by decide +kernel
theorem dX1_cutAt_66 : decode cX1_cutAt 66 = .ok (.ifCond .eq 13, 3) := by decide +kernel
theorem dX1_cutAt_69 : decode cX1_cutAt 69 = .ok (.aload_n 0, 1) := by decide +kernel
theorem dX1_cutAt_70 : decode cX1_cutAt 70 = .ok (.getfield 21, 3) := by decide +kernel
theorem dX1_cutAt_73 : decode cX1_cutAt 73 = .ok (.iload_n 3, 1) := by decide +kernel
theorem dX1_cutAt_74 : decode cX1_cutAt 74 = .ok (.aload_n 0, 1) := by decide +kernel
theorem dX1_cutAt_75 : decode cX1_cutAt 75 = .ok (.getfield 28, 3) := by decide +kernel
theorem dX1_cutAt_78 : decode cX1_cutAt 78 = .ok (.iastore, 1) := by decide +kernel
theorem dX1_cutAt_79 : decode cX1_cutAt 79 = .ok (.iinc 3 1, 3) := by decide +kernel
theorem dX1_cutAt_82 : decode cX1_cutAt 82 = .ok (.goto (-27), 3) := by decide +kernel
theorem dX1_cutAt_85 : decode cX1_cutAt 85 = .ok (.iload_n 2, 1) := by decide +kernel
theorem dX1_cutAt_86 : decode cX1_cutAt 86 = .ok (.ireturn, 1) := by decide +kernel
theorem dX1_endDays_0 : decode cX1_endDays 0 = .ok (.iconst 0, 1) := by decide +kernel
theorem dX1_endDays_1 : decode cX1_endDays 1 = .ok (.istore_n 2, 1) := by decide +kernel
theorem dX1_endDays_2 : decode cX1_endDays 2 = .ok (.iload_n 2, 1) := by decide +kernel
theorem dX1_endDays_3 : decode cX1_endDays 3 = .ok (.iload_n 1, 1) := by decide +kernel
theorem dX1_endDays_4 : decode cX1_endDays 4 = .ok (.if_icmp .ge 13, 3) := by decide +kernel
theorem dX1_endDays_7 : decode cX1_endDays 7 = .ok (.aload_n 0, 1) := by decide +kernel
theorem dX1_endDays_8 : decode cX1_endDays 8 = .ok (.invokevirtual 87, 3) := by decide +kernel
theorem dX1_endDays_11 : decode cX1_endDays 11 = .ok (.iinc 2 1, 3) := by decide +kernel
theorem dX1_endDays_14 : decode cX1_endDays 14 = .ok (.goto (-12), 3) := by decide +kernel
theorem dX1_endDays_17 : decode cX1_endDays 17 = .ok (.return_, 1) := by decide +kernel
theorem dX1_endDay_0 : decode cX1_endDay 0 = .ok (.iconst 0, 1) := by decide +kernel
theorem dX1_endDay_1 : decode cX1_endDay 1 = .ok (.istore_n 1, 1) := by decide +kernel
theorem dX1_endDay_2 : decode cX1_endDay 2 = .ok (.iload_n 1, 1) := by decide +kernel
theorem dX1_endDay_3 : decode cX1_endDay 3 = .ok (.aload_n 0, 1) := by decide +kernel
theorem dX1_endDay_4 : decode cX1_endDay 4 = .ok (.getfield 24, 3) := by decide +kernel
theorem dX1_endDay_7 : decode cX1_endDay 7 = .ok (.getfield 90, 3) := by decide +kernel
theorem dX1_endDay_10 : decode cX1_endDay 10 = .ok (.if_icmp .ge 39, 3) := by decide +kernel
theorem dX1_endDay_13 : decode cX1_endDay 13 = .ok (.aload_n 0, 1) := by decide +kernel
theorem dX1_endDay_14 : decode cX1_endDay 14 = .ok (.getfield 24, 3) := by decide +kernel
theorem dX1_endDay_17 : decode cX1_endDay 17 = .ok (.getfield 93, 3) := by decide +kernel
theorem dX1_endDay_20 : decode cX1_endDay 20 = .ok (.iload_n 1, 1) := by decide +kernel
theorem dX1_endDay_21 : decode cX1_endDay 21 = .ok (.iaload, 1) := by decide +kernel
theorem dX1_endDay_22 : decode cX1_endDay 22 = .ok (.aload_n 0, 1) := by decide +kernel
theorem dX1_endDay_23 : decode cX1_endDay 23 = .ok (.getfield 28, 3) := by decide +kernel
theorem dX1_endDay_26 : decode cX1_endDay 26 = .ok (.if_icmp .ne 17, 3) := by decide +kernel
theorem dX1_endDay_29 : decode cX1_endDay 29 = .ok (.aload_n 0, 1) := by decide +kernel
theorem dX1_endDay_30 : decode cX1_endDay 30 = .ok (.aload_n 0, 1) := by decide +kernel
theorem dX1_endDay_31 : decode cX1_endDay 31 = .ok (.getfield 24, 3) := by decide +kernel
theorem dX1_endDay_34 : decode cX1_endDay 34 = .ok (.getfield 96, 3) := by decide +kernel
theorem dX1_endDay_37 : decode cX1_endDay 37 = .ok (.iload_n 1, 1) := by decide +kernel
theorem dX1_endDay_38 : decode cX1_endDay 38 = .ok (.iaload, 1) := by decide +kernel
theorem dX1_endDay_39 : decode cX1_endDay 39 = .ok (.invokevirtual 99, 3) := by decide +kernel
theorem dX1_endDay_42 : decode cX1_endDay 42 = .ok (.pop, 1) := by decide +kernel
theorem dX1_endDay_43 : decode cX1_endDay 43 = .ok (.iinc 1 1, 3) := by decide +kernel
theorem dX1_endDay_46 : decode cX1_endDay 46 = .ok (.goto (-44), 3) := by decide +kernel
theorem dX1_endDay_49 : decode cX1_endDay 49 = .ok (.aload_n 0, 1) := by decide +kernel
theorem dX1_endDay_50 : decode cX1_endDay 50 = .ok (.dup, 1) := by decide +kernel
theorem dX1_endDay_51 : decode cX1_endDay 51 = .ok (.getfield 28, 3) := by decide +kernel
theorem dX1_endDay_54 : decode cX1_endDay 54 = .ok (.iconst 1, 1) := by decide +kernel
theorem dX1_endDay_55 : decode cX1_endDay 55 = .ok (.iadd, 1) := by decide +kernel
theorem dX1_endDay_56 : decode cX1_endDay 56 = .ok (.putfield 28, 3) := by decide +kernel
theorem dX1_endDay_59 : decode cX1_endDay 59 = .ok (.aload_n 0, 1) := by decide +kernel
theorem dX1_endDay_60 : decode cX1_endDay 60 = .ok (.aload_n 0, 1) := by decide +kernel
theorem dX1_endDay_61 : decode cX1_endDay 61 = .ok (.getfield 24, 3) := by decide +kernel
theorem dX1_endDay_64 : decode cX1_endDay 64 = .ok (.aload_n 0, 1) := by decide +kernel
theorem dX1_endDay_65 : decode cX1_endDay 65 = .ok (.getfield 41, 3) := by decide +kernel
theorem dX1_endDay_68 : decode cX1_endDay 68 = .ok (.aload_n 0, 1) := by decide +kernel
theorem dX1_endDay_69 : decode cX1_endDay 69 = .ok (.getfield 28, 3) := by decide +kernel
theorem dX1_endDay_72 : decode cX1_endDay 72 = .ok (.invokevirtual 102, 3) := by decide +kernel
theorem dX1_endDay_75 : decode cX1_endDay 75 = .ok (.putfield 41, 3) := by decide +kernel
theorem dX1_endDay_78 : decode cX1_endDay 78 = .ok (.return_, 1) := by decide +kernel
theorem dX1_liesOver_0 : decode cX1_liesOver 0 = .ok (.iconst 0, 1) := by decide +kernel
theorem dX1_liesOver_1 : decode cX1_liesOver 1 = .ok (.istore_n 2, 1) := by decide +kernel
theorem dX1_liesOver_2 : decode cX1_liesOver 2 = .ok (.iconst 0, 1) := by decide +kernel
theorem dX1_liesOver_3 : decode cX1_liesOver 3 = .ok (.istore_n 3, 1) := by decide +kernel
theorem dX1_liesOver_4 : decode cX1_liesOver 4 = .ok (.iload_n 3, 1) := by decide +kernel
theorem dX1_liesOver_5 : decode cX1_liesOver 5 = .ok (.bipush 8, 2) := by decide +kernel
theorem dX1_liesOver_7 : decode cX1_liesOver 7 = .ok (.if_icmp .ge 25, 3) := by decide +kernel
theorem dX1_liesOver_10 : decode cX1_liesOver 10 = .ok (.aload_n 0, 1) := by decide +kernel
theorem dX1_liesOver_11 : decode cX1_liesOver 11 = .ok (.getfield 15, 3) := by decide +kernel
theorem dX1_liesOver_14 : decode cX1_liesOver 14 = .ok (.iload_n 3, 1) := by decide +kernel
theorem dX1_liesOver_15 : decode cX1_liesOver 15 = .ok (.iaload, 1) := by decide +kernel
theorem dX1_liesOver_16 : decode cX1_liesOver 16 = .ok (.iload_n 1, 1) := by decide +kernel
theorem dX1_liesOver_17 : decode cX1_liesOver 17 = .ok (.invokestatic 56, 3) := by decide +kernel
theorem dX1_liesOver_20 : decode cX1_liesOver 20 = .ok (.ifCond .eq 6, 3) := by decide +kernel
theorem dX1_liesOver_23 : decode cX1_liesOver 23 = .ok (.iinc 2 1, 3) := by decide +kernel
theorem dX1_liesOver_26 : decode cX1_liesOver 26 = .ok (.iinc 3 1, 3) := by decide +kernel
theorem dX1_liesOver_29 : decode cX1_liesOver 29 = .ok (.goto (-25), 3) := by decide +kernel
theorem dX1_liesOver_32 : decode cX1_liesOver 32 = .ok (.iload_n 2, 1) := by decide +kernel
theorem dX1_liesOver_33 : decode cX1_liesOver 33 = .ok (.ireturn, 1) := by decide +kernel
theorem dX1_takeOff_0 : decode cX1_takeOff 0 = .ok (.iconst 0, 1) := by decide +kernel
theorem dX1_takeOff_1 : decode cX1_takeOff 1 = .ok (.istore_n 2, 1) := by decide +kernel
theorem dX1_takeOff_2 : decode cX1_takeOff 2 = .ok (.iload_n 2, 1) := by decide +kernel
theorem dX1_takeOff_3 : decode cX1_takeOff 3 = .ok (.bipush 8, 2) := by decide +kernel
theorem dX1_takeOff_5 : decode cX1_takeOff 5 = .ok (.if_icmp .ge 24, 3) := by decide +kernel
theorem dX1_takeOff_8 : decode cX1_takeOff 8 = .ok (.aload_n 0, 1) := by decide +kernel
theorem dX1_takeOff_9 : decode cX1_takeOff 9 = .ok (.getfield 15, 3) := by decide +kernel
theorem dX1_takeOff_12 : decode cX1_takeOff 12 = .ok (.iload_n 2, 1) := by decide +kernel
theorem dX1_takeOff_13 : decode cX1_takeOff 13 = .ok (.dup2, 1) := by decide +kernel
theorem dX1_takeOff_14 : decode cX1_takeOff 14 = .ok (.iaload, 1) := by decide +kernel
theorem dX1_takeOff_15 : decode cX1_takeOff 15 = .ok (.iload_n 1, 1) := by decide +kernel
theorem dX1_takeOff_16 : decode cX1_takeOff 16 = .ok (.invokestatic 74, 3) := by decide +kernel
theorem dX1_takeOff_19 : decode cX1_takeOff 19 = .ok (.iconst (-1), 1) := by decide +kernel
theorem dX1_takeOff_20 : decode cX1_takeOff 20 = .ok (.ixor, 1) := by decide +kernel
theorem dX1_takeOff_21 : decode cX1_takeOff 21 = .ok (.iand, 1) := by decide +kernel
theorem dX1_takeOff_22 : decode cX1_takeOff 22 = .ok (.iastore, 1) := by decide +kernel
theorem dX1_takeOff_23 : decode cX1_takeOff 23 = .ok (.iinc 2 1, 3) := by decide +kernel
theorem dX1_takeOff_26 : decode cX1_takeOff 26 = .ok (.goto (-24), 3) := by decide +kernel
theorem dX1_takeOff_29 : decode cX1_takeOff 29 = .ok (.return_, 1) := by decide +kernel
theorem dX1_canGive_0 : decode cX1_canGive 0 = .ok (.aload_n 0, 1) := by decide +kernel
theorem dX1_canGive_1 : decode cX1_canGive 1 = .ok (.iload_n 1, 1) := by decide +kernel
theorem dX1_canGive_2 : decode cX1_canGive 2 = .ok (.invokevirtual 105, 3) := by decide +kernel
theorem dX1_canGive_5 : decode cX1_canGive 5 = .ok (.ifCond .eq 14, 3) := by decide +kernel
theorem dX1_canGive_8 : decode cX1_canGive 8 = .ok (.aload_n 0, 1) := by decide +kernel
theorem dX1_canGive_9 : decode cX1_canGive 9 = .ok (.getfield 24, 3) := by decide +kernel
theorem dX1_canGive_12 : decode cX1_canGive 12 = .ok (.iload_n 1, 1) := by decide +kernel
theorem dX1_canGive_13 : decode cX1_canGive 13 = .ok (.invokevirtual 70, 3) := by decide +kernel
theorem dX1_canGive_16 : decode cX1_canGive 16 = .ok (.ifCond .eq 5, 3) := by decide +kernel
theorem dX1_canGive_19 : decode cX1_canGive 19 = .ok (.iconst 0, 1) := by decide +kernel
theorem dX1_canGive_20 : decode cX1_canGive 20 = .ok (.ireturn, 1) := by decide +kernel
theorem dX1_canGive_21 : decode cX1_canGive 21 = .ok (.aload_n 0, 1) := by decide +kernel
theorem dX1_canGive_22 : decode cX1_canGive 22 = .ok (.getfield 24, 3) := by decide +kernel
theorem dX1_canGive_25 : decode cX1_canGive 25 = .ok (.getfield 108, 3) := by decide +kernel
theorem dX1_canGive_28 : decode cX1_canGive 28 = .ok (.iload_n 1, 1) := by decide +kernel
theorem dX1_canGive_29 : decode cX1_canGive 29 = .ok (.iaload, 1) := by decide +kernel
theorem dX1_canGive_30 : decode cX1_canGive 30 = .ok (.iconst 1, 1) := by decide +kernel
theorem dX1_canGive_31 : decode cX1_canGive 31 = .ok (.if_icmp .ne 7, 3) := by decide +kernel
theorem dX1_canGive_34 : decode cX1_canGive 34 = .ok (.iconst 2, 1) := by decide +kernel
theorem dX1_canGive_35 : decode cX1_canGive 35 = .ok (.goto 4, 3) := by decide +kernel
theorem dX1_canGive_38 : decode cX1_canGive 38 = .ok (.iconst 1, 1) := by decide +kernel
theorem dX1_canGive_39 : decode cX1_canGive 39 = .ok (.istore_n 3, 1) := by decide +kernel
theorem dX1_canGive_40 : decode cX1_canGive 40 = .ok (.iconst 0, 1) := by decide +kernel
theorem dX1_canGive_41 : decode cX1_canGive 41 = .ok (.aload_n 0, 1) := by decide +kernel
theorem dX1_canGive_42 : decode cX1_canGive 42 = .ok (.getfield 24, 3) := by decide +kernel
theorem dX1_canGive_45 : decode cX1_canGive 45 = .ok (.iload_n 1, 1) := by decide +kernel
theorem dX1_canGive_46 : decode cX1_canGive 46 = .ok (.aload_n 0, 1) := by decide +kernel
theorem dX1_canGive_47 : decode cX1_canGive 47 = .ok (.getfield 28, 3) := by decide +kernel
theorem dX1_canGive_50 : decode cX1_canGive 50 = .ok (.invokevirtual 111, 3) := by decide +kernel
theorem dX1_canGive_53 : decode cX1_canGive 53 = .ok (.iload_n 2, 1) := by decide +kernel
theorem dX1_canGive_54 : decode cX1_canGive 54 = .ok (.isub, 1) := by decide +kernel
theorem dX1_canGive_55 : decode cX1_canGive 55 = .ok (.iload_n 3, 1) := by decide +kernel
theorem dX1_canGive_56 : decode cX1_canGive 56 = .ok (.idiv, 1) := by decide +kernel
theorem dX1_canGive_57 : decode cX1_canGive 57 = .ok (.invokestatic 114, 3) := by decide +kernel
theorem dX1_canGive_60 : decode cX1_canGive 60 = .ok (.ireturn, 1) := by decide +kernel
theorem dX2_init_0 : decode cX2_init 0 = .ok (.aload_n 0, 1) := by decide +kernel
theorem dX2_init_1 : decode cX2_init 1 = .ok (.invokespecial 3, 3) := by decide +kernel
theorem dX2_init_4 : decode cX2_init 4 = .ok (.aload_n 0, 1) := by decide +kernel
theorem dX2_init_5 : decode cX2_init 5 = .ok (.bipush 8, 2) := by decide +kernel
theorem dX2_init_7 : decode cX2_init 7 = .ok (.anewarray 9, 3) := by decide +kernel
theorem dX2_init_10 : decode cX2_init 10 = .ok (.putfield 11, 3) := by decide +kernel
theorem dX2_init_13 : decode cX2_init 13 = .ok (.iconst 0, 1) := by decide +kernel
theorem dX2_init_14 : decode cX2_init 14 = .ok (.istore_n 2, 1) := by decide +kernel
theorem dX2_init_15 : decode cX2_init 15 = .ok (.iload_n 2, 1) := by decide +kernel
theorem dX2_init_16 : decode cX2_init 16 = .ok (.bipush 8, 2) := by decide +kernel
theorem dX2_init_18 : decode cX2_init 18 = .ok (.if_icmp .ge 23, 3) := by decide +kernel
theorem dX2_init_21 : decode cX2_init 21 = .ok (.aload_n 0, 1) := by decide +kernel
theorem dX2_init_22 : decode cX2_init 22 = .ok (.getfield 11, 3) := by decide +kernel
theorem dX2_init_25 : decode cX2_init 25 = .ok (.iload_n 2, 1) := by decide +kernel
theorem dX2_init_26 : decode cX2_init 26 = .ok (.new 9, 3) := by decide +kernel
theorem dX2_init_29 : decode cX2_init 29 = .ok (.dup, 1) := by decide +kernel
theorem dX2_init_30 : decode cX2_init 30 = .ok (.aload_n 1, 1) := by decide +kernel
theorem dX2_init_31 : decode cX2_init 31 = .ok (.invokespecial 17, 3) := by decide +kernel
theorem dX2_init_34 : decode cX2_init 34 = .ok (.aastore, 1) := by decide +kernel
theorem dX2_init_35 : decode cX2_init 35 = .ok (.iinc 2 1, 3) := by decide +kernel
theorem dX2_init_38 : decode cX2_init 38 = .ok (.goto (-23), 3) := by decide +kernel
theorem dX2_init_41 : decode cX2_init 41 = .ok (.return_, 1) := by decide +kernel
theorem dX2_remember_0 : decode cX2_remember 0 = .ok (.aload_n 0, 1) := by decide +kernel
theorem dX2_remember_1 : decode cX2_remember 1 = .ok (.getfield 11, 3) := by decide +kernel
theorem dX2_remember_4 : decode cX2_remember 4 = .ok (.aload_n 0, 1) := by decide +kernel
theorem dX2_remember_5 : decode cX2_remember 5 = .ok (.getfield 20, 3) := by decide +kernel
theorem dX2_remember_8 : decode cX2_remember 8 = .ok (.aaload, 1) := by decide +kernel
theorem dX2_remember_9 : decode cX2_remember 9 = .ok (.aload_n 1, 1) := by decide +kernel
theorem dX2_remember_10 : decode cX2_remember 10 = .ok (.invokevirtual 24, 3) := by decide +kernel
theorem dX2_remember_13 : decode cX2_remember 13 = .ok (.aload_n 0, 1) := by decide +kernel
theorem dX2_remember_14 : decode cX2_remember 14 = .ok (.aload_n 0, 1) := by decide +kernel
theorem dX2_remember_15 : decode cX2_remember 15 = .ok (.getfield 20, 3) := by decide +kernel
theorem dX2_remember_18 : decode cX2_remember 18 = .ok (.iconst 1, 1) := by decide +kernel
theorem dX2_remember_19 : decode cX2_remember 19 = .ok (.iadd, 1) := by decide +kernel
theorem dX2_remember_20 : decode cX2_remember 20 = .ok (.bipush 8, 2) := by decide +kernel
theorem dX2_remember_22 : decode cX2_remember 22 = .ok (.irem, 1) := by decide +kernel
theorem dX2_remember_23 : decode cX2_remember 23 = .ok (.putfield 20, 3) := by decide +kernel
theorem dX2_remember_26 : decode cX2_remember 26 = .ok (.aload_n 0, 1) := by decide +kernel
theorem dX2_remember_27 : decode cX2_remember 27 = .ok (.bipush 8, 2) := by decide +kernel
theorem dX2_remember_29 : decode cX2_remember 29 = .ok (.aload_n 0, 1) := by decide +kernel
theorem dX2_remember_30 : decode cX2_remember 30 = .ok (.getfield 28, 3) := by decide +kernel
theorem dX2_remember_33 : decode cX2_remember 33 = .ok (.iconst 1, 1) := by decide +kernel
theorem dX2_remember_34 : decode cX2_remember 34 = .ok (.iadd, 1) := by decide +kernel
theorem dX2_remember_35 : decode cX2_remember 35 = .ok (.invokestatic 31, 3) := by decide +kernel
theorem dX2_remember_38 : decode cX2_remember 38 = .ok (.putfield 28, 3) := by decide +kernel
theorem dX2_remember_41 : decode cX2_remember 41 = .ok (.return_, 1) := by decide +kernel
theorem dX2_bringBack_0 : decode cX2_bringBack 0 = .ok (.aload_n 0, 1) := by decide +kernel
theorem dX2_bringBack_1 : decode cX2_bringBack 1 = .ok (.getfield 28, 3) := by decide +kernel
theorem dX2_bringBack_4 : decode cX2_bringBack 4 = .ok (.ifCond .ne 4, 3) := by decide +kernel
theorem dX2_bringBack_7 : decode cX2_bringBack 7 = .ok (.return_, 1) := by decide +kernel
theorem dX2_bringBack_8 : decode cX2_bringBack 8 = .ok (.aload_n 0, 1) := by decide +kernel
theorem dX2_bringBack_9 : decode cX2_bringBack 9 = .ok (.aload_n 0, 1) := by decide +kernel
theorem dX2_bringBack_10 : decode cX2_bringBack 10 = .ok (.getfield 20, 3) := by decide +kernel
theorem dX2_bringBack_13 : decode cX2_bringBack 13 = .ok (.bipush 8, 2) := by decide +kernel
theorem dX2_bringBack_15 : decode cX2_bringBack 15 = .ok (.iadd, 1) := by decide +kernel
theorem dX2_bringBack_16 : decode cX2_bringBack 16 = .ok (.iconst 1, 1) := by decide +kernel
theorem dX2_bringBack_17 : decode cX2_bringBack 17 = .ok (.isub, 1) := by decide +kernel
theorem dX2_bringBack_18 : decode cX2_bringBack 18 = .ok (.bipush 8, 2) := by decide +kernel
theorem dX2_bringBack_20 : decode cX2_bringBack 20 = .ok (.irem, 1) := by decide +kernel
theorem dX2_bringBack_21 : decode cX2_bringBack 21 = .ok (.putfield 20, 3) := by decide +kernel
theorem dX2_bringBack_24 : decode cX2_bringBack 24 = .ok (.aload_n 0, 1) := by decide +kernel
theorem dX2_bringBack_25 : decode cX2_bringBack 25 = .ok (.dup, 1) := by decide +kernel
theorem dX2_bringBack_26 : decode cX2_bringBack 26 = .ok (.getfield 28, 3) := by decide +kernel
theorem dX2_bringBack_29 : decode cX2_bringBack 29 = .ok (.iconst 1, 1) := by decide +kernel
theorem dX2_bringBack_30 : decode cX2_bringBack 30 = .ok (.isub, 1) := by decide +kernel
theorem dX2_bringBack_31 : decode cX2_bringBack 31 = .ok (.putfield 28, 3) := by decide +kernel
theorem dX2_bringBack_34 : decode cX2_bringBack 34 = .ok (.aload_n 1, 1) := by decide +kernel
theorem dX2_bringBack_35 : decode cX2_bringBack 35 = .ok (.aload_n 0, 1) := by decide +kernel
theorem dX2_bringBack_36 : decode cX2_bringBack 36 = .ok (.getfield 11, 3) := by decide +kernel
theorem dX2_bringBack_39 : decode cX2_bringBack 39 = .ok (.aload_n 0, 1) := by decide +kernel
theorem dX2_bringBack_40 : decode cX2_bringBack 40 = .ok (.getfield 20, 3) := by decide +kernel
theorem dX2_bringBack_43 : decode cX2_bringBack 43 = .ok (.aaload, 1) := by decide +kernel
theorem dX2_bringBack_44 : decode cX2_bringBack 44 = .ok (.invokevirtual 24, 3) := by decide +kernel
theorem dX2_bringBack_47 : decode cX2_bringBack 47 = .ok (.return_, 1) := by decide +kernel
theorem dX3_init_0 : decode cX3_init 0 = .ok (.aload_n 0, 1) := by decide +kernel
theorem dX3_init_1 : decode cX3_init 1 = .ok (.invokespecial 3, 3) := by decide +kernel
theorem dX3_init_4 : decode cX3_init 4 = .ok (.aload_n 0, 1) := by decide +kernel
theorem dX3_init_5 : decode cX3_init 5 = .ok (.bipush 8, 2) := by decide +kernel
theorem dX3_init_7 : decode cX3_init 7 = .ok (.newarray .int, 2) := by decide +kernel
theorem dX3_init_9 : decode cX3_init 9 = .ok (.putfield 9, 3) := by decide +kernel
theorem dX3_init_12 : decode cX3_init 12 = .ok (.aload_n 0, 1) := by decide +kernel
theorem dX3_init_13 : decode cX3_init 13 = .ok (.bipush 8, 2) := by decide +kernel
theorem dX3_init_15 : decode cX3_init 15 = .ok (.newarray .int, 2) := by decide +kernel
theorem dX3_init_17 : decode cX3_init 17 = .ok (.putfield 15, 3) := by decide +kernel
theorem dX3_init_20 : decode cX3_init 20 = .ok (.aload_n 0, 1) := by decide +kernel
theorem dX3_init_21 : decode cX3_init 21 = .ok (.aload_n 1, 1) := by decide +kernel
theorem dX3_init_22 : decode cX3_init 22 = .ok (.putfield 18, 3) := by decide +kernel
theorem dX3_init_25 : decode cX3_init 25 = .ok (.aload_n 0, 1) := by decide +kernel
theorem dX3_init_26 : decode cX3_init 26 = .ok (.aload_n 2, 1) := by decide +kernel
theorem dX3_init_27 : decode cX3_init 27 = .ok (.putfield 22, 3) := by decide +kernel
theorem dX3_init_30 : decode cX3_init 30 = .ok (.return_, 1) := by decide +kernel
theorem dX3_give_0 : decode cX3_give 0 = .ok (.aload_n 0, 1) := by decide +kernel
theorem dX3_give_1 : decode cX3_give 1 = .ok (.iconst (-1), 1) := by decide +kernel
theorem dX3_give_2 : decode cX3_give 2 = .ok (.putfield 26, 3) := by decide +kernel
theorem dX3_give_5 : decode cX3_give 5 = .ok (.aload_n 0, 1) := by decide +kernel
theorem dX3_give_6 : decode cX3_give 6 = .ok (.iconst 0, 1) := by decide +kernel
theorem dX3_give_7 : decode cX3_give 7 = .ok (.aload_n 0, 1) := by decide +kernel
theorem dX3_give_8 : decode cX3_give 8 = .ok (.getfield 22, 3) := by decide +kernel
theorem dX3_give_11 : decode cX3_give 11 = .ok (.getfield 30, 3) := by decide +kernel
theorem dX3_give_14 : decode cX3_give 14 = .ok (.iconst 0, 1) := by decide +kernel
theorem dX3_give_15 : decode cX3_give 15 = .ok (.invokevirtual 35, 3) := by decide +kernel
theorem dX3_give_18 : decode cX3_give 18 = .ok (.return_, 1) := by decide +kernel
theorem dX3_giveFrom_0 : decode cX3_giveFrom 0 = .ok (.iload_n 1, 1) := by decide +kernel
theorem dX3_giveFrom_1 : decode cX3_giveFrom 1 = .ok (.aload_n 0, 1) := by decide +kernel
theorem dX3_giveFrom_2 : decode cX3_giveFrom 2 = .ok (.getfield 18, 3) := by decide +kernel
theorem dX3_giveFrom_5 : decode cX3_giveFrom 5 = .ok (.getfield 39, 3) := by decide +kernel
theorem dX3_giveFrom_8 : decode cX3_giveFrom 8 = .ok (.if_icmp .ge 9, 3) := by decide +kernel
theorem dX3_giveFrom_11 : decode cX3_giveFrom 11 = .ok (.iload_n 1, 1) := by decide +kernel
theorem dX3_giveFrom_12 : decode cX3_giveFrom 12 = .ok (.bipush 8, 2) := by decide +kernel
theorem dX3_giveFrom_14 : decode cX3_giveFrom 14 = .ok (.if_icmp .lt 9, 3) := by decide +kernel
theorem dX3_giveFrom_17 : decode cX3_giveFrom 17 = .ok (.aload_n 0, 1) := by decide +kernel
theorem dX3_giveFrom_18 : decode cX3_giveFrom 18 = .ok (.iload_n 3, 1) := by decide +kernel
theorem dX3_giveFrom_19 : decode cX3_giveFrom 19 = .ok (.invokevirtual 44, 3) := by decide +kernel
theorem dX3_giveFrom_22 : decode cX3_giveFrom 22 = .ok (.return_, 1) := by decide +kernel
theorem dX3_giveFrom_23 : decode cX3_giveFrom 23 = .ok (.aload_n 0, 1) := by decide +kernel
theorem dX3_giveFrom_24 : decode cX3_giveFrom 24 = .ok (.getfield 9, 3) := by decide +kernel
theorem dX3_giveFrom_27 : decode cX3_giveFrom 27 = .ok (.iload_n 1, 1) := by decide +kernel
theorem dX3_giveFrom_28 : decode cX3_giveFrom 28 = .ok (.iconst (-1), 1) := by decide +kernel
theorem dX3_giveFrom_29 : decode cX3_giveFrom 29 = .ok (.iastore, 1) := by decide +kernel
theorem dX3_giveFrom_30 : decode cX3_giveFrom 30 = .ok (.aload_n 0, 1) := by decide +kernel
theorem dX3_giveFrom_31 : decode cX3_giveFrom 31 = .ok (.iload_n 1, 1) := by decide +kernel
theorem dX3_giveFrom_32 : decode cX3_giveFrom 32 = .ok (.iconst 1, 1) := by decide +kernel
theorem dX3_giveFrom_33 : decode cX3_giveFrom 33 = .ok (.iadd, 1) := by decide +kernel
theorem dX3_giveFrom_34 : decode cX3_giveFrom 34 = .ok (.iload_n 2, 1) := by decide +kernel
theorem dX3_giveFrom_35 : decode cX3_giveFrom 35 = .ok (.iload_n 3, 1) := by decide +kernel
theorem dX3_giveFrom_36 : decode cX3_giveFrom 36 = .ok (.invokevirtual 35, 3) := by decide +kernel
theorem dX3_giveFrom_39 : decode cX3_giveFrom 39 = .ok (.aload_n 0, 1) := by decide +kernel
theorem dX3_giveFrom_40 : decode cX3_giveFrom 40 = .ok (.getfield 22, 3) := by decide +kernel
theorem dX3_giveFrom_43 : decode cX3_giveFrom 43 = .ok (.getfield 48, 3) := by decide +kernel
theorem dX3_giveFrom_46 : decode cX3_giveFrom 46 = .ok (.iload_n 1, 1) := by decide +kernel
theorem dX3_giveFrom_47 : decode cX3_giveFrom 47 = .ok (.invokestatic 51, 3) := by decide +kernel
theorem dX3_giveFrom_50 : decode cX3_giveFrom 50 = .ok (.ifCond .eq 14, 3) := by decide +kernel
theorem dX3_giveFrom_53 : decode cX3_giveFrom 53 = .ok (.aload_n 0, 1) := by decide +kernel
theorem dX3_giveFrom_54 : decode cX3_giveFrom 54 = .ok (.getfield 18, 3) := by decide +kernel
theorem dX3_giveFrom_57 : decode cX3_giveFrom 57 = .ok (.iload_n 1, 1) := by decide +kernel
theorem dX3_giveFrom_58 : decode cX3_giveFrom 58 = .ok (.invokevirtual 55, 3) := by decide +kernel
theorem dX3_giveFrom_61 : decode cX3_giveFrom 61 = .ok (.ifCond .eq 4, 3) := by decide +kernel
theorem dX3_giveFrom_64 : decode cX3_giveFrom 64 = .ok (.return_, 1) := by decide +kernel
theorem dX3_giveFrom_65 : decode cX3_giveFrom 65 = .ok (.iconst 0, 1) := by decide +kernel
theorem dX3_giveFrom_66 : decode cX3_giveFrom 66 = .ok (.istore 4, 2) := by decide +kernel
theorem dX3_giveFrom_68 : decode cX3_giveFrom 68 = .ok (.iload 4, 2) := by decide +kernel
theorem dX3_giveFrom_70 : decode cX3_giveFrom 70 = .ok (.aload_n 0, 1) := by decide +kernel
theorem dX3_giveFrom_71 : decode cX3_giveFrom 71 = .ok (.getfield 18, 3) := by decide +kernel
theorem dX3_giveFrom_74 : decode cX3_giveFrom 74 = .ok (.getfield 39, 3) := by decide +kernel
theorem dX3_giveFrom_77 : decode cX3_giveFrom 77 = .ok (.if_icmp .ge 37, 3) := by decide +kernel
theorem dX3_giveFrom_80 : decode cX3_giveFrom 80 = .ok (.iload_n 2, 1) := by decide +kernel
theorem dX3_giveFrom_81 : decode cX3_giveFrom 81 = .ok (.iload 4, 2) := by decide +kernel
theorem dX3_giveFrom_83 : decode cX3_giveFrom 83 = .ok (.invokestatic 51, 3) := by decide +kernel
theorem dX3_giveFrom_86 : decode cX3_giveFrom 86 = .ok (.ifCond .eq 22, 3) := by decide +kernel
theorem dX3_giveFrom_89 : decode cX3_giveFrom 89 = .ok (.aload_n 0, 1) := by decide +kernel
theorem dX3_giveFrom_90 : decode cX3_giveFrom 90 = .ok (.iload_n 1, 1) := by decide +kernel
theorem dX3_giveFrom_91 : decode cX3_giveFrom 91 = .ok (.iload 4, 2) := by decide +kernel
theorem dX3_giveFrom_93 : decode cX3_giveFrom 93 = .ok (.invokevirtual 59, 3) := by decide +kernel
theorem dX3_giveFrom_96 : decode cX3_giveFrom 96 = .ok (.ifCond .eq 12, 3) := by decide +kernel
theorem dX3_giveFrom_99 : decode cX3_giveFrom 99 = .ok (.aload_n 0, 1) := by decide +kernel
theorem dX3_giveFrom_100 : decode cX3_giveFrom 100 = .ok (.iload 4, 2) := by decide +kernel
theorem dX3_giveFrom_102 : decode cX3_giveFrom 102 = .ok (.iload_n 1, 1) := by decide +kernel
theorem dX3_giveFrom_103 : decode cX3_giveFrom 103 = .ok (.iload_n 2, 1) := by decide +kernel
theorem dX3_giveFrom_104 : decode cX3_giveFrom 104 = .ok (.iload_n 3, 1) := by decide +kernel
theorem dX3_giveFrom_105 : decode cX3_giveFrom 105 = .ok (.invokevirtual 62, 3) := by decide +kernel
theorem dX3_giveFrom_108 : decode cX3_giveFrom 108 = .ok (.iinc 4 1, 3) := by decide +kernel
theorem dX3_giveFrom_111 : decode cX3_giveFrom 111 = .ok (.goto (-43), 3) := by decide +kernel
theorem dX3_giveFrom_114 : decode cX3_giveFrom 114 = .ok (.return_, 1) := by decide +kernel
theorem dX3_giveTo_0 : decode cX3_giveTo 0 = .ok (.aload_n 0, 1) := by decide +kernel
theorem dX3_giveTo_1 : decode cX3_giveTo 1 = .ok (.getfield 18, 3) := by decide +kernel
theorem dX3_giveTo_4 : decode cX3_giveTo 4 = .ok (.getfield 66, 3) := by decide +kernel
theorem dX3_giveTo_7 : decode cX3_giveTo 7 = .ok (.iload_n 2, 1) := by decide +kernel
theorem dX3_giveTo_8 : decode cX3_giveTo 8 = .ok (.iaload, 1) := by decide +kernel
theorem dX3_giveTo_9 : decode cX3_giveTo 9 = .ok (.aload_n 0, 1) := by decide +kernel
theorem dX3_giveTo_10 : decode cX3_giveTo 10 = .ok (.getfield 22, 3) := by decide +kernel
theorem dX3_giveTo_13 : decode cX3_giveTo 13 = .ok (.getfield 69, 3) := by decide +kernel
theorem dX3_giveTo_16 : decode cX3_giveTo 16 = .ok (.iload_n 2, 1) := by decide +kernel
theorem dX3_giveTo_17 : decode cX3_giveTo 17 = .ok (.iaload, 1) := by decide +kernel
theorem dX3_giveTo_18 : decode cX3_giveTo 18 = .ok (.isub, 1) := by decide +kernel
theorem dX3_giveTo_19 : decode cX3_giveTo 19 = .ok (.istore 5, 2) := by decide +kernel
theorem dX3_giveTo_21 : decode cX3_giveTo 21 = .ok (.aload_n 0, 1) := by decide +kernel
theorem dX3_giveTo_22 : decode cX3_giveTo 22 = .ok (.getfield 9, 3) := by decide +kernel
theorem dX3_giveTo_25 : decode cX3_giveTo 25 = .ok (.iload_n 2, 1) := by decide +kernel
theorem dX3_giveTo_26 : decode cX3_giveTo 26 = .ok (.iload_n 1, 1) := by decide +kernel
theorem dX3_giveTo_27 : decode cX3_giveTo 27 = .ok (.iastore, 1) := by decide +kernel
theorem dX3_giveTo_28 : decode cX3_giveTo 28 = .ok (.aload_n 0, 1) := by decide +kernel
theorem dX3_giveTo_29 : decode cX3_giveTo 29 = .ok (.iload_n 2, 1) := by decide +kernel
theorem dX3_giveTo_30 : decode cX3_giveTo 30 = .ok (.iconst 1, 1) := by decide +kernel
theorem dX3_giveTo_31 : decode cX3_giveTo 31 = .ok (.iadd, 1) := by decide +kernel
theorem dX3_giveTo_32 : decode cX3_giveTo 32 = .ok (.iload_n 3, 1) := by decide +kernel
theorem dX3_giveTo_33 : decode cX3_giveTo 33 = .ok (.iload_n 1, 1) := by decide +kernel
theorem dX3_giveTo_34 : decode cX3_giveTo 34 = .ok (.invokestatic 72, 3) := by decide +kernel
theorem dX3_giveTo_37 : decode cX3_giveTo 37 = .ok (.iconst (-1), 1) := by decide +kernel
theorem dX3_giveTo_38 : decode cX3_giveTo 38 = .ok (.ixor, 1) := by decide +kernel
theorem dX3_giveTo_39 : decode cX3_giveTo 39 = .ok (.iand, 1) := by decide +kernel
theorem dX3_giveTo_40 : decode cX3_giveTo 40 = .ok (.iload 4, 2) := by decide +kernel
theorem dX3_giveTo_42 : decode cX3_giveTo 42 = .ok (.iload 5, 2) := by decide +kernel
theorem dX3_giveTo_44 : decode cX3_giveTo 44 = .ok (.iadd, 1) := by decide +kernel
theorem dX3_giveTo_45 : decode cX3_giveTo 45 = .ok (.invokevirtual 35, 3) := by decide +kernel
theorem dX3_giveTo_48 : decode cX3_giveTo 48 = .ok (.return_, 1) := by decide +kernel
theorem dX3_fits_0 : decode cX3_fits 0 = .ok (.aload_n 0, 1) := by decide +kernel
theorem dX3_fits_1 : decode cX3_fits 1 = .ok (.getfield 18, 3) := by decide +kernel
theorem dX3_fits_4 : decode cX3_fits 4 = .ok (.iload_n 2, 1) := by decide +kernel
theorem dX3_fits_5 : decode cX3_fits 5 = .ok (.invokevirtual 55, 3) := by decide +kernel
theorem dX3_fits_8 : decode cX3_fits 8 = .ok (.ifCond .ne 28, 3) := by decide +kernel
theorem dX3_fits_11 : decode cX3_fits 11 = .ok (.aload_n 0, 1) := by decide +kernel
theorem dX3_fits_12 : decode cX3_fits 12 = .ok (.getfield 22, 3) := by decide +kernel
theorem dX3_fits_15 : decode cX3_fits 15 = .ok (.getfield 76, 3) := by decide +kernel
theorem dX3_fits_18 : decode cX3_fits 18 = .ok (.iload_n 2, 1) := by decide +kernel
theorem dX3_fits_19 : decode cX3_fits 19 = .ok (.iaload, 1) := by decide +kernel
theorem dX3_fits_20 : decode cX3_fits 20 = .ok (.aload_n 0, 1) := by decide +kernel
theorem dX3_fits_21 : decode cX3_fits 21 = .ok (.getfield 22, 3) := by decide +kernel
theorem dX3_fits_24 : decode cX3_fits 24 = .ok (.getfield 76, 3) := by decide +kernel
theorem dX3_fits_27 : decode cX3_fits 27 = .ok (.iload_n 1, 1) := by decide +kernel
theorem dX3_fits_28 : decode cX3_fits 28 = .ok (.iaload, 1) := by decide +kernel
theorem dX3_fits_29 : decode cX3_fits 29 = .ok (.if_icmp .ne 7, 3) := by decide +kernel
theorem dX3_fits_32 : decode cX3_fits 32 = .ok (.iconst 1, 1) := by decide +kernel
theorem dX3_fits_33 : decode cX3_fits 33 = .ok (.goto 4, 3) := by decide +kernel
theorem dX3_fits_36 : decode cX3_fits 36 = .ok (.iconst 0, 1) := by decide +kernel
theorem dX3_fits_37 : decode cX3_fits 37 = .ok (.ireturn, 1) := by decide +kernel
theorem dX3_take_0 : decode cX3_take 0 = .ok (.iload_n 1, 1) := by decide +kernel
theorem dX3_take_1 : decode cX3_take 1 = .ok (.aload_n 0, 1) := by decide +kernel
theorem dX3_take_2 : decode cX3_take 2 = .ok (.getfield 26, 3) := by decide +kernel
theorem dX3_take_5 : decode cX3_take 5 = .ok (.if_icmp .le 23, 3) := by decide +kernel
theorem dX3_take_8 : decode cX3_take 8 = .ok (.aload_n 0, 1) := by decide +kernel
theorem dX3_take_9 : decode cX3_take 9 = .ok (.iload_n 1, 1) := by decide +kernel
theorem dX3_take_10 : decode cX3_take 10 = .ok (.putfield 26, 3) := by decide +kernel
theorem dX3_take_13 : decode cX3_take 13 = .ok (.aload_n 0, 1) := by decide +kernel
theorem dX3_take_14 : decode cX3_take 14 = .ok (.getfield 9, 3) := by decide +kernel
theorem dX3_take_17 : decode cX3_take 17 = .ok (.iconst 0, 1) := by decide +kernel
theorem dX3_take_18 : decode cX3_take 18 = .ok (.aload_n 0, 1) := by decide +kernel
theorem dX3_take_19 : decode cX3_take 19 = .ok (.getfield 15, 3) := by decide +kernel
theorem dX3_take_22 : decode cX3_take 22 = .ok (.iconst 0, 1) := by decide +kernel
theorem dX3_take_23 : decode cX3_take 23 = .ok (.bipush 8, 2) := by decide +kernel
theorem dX3_take_25 : decode cX3_take 25 = .ok (.invokestatic 79, 3) := by decide +kernel
theorem dX3_take_28 : decode cX3_take 28 = .ok (.return_, 1) := by decide +kernel
theorem dX4_init_0 : decode cX4_init 0 = .ok (.aload_n 0, 1) := by decide +kernel
theorem dX4_init_1 : decode cX4_init 1 = .ok (.invokespecial 3, 3) := by decide +kernel
theorem dX4_init_4 : decode cX4_init 4 = .ok (.aload_n 0, 1) := by decide +kernel
theorem dX4_init_5 : decode cX4_init 5 = .ok (.bipush 8, 2) := by decide +kernel
theorem dX4_init_7 : decode cX4_init 7 = .ok (.newarray .int, 2) := by decide +kernel
theorem dX4_init_9 : decode cX4_init 9 = .ok (.putfield 9, 3) := by decide +kernel
theorem dX4_init_12 : decode cX4_init 12 = .ok (.aload_n 0, 1) := by decide +kernel
theorem dX4_init_13 : decode cX4_init 13 = .ok (.bipush 8, 2) := by decide +kernel
theorem dX4_init_15 : decode cX4_init 15 = .ok (.newarray .int, 2) := by decide +kernel
theorem dX4_init_17 : decode cX4_init 17 = .ok (.putfield 15, 3) := by decide +kernel
theorem dX4_init_20 : decode cX4_init 20 = .ok (.aload_n 0, 1) := by decide +kernel
theorem dX4_init_21 : decode cX4_init 21 = .ok (.bipush 8, 2) := by decide +kernel
theorem dX4_init_23 : decode cX4_init 23 = .ok (.newarray .int, 2) := by decide +kernel
theorem dX4_init_25 : decode cX4_init 25 = .ok (.putfield 18, 3) := by decide +kernel
theorem dX4_init_28 : decode cX4_init 28 = .ok (.aload_n 0, 1) := by decide +kernel
theorem dX4_init_29 : decode cX4_init 29 = .ok (.bipush 8, 2) := by decide +kernel
theorem dX4_init_31 : decode cX4_init 31 = .ok (.newarray .int, 2) := by decide +kernel
theorem dX4_init_33 : decode cX4_init 33 = .ok (.putfield 21, 3) := by decide +kernel
theorem dX4_init_36 : decode cX4_init 36 = .ok (.aload_n 0, 1) := by decide +kernel
theorem dX4_init_37 : decode cX4_init 37 = .ok (.bipush 8, 2) := by decide +kernel
theorem dX4_init_39 : decode cX4_init 39 = .ok (.newarray .int, 2) := by decide +kernel
theorem dX4_init_41 : decode cX4_init 41 = .ok (.putfield 24, 3) := by decide +kernel
theorem dX4_init_44 : decode cX4_init 44 = .ok (.aload_n 0, 1) := by decide +kernel
theorem dX4_init_45 : decode cX4_init 45 = .ok (.bipush 6, 2) := by decide +kernel
theorem dX4_init_47 : decode cX4_init 47 = .ok (.newarray .int, 2) := by decide +kernel
theorem dX4_init_49 : decode cX4_init 49 = .ok (.putfield 27, 3) := by decide +kernel
theorem dX4_init_52 : decode cX4_init 52 = .ok (.aload_n 0, 1) := by decide +kernel
theorem dX4_init_53 : decode cX4_init 53 = .ok (.bipush 6, 2) := by decide +kernel
theorem dX4_init_55 : decode cX4_init 55 = .ok (.newarray .int, 2) := by decide +kernel
theorem dX4_init_57 : decode cX4_init 57 = .ok (.putfield 30, 3) := by decide +kernel
theorem dX4_init_60 : decode cX4_init 60 = .ok (.return_, 1) := by decide +kernel
theorem dX4_copyFrom_0 : decode cX4_copyFrom 0 = .ok (.aload_n 0, 1) := by decide +kernel
theorem dX4_copyFrom_1 : decode cX4_copyFrom 1 = .ok (.aload_n 1, 1) := by decide +kernel
theorem dX4_copyFrom_2 : decode cX4_copyFrom 2 = .ok (.getfield 33, 3) := by decide +kernel
theorem dX4_copyFrom_5 : decode cX4_copyFrom 5 = .ok (.putfield 33, 3) := by decide +kernel
theorem dX4_copyFrom_8 : decode cX4_copyFrom 8 = .ok (.aload_n 0, 1) := by decide +kernel
theorem dX4_copyFrom_9 : decode cX4_copyFrom 9 = .ok (.aload_n 1, 1) := by decide +kernel
theorem dX4_copyFrom_10 : decode cX4_copyFrom 10 = .ok (.getfield 37, 3) := by decide +kernel
theorem dX4_copyFrom_13 : decode cX4_copyFrom 13 = .ok (.putfield 37, 3) := by decide +kernel
theorem dX4_copyFrom_16 : decode cX4_copyFrom 16 = .ok (.aload_n 1, 1) := by decide +kernel
theorem dX4_copyFrom_17 : decode cX4_copyFrom 17 = .ok (.getfield 9, 3) := by decide +kernel
theorem dX4_copyFrom_20 : decode cX4_copyFrom 20 = .ok (.iconst 0, 1) := by decide +kernel
theorem dX4_copyFrom_21 : decode cX4_copyFrom 21 = .ok (.aload_n 0, 1) := by decide +kernel
theorem dX4_copyFrom_22 : decode cX4_copyFrom 22 = .ok (.getfield 9, 3) := by decide +kernel
theorem dX4_copyFrom_25 : decode cX4_copyFrom 25 = .ok (.iconst 0, 1) := by decide +kernel
theorem dX4_copyFrom_26 : decode cX4_copyFrom 26 = .ok (.bipush 8, 2) := by decide +kernel
theorem dX4_copyFrom_28 : decode cX4_copyFrom 28 = .ok (.invokestatic 40, 3) := by decide +kernel
theorem dX4_copyFrom_31 : decode cX4_copyFrom 31 = .ok (.aload_n 1, 1) := by decide +kernel
theorem dX4_copyFrom_32 : decode cX4_copyFrom 32 = .ok (.getfield 15, 3) := by decide +kernel
theorem dX4_copyFrom_35 : decode cX4_copyFrom 35 = .ok (.iconst 0, 1) := by decide +kernel
theorem dX4_copyFrom_36 : decode cX4_copyFrom 36 = .ok (.aload_n 0, 1) := by decide +kernel
theorem dX4_copyFrom_37 : decode cX4_copyFrom 37 = .ok (.getfield 15, 3) := by decide +kernel
theorem dX4_copyFrom_40 : decode cX4_copyFrom 40 = .ok (.iconst 0, 1) := by decide +kernel
theorem dX4_copyFrom_41 : decode cX4_copyFrom 41 = .ok (.bipush 8, 2) := by decide +kernel
theorem dX4_copyFrom_43 : decode cX4_copyFrom 43 = .ok (.invokestatic 40, 3) := by decide +kernel
theorem dX4_copyFrom_46 : decode cX4_copyFrom 46 = .ok (.aload_n 1, 1) := by decide +kernel
theorem dX4_copyFrom_47 : decode cX4_copyFrom 47 = .ok (.getfield 18, 3) := by decide +kernel
theorem dX4_copyFrom_50 : decode cX4_copyFrom 50 = .ok (.iconst 0, 1) := by decide +kernel
theorem dX4_copyFrom_51 : decode cX4_copyFrom 51 = .ok (.aload_n 0, 1) := by decide +kernel
theorem dX4_copyFrom_52 : decode cX4_copyFrom 52 = .ok (.getfield 18, 3) := by decide +kernel
theorem dX4_copyFrom_55 : decode cX4_copyFrom 55 = .ok (.iconst 0, 1) := by decide +kernel
theorem dX4_copyFrom_56 : decode cX4_copyFrom 56 = .ok (.bipush 8, 2) := by decide +kernel
theorem dX4_copyFrom_58 : decode cX4_copyFrom 58 = .ok (.invokestatic 40, 3) := by decide +kernel
theorem dX4_copyFrom_61 : decode cX4_copyFrom 61 = .ok (.aload_n 1, 1) := by decide +kernel
theorem dX4_copyFrom_62 : decode cX4_copyFrom 62 = .ok (.getfield 21, 3) := by decide +kernel
theorem dX4_copyFrom_65 : decode cX4_copyFrom 65 = .ok (.iconst 0, 1) := by decide +kernel
theorem dX4_copyFrom_66 : decode cX4_copyFrom 66 = .ok (.aload_n 0, 1) := by decide +kernel
theorem dX4_copyFrom_67 : decode cX4_copyFrom 67 = .ok (.getfield 21, 3) := by decide +kernel
theorem dX4_copyFrom_70 : decode cX4_copyFrom 70 = .ok (.iconst 0, 1) := by decide +kernel
theorem dX4_copyFrom_71 : decode cX4_copyFrom 71 = .ok (.bipush 8, 2) := by decide +kernel
theorem dX4_copyFrom_73 : decode cX4_copyFrom 73 = .ok (.invokestatic 40, 3) := by decide +kernel
theorem dX4_copyFrom_76 : decode cX4_copyFrom 76 = .ok (.aload_n 1, 1) := by decide +kernel
theorem dX4_copyFrom_77 : decode cX4_copyFrom 77 = .ok (.getfield 24, 3) := by decide +kernel
theorem dX4_copyFrom_80 : decode cX4_copyFrom 80 = .ok (.iconst 0, 1) := by decide +kernel
theorem dX4_copyFrom_81 : decode cX4_copyFrom 81 = .ok (.aload_n 0, 1) := by decide +kernel
theorem dX4_copyFrom_82 : decode cX4_copyFrom 82 = .ok (.getfield 24, 3) := by decide +kernel
theorem dX4_copyFrom_85 : decode cX4_copyFrom 85 = .ok (.iconst 0, 1) := by decide +kernel
theorem dX4_copyFrom_86 : decode cX4_copyFrom 86 = .ok (.bipush 8, 2) := by decide +kernel
theorem dX4_copyFrom_88 : decode cX4_copyFrom 88 = .ok (.invokestatic 40, 3) := by decide +kernel
theorem dX4_copyFrom_91 : decode cX4_copyFrom 91 = .ok (.aload_n 1, 1) := by decide +kernel
theorem dX4_copyFrom_92 : decode cX4_copyFrom 92 = .ok (.getfield 27, 3) := by decide +kernel
theorem dX4_copyFrom_95 : decode cX4_copyFrom 95 = .ok (.iconst 0, 1) := by decide +kernel
theorem dX4_copyFrom_96 : decode cX4_copyFrom 96 = .ok (.aload_n 0, 1) := by decide +kernel
theorem dX4_copyFrom_97 : decode cX4_copyFrom 97 = .ok (.getfield 27, 3) := by decide +kernel
theorem dX4_copyFrom_100 : decode cX4_copyFrom 100 = .ok (.iconst 0, 1) := by decide +kernel
theorem dX4_copyFrom_101 : decode cX4_copyFrom 101 = .ok (.bipush 6, 2) := by decide +kernel
theorem dX4_copyFrom_103 : decode cX4_copyFrom 103 = .ok (.invokestatic 40, 3) := by decide +kernel
theorem dX4_copyFrom_106 : decode cX4_copyFrom 106 = .ok (.aload_n 1, 1) := by decide +kernel
theorem dX4_copyFrom_107 : decode cX4_copyFrom 107 = .ok (.getfield 30, 3) := by decide +kernel
theorem dX4_copyFrom_110 : decode cX4_copyFrom 110 = .ok (.iconst 0, 1) := by decide +kernel
theorem dX4_copyFrom_111 : decode cX4_copyFrom 111 = .ok (.aload_n 0, 1) := by decide +kernel
theorem dX4_copyFrom_112 : decode cX4_copyFrom 112 = .ok (.getfield 30, 3) := by decide +kernel
theorem dX4_copyFrom_115 : decode cX4_copyFrom 115 = .ok (.iconst 0, 1) := by decide +kernel
theorem dX4_copyFrom_116 : decode cX4_copyFrom 116 = .ok (.bipush 6, 2) := by decide +kernel
theorem dX4_copyFrom_118 : decode cX4_copyFrom 118 = .ok (.invokestatic 40, 3) := by decide +kernel
theorem dX4_copyFrom_121 : decode cX4_copyFrom 121 = .ok (.return_, 1) := by decide +kernel
theorem dX4_hasRoomFor_0 : decode cX4_hasRoomFor 0 = .ok (.iload_n 1, 1) := by decide +kernel
theorem dX4_hasRoomFor_1 : decode cX4_hasRoomFor 1 = .ok (.iconst 3, 1) := by decide +kernel
theorem dX4_hasRoomFor_2 : decode cX4_hasRoomFor 2 = .ok (.if_icmp .gt 18, 3) := by decide +kernel
theorem dX4_hasRoomFor_5 : decode cX4_hasRoomFor 5 = .ok (.aload_n 0, 1) := by decide +kernel
theorem dX4_hasRoomFor_6 : decode cX4_hasRoomFor 6 = .ok (.getfield 33, 3) := by decide +kernel
theorem dX4_hasRoomFor_9 : decode cX4_hasRoomFor 9 = .ok (.bipush 8, 2) := by decide +kernel
theorem dX4_hasRoomFor_11 : decode cX4_hasRoomFor 11 = .ok (.if_icmp .ge 7, 3) := by decide +kernel
theorem dX4_hasRoomFor_14 : decode cX4_hasRoomFor 14 = .ok (.iconst 1, 1) := by decide +kernel
theorem dX4_hasRoomFor_15 : decode cX4_hasRoomFor 15 = .ok (.goto 4, 3) := by decide +kernel
theorem dX4_hasRoomFor_18 : decode cX4_hasRoomFor 18 = .ok (.iconst 0, 1) := by decide +kernel
theorem dX4_hasRoomFor_19 : decode cX4_hasRoomFor 19 = .ok (.ireturn, 1) := by decide +kernel
theorem dX4_hasRoomFor_20 : decode cX4_hasRoomFor 20 = .ok (.iload_n 1, 1) := by decide +kernel
theorem dX4_hasRoomFor_21 : decode cX4_hasRoomFor 21 = .ok (.bipush 6, 2) := by decide +kernel
theorem dX4_hasRoomFor_23 : decode cX4_hasRoomFor 23 = .ok (.if_icmp .ne 12, 3) := by decide +kernel
theorem dX4_hasRoomFor_26 : decode cX4_hasRoomFor 26 = .ok (.aload_n 0, 1) := by decide +kernel
theorem dX4_hasRoomFor_27 : decode cX4_hasRoomFor 27 = .ok (.getfield 37, 3) := by decide +kernel
theorem dX4_hasRoomFor_30 : decode cX4_hasRoomFor 30 = .ok (.bipush 6, 2) := by decide +kernel
theorem dX4_hasRoomFor_32 : decode cX4_hasRoomFor 32 = .ok (.if_icmp .ge 7, 3) := by decide +kernel
theorem dX4_hasRoomFor_35 : decode cX4_hasRoomFor 35 = .ok (.iconst 1, 1) := by decide +kernel
theorem dX4_hasRoomFor_36 : decode cX4_hasRoomFor 36 = .ok (.goto 4, 3) := by decide +kernel
theorem dX4_hasRoomFor_39 : decode cX4_hasRoomFor 39 = .ok (.iconst 0, 1) := by decide +kernel
theorem dX4_hasRoomFor_40 : decode cX4_hasRoomFor 40 = .ok (.ireturn, 1) := by decide +kernel
theorem dX4_addThread_0 : decode cX4_addThread 0 = .ok (.aload_n 0, 1) := by decide +kernel
theorem dX4_addThread_1 : decode cX4_addThread 1 = .ok (.getfield 33, 3) := by decide +kernel
theorem dX4_addThread_4 : decode cX4_addThread 4 = .ok (.bipush 8, 2) := by decide +kernel
theorem dX4_addThread_6 : decode cX4_addThread 6 = .ok (.if_icmp .lt 4, 3) := by decide +kernel
theorem dX4_addThread_9 : decode cX4_addThread 9 = .ok (.return_, 1) := by decide +kernel
theorem dX4_addThread_10 : decode cX4_addThread 10 = .ok (.aload_n 0, 1) := by decide +kernel
theorem dX4_addThread_11 : decode cX4_addThread 11 = .ok (.getfield 9, 3) := by decide +kernel
theorem dX4_addThread_14 : decode cX4_addThread 14 = .ok (.aload_n 0, 1) := by decide +kernel
theorem dX4_addThread_15 : decode cX4_addThread 15 = .ok (.getfield 33, 3) := by decide +kernel
theorem dX4_addThread_18 : decode cX4_addThread 18 = .ok (.iload_n 1, 1) := by decide +kernel
theorem dX4_addThread_19 : decode cX4_addThread 19 = .ok (.iastore, 1) := by decide +kernel
theorem dX4_addThread_20 : decode cX4_addThread 20 = .ok (.aload_n 0, 1) := by decide +kernel
theorem dX4_addThread_21 : decode cX4_addThread 21 = .ok (.getfield 15, 3) := by decide +kernel
theorem dX4_addThread_24 : decode cX4_addThread 24 = .ok (.aload_n 0, 1) := by decide +kernel
theorem dX4_addThread_25 : decode cX4_addThread 25 = .ok (.getfield 33, 3) := by decide +kernel
theorem dX4_addThread_28 : decode cX4_addThread 28 = .ok (.iload_n 2, 1) := by decide +kernel
theorem dX4_addThread_29 : decode cX4_addThread 29 = .ok (.iastore, 1) := by decide +kernel
theorem dX4_addThread_30 : decode cX4_addThread 30 = .ok (.aload_n 0, 1) := by decide +kernel
theorem dX4_addThread_31 : decode cX4_addThread 31 = .ok (.getfield 18, 3) := by decide +kernel
theorem dX4_addThread_34 : decode cX4_addThread 34 = .ok (.aload_n 0, 1) := by decide +kernel
theorem dX4_addThread_35 : decode cX4_addThread 35 = .ok (.getfield 33, 3) := by decide +kernel
theorem dX4_addThread_38 : decode cX4_addThread 38 = .ok (.iload_n 3, 1) := by decide +kernel
theorem dX4_addThread_39 : decode cX4_addThread 39 = .ok (.iastore, 1) := by decide +kernel
theorem dX4_addThread_40 : decode cX4_addThread 40 = .ok (.aload_n 0, 1) := by decide +kernel
theorem dX4_addThread_41 : decode cX4_addThread 41 = .ok (.dup, 1) := by decide +kernel
theorem dX4_addThread_42 : decode cX4_addThread 42 = .ok (.getfield 33, 3) := by decide +kernel
theorem dX4_addThread_45 : decode cX4_addThread 45 = .ok (.iconst 1, 1) := by decide +kernel
theorem dX4_addThread_46 : decode cX4_addThread 46 = .ok (.iadd, 1) := by decide +kernel
theorem dX4_addThread_47 : decode cX4_addThread 47 = .ok (.putfield 33, 3) := by decide +kernel
theorem dX4_addThread_50 : decode cX4_addThread 50 = .ok (.return_, 1) := by decide +kernel
theorem dX4_addOrder_0 : decode cX4_addOrder 0 = .ok (.aload_n 0, 1) := by decide +kernel
theorem dX4_addOrder_1 : decode cX4_addOrder 1 = .ok (.getfield 37, 3) := by decide +kernel
theorem dX4_addOrder_4 : decode cX4_addOrder 4 = .ok (.bipush 6, 2) := by decide +kernel
theorem dX4_addOrder_6 : decode cX4_addOrder 6 = .ok (.if_icmp .lt 4, 3) := by decide +kernel
theorem dX4_addOrder_9 : decode cX4_addOrder 9 = .ok (.return_, 1) := by decide +kernel
theorem dX4_addOrder_10 : decode cX4_addOrder 10 = .ok (.aload_n 0, 1) := by decide +kernel
theorem dX4_addOrder_11 : decode cX4_addOrder 11 = .ok (.getfield 27, 3) := by decide +kernel
theorem dX4_addOrder_14 : decode cX4_addOrder 14 = .ok (.aload_n 0, 1) := by decide +kernel
theorem dX4_addOrder_15 : decode cX4_addOrder 15 = .ok (.getfield 37, 3) := by decide +kernel
theorem dX4_addOrder_18 : decode cX4_addOrder 18 = .ok (.iload_n 1, 1) := by decide +kernel
theorem dX4_addOrder_19 : decode cX4_addOrder 19 = .ok (.iastore, 1) := by decide +kernel
theorem dX4_addOrder_20 : decode cX4_addOrder 20 = .ok (.aload_n 0, 1) := by decide +kernel
theorem dX4_addOrder_21 : decode cX4_addOrder 21 = .ok (.getfield 30, 3) := by decide +kernel
theorem dX4_addOrder_24 : decode cX4_addOrder 24 = .ok (.aload_n 0, 1) := by decide +kernel
theorem dX4_addOrder_25 : decode cX4_addOrder 25 = .ok (.getfield 37, 3) := by decide +kernel
theorem dX4_addOrder_28 : decode cX4_addOrder 28 = .ok (.iload_n 2, 1) := by decide +kernel
theorem dX4_addOrder_29 : decode cX4_addOrder 29 = .ok (.iastore, 1) := by decide +kernel
theorem dX4_addOrder_30 : decode cX4_addOrder 30 = .ok (.aload_n 0, 1) := by decide +kernel
theorem dX4_addOrder_31 : decode cX4_addOrder 31 = .ok (.dup, 1) := by decide +kernel
theorem dX4_addOrder_32 : decode cX4_addOrder 32 = .ok (.getfield 37, 3) := by decide +kernel
theorem dX4_addOrder_35 : decode cX4_addOrder 35 = .ok (.iconst 1, 1) := by decide +kernel
theorem dX4_addOrder_36 : decode cX4_addOrder 36 = .ok (.iadd, 1) := by decide +kernel
theorem dX4_addOrder_37 : decode cX4_addOrder 37 = .ok (.putfield 37, 3) := by decide +kernel
theorem dX4_addOrder_40 : decode cX4_addOrder 40 = .ok (.return_, 1) := by decide +kernel
theorem dX4_empty_0 : decode cX4_empty 0 = .ok (.aload_n 0, 1) := by decide +kernel
theorem dX4_empty_1 : decode cX4_empty 1 = .ok (.iconst 0, 1) := by decide +kernel
theorem dX4_empty_2 : decode cX4_empty 2 = .ok (.putfield 33, 3) := by decide +kernel
theorem dX4_empty_5 : decode cX4_empty 5 = .ok (.aload_n 0, 1) := by decide +kernel
theorem dX4_empty_6 : decode cX4_empty 6 = .ok (.iconst 0, 1) := by decide +kernel
theorem dX4_empty_7 : decode cX4_empty 7 = .ok (.putfield 37, 3) := by decide +kernel
theorem dX4_empty_10 : decode cX4_empty 10 = .ok (.aload_n 0, 1) := by decide +kernel
theorem dX4_empty_11 : decode cX4_empty 11 = .ok (.invokevirtual 46, 3) := by decide +kernel
theorem dX4_empty_14 : decode cX4_empty 14 = .ok (.return_, 1) := by decide +kernel
theorem dX4_loosen_0 : decode cX4_loosen 0 = .ok (.iconst 0, 1) := by decide +kernel
theorem dX4_loosen_1 : decode cX4_loosen 1 = .ok (.istore_n 1, 1) := by decide +kernel
theorem dX4_loosen_2 : decode cX4_loosen 2 = .ok (.iload_n 1, 1) := by decide +kernel
theorem dX4_loosen_3 : decode cX4_loosen 3 = .ok (.bipush 8, 2) := by decide +kernel
theorem dX4_loosen_5 : decode cX4_loosen 5 = .ok (.if_icmp .ge 23, 3) := by decide +kernel
theorem dX4_loosen_8 : decode cX4_loosen 8 = .ok (.aload_n 0, 1) := by decide +kernel
theorem dX4_loosen_9 : decode cX4_loosen 9 = .ok (.getfield 21, 3) := by decide +kernel
theorem dX4_loosen_12 : decode cX4_loosen 12 = .ok (.iload_n 1, 1) := by decide +kernel
theorem dX4_loosen_13 : decode cX4_loosen 13 = .ok (.iconst 0, 1) := by decide +kernel
theorem dX4_loosen_14 : decode cX4_loosen 14 = .ok (.iastore, 1) := by decide +kernel
theorem dX4_loosen_15 : decode cX4_loosen 15 = .ok (.aload_n 0, 1) := by decide +kernel
theorem dX4_loosen_16 : decode cX4_loosen 16 = .ok (.getfield 24, 3) := by decide +kernel
theorem dX4_loosen_19 : decode cX4_loosen 19 = .ok (.iload_n 1, 1) := by decide +kernel
theorem dX4_loosen_20 : decode cX4_loosen 20 = .ok (.iconst 0, 1) := by decide +kernel
theorem dX4_loosen_21 : decode cX4_loosen 21 = .ok (.iastore, 1) := by decide +kernel
theorem dX4_loosen_22 : decode cX4_loosen 22 = .ok (.iinc 1 1, 3) := by decide +kernel
theorem dX4_loosen_25 : decode cX4_loosen 25 = .ok (.goto (-23), 3) := by decide +kernel
theorem dX4_loosen_28 : decode cX4_loosen 28 = .ok (.return_, 1) := by decide +kernel
theorem dX4_all_0 : decode cX4_all 0 = .ok (.aload_n 0, 1) := by decide +kernel
theorem dX4_all_1 : decode cX4_all 1 = .ok (.getfield 33, 3) := by decide +kernel
theorem dX4_all_4 : decode cX4_all 4 = .ok (.invokestatic 49, 3) := by decide +kernel
theorem dX4_all_7 : decode cX4_all 7 = .ok (.iconst 1, 1) := by decide +kernel
theorem dX4_all_8 : decode cX4_all 8 = .ok (.isub, 1) := by decide +kernel
theorem dX4_all_9 : decode cX4_all 9 = .ok (.ireturn, 1) := by decide +kernel
theorem dX4_isOf_0 : decode cX4_isOf 0 = .ok (.aload_n 0, 1) := by decide +kernel
theorem dX4_isOf_1 : decode cX4_isOf 1 = .ok (.getfield 9, 3) := by decide +kernel
theorem dX4_isOf_4 : decode cX4_isOf 4 = .ok (.iload_n 1, 1) := by decide +kernel
theorem dX4_isOf_5 : decode cX4_isOf 5 = .ok (.iaload, 1) := by decide +kernel
theorem dX4_isOf_6 : decode cX4_isOf 6 = .ok (.istore_n 3, 1) := by decide +kernel
theorem dX4_isOf_7 : decode cX4_isOf 7 = .ok (.iload_n 2, 1) := by decide +kernel
theorem dX4_isOf_8 : decode cX4_isOf 8 = .ok (.ifCond .eq 20, 3) := by decide +kernel
theorem dX4_isOf_11 : decode cX4_isOf 11 = .ok (.iload_n 2, 1) := by decide +kernel
theorem dX4_isOf_12 : decode cX4_isOf 12 = .ok (.iload_n 3, 1) := by decide +kernel
theorem dX4_isOf_13 : decode cX4_isOf 13 = .ok (.iconst 1, 1) := by decide +kernel
theorem dX4_isOf_14 : decode cX4_isOf 14 = .ok (.iadd, 1) := by decide +kernel
theorem dX4_isOf_15 : decode cX4_isOf 15 = .ok (.if_icmp .eq 13, 3) := by decide +kernel
theorem dX4_isOf_18 : decode cX4_isOf 18 = .ok (.iload_n 2, 1) := by decide +kernel
theorem dX4_isOf_19 : decode cX4_isOf 19 = .ok (.iconst 1, 1) := by decide +kernel
theorem dX4_isOf_20 : decode cX4_isOf 20 = .ok (.if_icmp .ne 12, 3) := by decide +kernel
theorem dX4_isOf_23 : decode cX4_isOf 23 = .ok (.iload_n 3, 1) := by decide +kernel
theorem dX4_isOf_24 : decode cX4_isOf 24 = .ok (.iconst 3, 1) := by decide +kernel
theorem dX4_isOf_25 : decode cX4_isOf 25 = .ok (.if_icmp .eq 7, 3) := by decide +kernel
theorem dX4_isOf_28 : decode cX4_isOf 28 = .ok (.iconst 1, 1) := by decide +kernel
theorem dX4_isOf_29 : decode cX4_isOf 29 = .ok (.goto 4, 3) := by decide +kernel
theorem dX4_isOf_32 : decode cX4_isOf 32 = .ok (.iconst 0, 1) := by decide +kernel
theorem dX4_isOf_33 : decode cX4_isOf 33 = .ok (.ireturn, 1) := by decide +kernel
theorem dX4_isEndless_0 : decode cX4_isEndless 0 = .ok (.aload_n 0, 1) := by decide +kernel
theorem dX4_isEndless_1 : decode cX4_isEndless 1 = .ok (.getfield 9, 3) := by decide +kernel
theorem dX4_isEndless_4 : decode cX4_isEndless 4 = .ok (.iload_n 1, 1) := by decide +kernel
theorem dX4_isEndless_5 : decode cX4_isEndless 5 = .ok (.iaload, 1) := by decide +kernel
theorem dX4_isEndless_6 : decode cX4_isEndless 6 = .ok (.iconst 3, 1) := by decide +kernel
theorem dX4_isEndless_7 : decode cX4_isEndless 7 = .ok (.if_icmp .ne 7, 3) := by decide +kernel
theorem dX4_isEndless_10 : decode cX4_isEndless 10 = .ok (.iconst 1, 1) := by decide +kernel
theorem dX4_isEndless_11 : decode cX4_isEndless 11 = .ok (.goto 4, 3) := by decide +kernel
theorem dX4_isEndless_14 : decode cX4_isEndless 14 = .ok (.iconst 0, 1) := by decide +kernel
theorem dX4_isEndless_15 : decode cX4_isEndless 15 = .ok (.ireturn, 1) := by decide +kernel
theorem dX4_yearsOn_0 : decode cX4_yearsOn 0 = .ok (.aload_n 0, 1) := by decide +kernel
theorem dX4_yearsOn_1 : decode cX4_yearsOn 1 = .ok (.iload_n 1, 1) := by decide +kernel
theorem dX4_yearsOn_2 : decode cX4_yearsOn 2 = .ok (.invokevirtual 53, 3) := by decide +kernel
theorem dX4_yearsOn_5 : decode cX4_yearsOn 5 = .ok (.ifCond .eq 5, 3) := by decide +kernel
theorem dX4_yearsOn_8 : decode cX4_yearsOn 8 = .ok (.iconst 0, 1) := by decide +kernel
theorem dX4_yearsOn_9 : decode cX4_yearsOn 9 = .ok (.ireturn, 1) := by decide +kernel
theorem dX4_yearsOn_10 : decode cX4_yearsOn 10 = .ok (.iconst 0, 1) := by decide +kernel
theorem dX4_yearsOn_11 : decode cX4_yearsOn 11 = .ok (.aload_n 0, 1) := by decide +kernel
theorem dX4_yearsOn_12 : decode cX4_yearsOn 12 = .ok (.getfield 15, 3) := by decide +kernel
theorem dX4_yearsOn_15 : decode cX4_yearsOn 15 = .ok (.iload_n 1, 1) := by decide +kernel
theorem dX4_yearsOn_16 : decode cX4_yearsOn 16 = .ok (.iaload, 1) := by decide +kernel
theorem dX4_yearsOn_17 : decode cX4_yearsOn 17 = .ok (.iload_n 2, 1) := by decide +kernel
theorem dX4_yearsOn_18 : decode cX4_yearsOn 18 = .ok (.isub, 1) := by decide +kernel
theorem dX4_yearsOn_19 : decode cX4_yearsOn 19 = .ok (.invokestatic 57, 3) := by decide +kernel
theorem dX4_yearsOn_22 : decode cX4_yearsOn 22 = .ok (.istore_n 3, 1) := by decide +kernel
theorem dX4_yearsOn_23 : decode cX4_yearsOn 23 = .ok (.aload_n 0, 1) := by decide +kernel
theorem dX4_yearsOn_24 : decode cX4_yearsOn 24 = .ok (.getfield 9, 3) := by decide +kernel
theorem dX4_yearsOn_27 : decode cX4_yearsOn 27 = .ok (.iload_n 1, 1) := by decide +kernel
theorem dX4_yearsOn_28 : decode cX4_yearsOn 28 = .ok (.iaload, 1) := by decide +kernel
theorem dX4_yearsOn_29 : decode cX4_yearsOn 29 = .ok (.iconst 1, 1) := by decide +kernel
theorem dX4_yearsOn_30 : decode cX4_yearsOn 30 = .ok (.if_icmp .ne 9, 3) := by decide +kernel
theorem dX4_yearsOn_33 : decode cX4_yearsOn 33 = .ok (.iconst 2, 1) := by decide +kernel
theorem dX4_yearsOn_34 : decode cX4_yearsOn 34 = .ok (.iload_n 3, 1) := by decide +kernel
theorem dX4_yearsOn_35 : decode cX4_yearsOn 35 = .ok (.imul, 1) := by decide +kernel
theorem dX4_yearsOn_36 : decode cX4_yearsOn 36 = .ok (.goto 4, 3) := by decide +kernel
theorem dX4_yearsOn_39 : decode cX4_yearsOn 39 = .ok (.iload_n 3, 1) := by decide +kernel
theorem dX4_yearsOn_40 : decode cX4_yearsOn 40 = .ok (.ireturn, 1) := by decide +kernel
theorem dX4_lossOf_0 : decode cX4_lossOf 0 = .ok (.iconst 0, 1) := by decide +kernel
theorem dX4_lossOf_1 : decode cX4_lossOf 1 = .ok (.istore_n 3, 1) := by decide +kernel
theorem dX4_lossOf_2 : decode cX4_lossOf 2 = .ok (.iconst 0, 1) := by decide +kernel
theorem dX4_lossOf_3 : decode cX4_lossOf 3 = .ok (.istore 4, 2) := by decide +kernel
theorem dX4_lossOf_5 : decode cX4_lossOf 5 = .ok (.iload 4, 2) := by decide +kernel
theorem dX4_lossOf_7 : decode cX4_lossOf 7 = .ok (.aload_n 0, 1) := by decide +kernel
theorem dX4_lossOf_8 : decode cX4_lossOf 8 = .ok (.getfield 33, 3) := by decide +kernel
theorem dX4_lossOf_11 : decode cX4_lossOf 11 = .ok (.if_icmp .ge 39, 3) := by decide +kernel
theorem dX4_lossOf_14 : decode cX4_lossOf 14 = .ok (.iload_n 1, 1) := by decide +kernel
theorem dX4_lossOf_15 : decode cX4_lossOf 15 = .ok (.iload 4, 2) := by decide +kernel
theorem dX4_lossOf_17 : decode cX4_lossOf 17 = .ok (.invokestatic 63, 3) := by decide +kernel
theorem dX4_lossOf_20 : decode cX4_lossOf 20 = .ok (.ifCond .eq 24, 3) := by decide +kernel
theorem dX4_lossOf_23 : decode cX4_lossOf 23 = .ok (.aload_n 0, 1) := by decide +kernel
theorem dX4_lossOf_24 : decode cX4_lossOf 24 = .ok (.getfield 9, 3) := by decide +kernel
theorem dX4_lossOf_27 : decode cX4_lossOf 27 = .ok (.iload 4, 2) := by decide +kernel
theorem dX4_lossOf_29 : decode cX4_lossOf 29 = .ok (.iaload, 1) := by decide +kernel
theorem dX4_lossOf_30 : decode cX4_lossOf 30 = .ok (.iconst 2, 1) := by decide +kernel
theorem dX4_lossOf_31 : decode cX4_lossOf 31 = .ok (.if_icmp .eq 13, 3) := by decide +kernel
theorem dX4_lossOf_34 : decode cX4_lossOf 34 = .ok (.iload_n 3, 1) := by decide +kernel
theorem dX4_lossOf_35 : decode cX4_lossOf 35 = .ok (.aload_n 0, 1) := by decide +kernel
theorem dX4_lossOf_36 : decode cX4_lossOf 36 = .ok (.iload 4, 2) := by decide +kernel
theorem dX4_lossOf_38 : decode cX4_lossOf 38 = .ok (.iload_n 2, 1) := by decide +kernel
theorem dX4_lossOf_39 : decode cX4_lossOf 39 = .ok (.invokevirtual 67, 3) := by decide +kernel
theorem dX4_lossOf_42 : decode cX4_lossOf 42 = .ok (.iadd, 1) := by decide +kernel
theorem dX4_lossOf_43 : decode cX4_lossOf 43 = .ok (.istore_n 3, 1) := by decide +kernel
theorem dX4_lossOf_44 : decode cX4_lossOf 44 = .ok (.iinc 4 1, 3) := by decide +kernel
theorem dX4_lossOf_47 : decode cX4_lossOf 47 = .ok (.goto (-42), 3) := by decide +kernel
theorem dX4_lossOf_50 : decode cX4_lossOf 50 = .ok (.iload_n 3, 1) := by decide +kernel
theorem dX4_lossOf_51 : decode cX4_lossOf 51 = .ok (.ireturn, 1) := by decide +kernel
theorem dX4_lasting_0 : decode cX4_lasting 0 = .ok (.iconst 0, 1) := by decide +kernel
theorem dX4_lasting_1 : decode cX4_lasting 1 = .ok (.istore_n 3, 1) := by decide +kernel
theorem dX4_lasting_2 : decode cX4_lasting 2 = .ok (.iconst 0, 1) := by decide +kernel
theorem dX4_lasting_3 : decode cX4_lasting 3 = .ok (.istore 4, 2) := by decide +kernel
theorem dX4_lasting_5 : decode cX4_lasting 5 = .ok (.iload 4, 2) := by decide +kernel
theorem dX4_lasting_7 : decode cX4_lasting 7 = .ok (.aload_n 0, 1) := by decide +kernel
theorem dX4_lasting_8 : decode cX4_lasting 8 = .ok (.getfield 33, 3) := by decide +kernel
theorem dX4_lasting_11 : decode cX4_lasting 11 = .ok (.if_icmp .ge 46, 3) := by decide +kernel
theorem dX4_lasting_14 : decode cX4_lasting 14 = .ok (.iload_n 1, 1) := by decide +kernel
theorem dX4_lasting_15 : decode cX4_lasting 15 = .ok (.iload 4, 2) := by decide +kernel
theorem dX4_lasting_17 : decode cX4_lasting 17 = .ok (.invokestatic 63, 3) := by decide +kernel
theorem dX4_lasting_20 : decode cX4_lasting 20 = .ok (.ifCond .eq 31, 3) := by decide +kernel
theorem dX4_lasting_23 : decode cX4_lasting 23 = .ok (.aload_n 0, 1) := by decide +kernel
theorem dX4_lasting_24 : decode cX4_lasting 24 = .ok (.iload 4, 2) := by decide +kernel
theorem dX4_lasting_26 : decode cX4_lasting 26 = .ok (.invokevirtual 53, 3) := by decide +kernel
theorem dX4_lasting_29 : decode cX4_lasting 29 = .ok (.ifCond .ne 14, 3) := by decide +kernel
theorem dX4_lasting_32 : decode cX4_lasting 32 = .ok (.aload_n 0, 1) := by decide +kernel
theorem dX4_lasting_33 : decode cX4_lasting 33 = .ok (.getfield 15, 3) := by decide +kernel
theorem dX4_lasting_36 : decode cX4_lasting 36 = .ok (.iload 4, 2) := by decide +kernel
theorem dX4_lasting_38 : decode cX4_lasting 38 = .ok (.iaload, 1) := by decide +kernel
theorem dX4_lasting_39 : decode cX4_lasting 39 = .ok (.iload_n 2, 1) := by decide +kernel
theorem dX4_lasting_40 : decode cX4_lasting 40 = .ok (.if_icmp .le 11, 3) := by decide +kernel
theorem dX4_lasting_43 : decode cX4_lasting 43 = .ok (.iload_n 3, 1) := by decide +kernel
theorem dX4_lasting_44 : decode cX4_lasting 44 = .ok (.iload 4, 2) := by decide +kernel
theorem dX4_lasting_46 : decode cX4_lasting 46 = .ok (.invokestatic 49, 3) := by decide +kernel
theorem dX4_lasting_49 : decode cX4_lasting 49 = .ok (.ior, 1) := by decide +kernel
theorem dX4_lasting_50 : decode cX4_lasting 50 = .ok (.istore_n 3, 1) := by decide +kernel
theorem dX4_lasting_51 : decode cX4_lasting 51 = .ok (.iinc 4 1, 3) := by decide +kernel
theorem dX4_lasting_54 : decode cX4_lasting 54 = .ok (.goto (-49), 3) := by decide +kernel
theorem dX4_lasting_57 : decode cX4_lasting 57 = .ok (.iload_n 3, 1) := by decide +kernel
theorem dX4_lasting_58 : decode cX4_lasting 58 = .ok (.ireturn, 1) := by decide +kernel
theorem dX5_init_0 : decode cX5_init 0 = .ok (.aload_n 0, 1) := by decide +kernel
theorem dX5_init_1 : decode cX5_init 1 = .ok (.invokespecial 3, 3) := by decide +kernel
theorem dX5_init_4 : decode cX5_init 4 = .ok (.aload_n 0, 1) := by decide +kernel
theorem dX5_init_5 : decode cX5_init 5 = .ok (.sipush 160, 3) := by decide +kernel
theorem dX5_init_8 : decode cX5_init 8 = .ok (.newarray .int, 2) := by decide +kernel
theorem dX5_init_10 : decode cX5_init 10 = .ok (.putfield 9, 3) := by decide +kernel
theorem dX5_init_13 : decode cX5_init 13 = .ok (.return_, 1) := by decide +kernel
theorem dX5_add_0 : decode cX5_add 0 = .ok (.aload_n 0, 1) := by decide +kernel
theorem dX5_add_1 : decode cX5_add 1 = .ok (.getfield 15, 3) := by decide +kernel
theorem dX5_add_4 : decode cX5_add 4 = .ok (.sipush 160, 3) := by decide +kernel
theorem dX5_add_7 : decode cX5_add 7 = .ok (.if_icmp .ge 23, 3) := by decide +kernel
theorem dX5_add_10 : decode cX5_add 10 = .ok (.aload_n 0, 1) := by decide +kernel
theorem dX5_add_11 : decode cX5_add 11 = .ok (.getfield 9, 3) := by decide +kernel
theorem dX5_add_14 : decode cX5_add 14 = .ok (.aload_n 0, 1) := by decide +kernel
theorem dX5_add_15 : decode cX5_add 15 = .ok (.getfield 15, 3) := by decide +kernel
theorem dX5_add_18 : decode cX5_add 18 = .ok (.iload_n 1, 1) := by decide +kernel
theorem dX5_add_19 : decode cX5_add 19 = .ok (.iastore, 1) := by decide +kernel
theorem dX5_add_20 : decode cX5_add 20 = .ok (.aload_n 0, 1) := by decide +kernel
theorem dX5_add_21 : decode cX5_add 21 = .ok (.dup, 1) := by decide +kernel
theorem dX5_add_22 : decode cX5_add 22 = .ok (.getfield 15, 3) := by decide +kernel
theorem dX5_add_25 : decode cX5_add 25 = .ok (.iconst 1, 1) := by decide +kernel
theorem dX5_add_26 : decode cX5_add 26 = .ok (.iadd, 1) := by decide +kernel
theorem dX5_add_27 : decode cX5_add 27 = .ok (.putfield 15, 3) := by decide +kernel
theorem dX5_add_30 : decode cX5_add 30 = .ok (.return_, 1) := by decide +kernel
theorem dX5_firstFault_0 : decode cX5_firstFault 0 = .ok (.aload_n 0, 1) := by decide +kernel
theorem dX5_firstFault_1 : decode cX5_firstFault 1 = .ok (.iconst 0, 1) := by decide +kernel
theorem dX5_firstFault_2 : decode cX5_firstFault 2 = .ok (.putfield 19, 3) := by decide +kernel
theorem dX5_firstFault_5 : decode cX5_firstFault 5 = .ok (.aload_n 0, 1) := by decide +kernel
theorem dX5_firstFault_6 : decode cX5_firstFault 6 = .ok (.iconst 0, 1) := by decide +kernel
theorem dX5_firstFault_7 : decode cX5_firstFault 7 = .ok (.putfield 22, 3) := by decide +kernel
theorem dX5_firstFault_10 : decode cX5_firstFault 10 = .ok (.aload_n 0, 1) := by decide +kernel
theorem dX5_firstFault_11 : decode cX5_firstFault 11 = .ok (.invokevirtual 25, 3) := by decide +kernel
theorem dX5_firstFault_14 : decode cX5_firstFault 14 = .ok (.iconst 0, 1) := by decide +kernel
theorem dX5_firstFault_15 : decode cX5_firstFault 15 = .ok (.istore_n 2, 1) := by decide +kernel
theorem dX5_firstFault_16 : decode cX5_firstFault 16 = .ok (.iload_n 2, 1) := by decide +kernel
theorem dX5_firstFault_17 : decode cX5_firstFault 17 = .ok (.bipush 14, 2) := by decide +kernel
theorem dX5_firstFault_19 : decode cX5_firstFault 19 = .ok (.if_icmp .ge 77, 3) := by decide +kernel
theorem dX5_firstFault_22 : decode cX5_firstFault 22 = .ok (.aload_n 0, 1) := by decide +kernel
theorem dX5_firstFault_23 : decode cX5_firstFault 23 = .ok (.aload_n 1, 1) := by decide +kernel
theorem dX5_firstFault_24 : decode cX5_firstFault 24 = .ok (.invokevirtual 28, 3) := by decide +kernel
theorem dX5_firstFault_27 : decode cX5_firstFault 27 = .ok (.ifCond .ne 8, 3) := by decide +kernel
theorem dX5_firstFault_30 : decode cX5_firstFault 30 = .ok (.aload_n 0, 1) := by decide +kernel
theorem dX5_firstFault_31 : decode cX5_firstFault 31 = .ok (.getfield 32, 3) := by decide +kernel
theorem dX5_firstFault_34 : decode cX5_firstFault 34 = .ok (.ireturn, 1) := by decide +kernel
theorem dX5_firstFault_35 : decode cX5_firstFault 35 = .ok (.aload_n 0, 1) := by decide +kernel
theorem dX5_firstFault_36 : decode cX5_firstFault 36 = .ok (.dup, 1) := by decide +kernel
theorem dX5_firstFault_37 : decode cX5_firstFault 37 = .ok (.getfield 19, 3) := by decide +kernel
theorem dX5_firstFault_40 : decode cX5_firstFault 40 = .ok (.iconst 1, 1) := by decide +kernel
theorem dX5_firstFault_41 : decode cX5_firstFault 41 = .ok (.iadd, 1) := by decide +kernel
theorem dX5_firstFault_42 : decode cX5_firstFault 42 = .ok (.putfield 19, 3) := by decide +kernel
theorem dX5_firstFault_45 : decode cX5_firstFault 45 = .ok (.aload_n 0, 1) := by decide +kernel
theorem dX5_firstFault_46 : decode cX5_firstFault 46 = .ok (.getfield 32, 3) := by decide +kernel
theorem dX5_firstFault_49 : decode cX5_firstFault 49 = .ok (.aload_n 0, 1) := by decide +kernel
theorem dX5_firstFault_50 : decode cX5_firstFault 50 = .ok (.getfield 15, 3) := by decide +kernel
theorem dX5_firstFault_53 : decode cX5_firstFault 53 = .ok (.if_icmp .lt 5, 3) := by decide +kernel
theorem dX5_firstFault_56 : decode cX5_firstFault 56 = .ok (.iconst (-1), 1) := by decide +kernel
theorem dX5_firstFault_57 : decode cX5_firstFault 57 = .ok (.ireturn, 1) := by decide +kernel
theorem dX5_firstFault_58 : decode cX5_firstFault 58 = .ok (.aload_n 0, 1) := by decide +kernel
theorem dX5_firstFault_59 : decode cX5_firstFault 59 = .ok (.getfield 9, 3) := by decide +kernel
theorem dX5_firstFault_62 : decode cX5_firstFault 62 = .ok (.aload_n 0, 1) := by decide +kernel
theorem dX5_firstFault_63 : decode cX5_firstFault 63 = .ok (.getfield 32, 3) := by decide +kernel
theorem dX5_firstFault_66 : decode cX5_firstFault 66 = .ok (.iaload, 1) := by decide +kernel
theorem dX5_firstFault_67 : decode cX5_firstFault 67 = .ok (.bipush 59, 2) := by decide +kernel
theorem dX5_firstFault_69 : decode cX5_firstFault 69 = .ok (.if_icmp .ne 12, 3) := by decide +kernel
theorem dX5_firstFault_72 : decode cX5_firstFault 72 = .ok (.aload_n 0, 1) := by decide +kernel
theorem dX5_firstFault_73 : decode cX5_firstFault 73 = .ok (.getfield 19, 3) := by decide +kernel
theorem dX5_firstFault_76 : decode cX5_firstFault 76 = .ok (.bipush 14, 2) := by decide +kernel
theorem dX5_firstFault_78 : decode cX5_firstFault 78 = .ok (.if_icmp .ne 8, 3) := by decide +kernel
theorem dX5_firstFault_81 : decode cX5_firstFault 81 = .ok (.aload_n 0, 1) := by decide +kernel
theorem dX5_firstFault_82 : decode cX5_firstFault 82 = .ok (.getfield 32, 3) := by decide +kernel
theorem dX5_firstFault_85 : decode cX5_firstFault 85 = .ok (.ireturn, 1) := by decide +kernel
theorem dX5_firstFault_86 : decode cX5_firstFault 86 = .ok (.aload_n 0, 1) := by decide +kernel
theorem dX5_firstFault_87 : decode cX5_firstFault 87 = .ok (.invokevirtual 25, 3) := by decide +kernel
theorem dX5_firstFault_90 : decode cX5_firstFault 90 = .ok (.iinc 2 1, 3) := by decide +kernel
theorem dX5_firstFault_93 : decode cX5_firstFault 93 = .ok (.goto (-77), 3) := by decide +kernel
theorem dX5_firstFault_96 : decode cX5_firstFault 96 = .ok (.aload_n 0, 1) := by decide +kernel
theorem dX5_firstFault_97 : decode cX5_firstFault 97 = .ok (.getfield 32, 3) := by decide +kernel
theorem dX5_firstFault_100 : decode cX5_firstFault 100 = .ok (.ireturn, 1) := by decide +kernel
theorem dX5_clauseStands_0 : decode cX5_clauseStands 0 = .ok (.aload_n 0, 1) := by decide +kernel
theorem dX5_clauseStands_1 : decode cX5_clauseStands 1 = .ok (.invokevirtual 35, 3) := by decide +kernel
theorem dX5_clauseStands_4 : decode cX5_clauseStands 4 = .ok (.istore_n 2, 1) := by decide +kernel
theorem dX5_clauseStands_5 : decode cX5_clauseStands 5 = .ok (.iload_n 2, 1) := by decide +kernel
theorem dX5_clauseStands_6 : decode cX5_clauseStands 6 = .ok (.iconst (-1), 1) := by decide +kernel
theorem dX5_clauseStands_7 : decode cX5_clauseStands 7 = .ok (.if_icmp .eq 11, 3) := by decide +kernel
theorem dX5_clauseStands_10 : decode cX5_clauseStands 10 = .ok (.aload_n 1, 1) := by decide +kernel
theorem dX5_clauseStands_11 : decode cX5_clauseStands 11 = .ok (.iload_n 2, 1) := by decide +kernel
theorem dX5_clauseStands_12 : decode cX5_clauseStands 12 = .ok (.invokevirtual 39, 3) := by decide +kernel
theorem dX5_clauseStands_15 : decode cX5_clauseStands 15 = .ok (.ifCond .ne 5, 3) := by decide +kernel
theorem dX5_clauseStands_18 : decode cX5_clauseStands 18 = .ok (.iconst 0, 1) := by decide +kernel
theorem dX5_clauseStands_19 : decode cX5_clauseStands 19 = .ok (.ireturn, 1) := by decide +kernel
theorem dX5_clauseStands_20 : decode cX5_clauseStands 20 = .ok (.aload_n 0, 1) := by decide +kernel
theorem dX5_clauseStands_21 : decode cX5_clauseStands 21 = .ok (.invokevirtual 25, 3) := by decide +kernel
theorem dX5_clauseStands_24 : decode cX5_clauseStands 24 = .ok (.iload_n 2, 1) := by decide +kernel
theorem dX5_clauseStands_25 : decode cX5_clauseStands 25 = .ok (.tableswitch 76 4 9 #[58, 64, 70, 39, 45, 52], 39) := by decide +kernel
theorem dX5_clauseStands_64 : decode cX5_clauseStands 64 = .ok (.aload_n 1, 1) := by decide +kernel
theorem dX5_clauseStands_65 : decode cX5_clauseStands 65 = .ok (.invokevirtual 45, 3) := by decide +kernel
theorem dX5_clauseStands_68 : decode cX5_clauseStands 68 = .ok (.iconst 1, 1) := by decide +kernel
theorem dX5_clauseStands_69 : decode cX5_clauseStands 69 = .ok (.ireturn, 1) := by decide +kernel
theorem dX5_clauseStands_70 : decode cX5_clauseStands 70 = .ok (.aload_n 1, 1) := by decide +kernel
theorem dX5_clauseStands_71 : decode cX5_clauseStands 71 = .ok (.iconst 0, 1) := by decide +kernel
theorem dX5_clauseStands_72 : decode cX5_clauseStands 72 = .ok (.putfield 48, 3) := by decide +kernel
theorem dX5_clauseStands_75 : decode cX5_clauseStands 75 = .ok (.iconst 1, 1) := by decide +kernel
theorem dX5_clauseStands_76 : decode cX5_clauseStands 76 = .ok (.ireturn, 1) := by decide +kernel
theorem dX5_clauseStands_77 : decode cX5_clauseStands 77 = .ok (.aload_n 1, 1) := by decide +kernel
theorem dX5_clauseStands_78 : decode cX5_clauseStands 78 = .ok (.invokevirtual 51, 3) := by decide +kernel
theorem dX5_clauseStands_81 : decode cX5_clauseStands 81 = .ok (.iconst 1, 1) := by decide +kernel
theorem dX5_clauseStands_82 : decode cX5_clauseStands 82 = .ok (.ireturn, 1) := by decide +kernel
theorem dX5_clauseStands_83 : decode cX5_clauseStands 83 = .ok (.aload_n 0, 1) := by decide +kernel
theorem dX5_clauseStands_84 : decode cX5_clauseStands 84 = .ok (.aload_n 1, 1) := by decide +kernel
theorem dX5_clauseStands_85 : decode cX5_clauseStands 85 = .ok (.invokevirtual 54, 3) := by decide +kernel
theorem dX5_clauseStands_88 : decode cX5_clauseStands 88 = .ok (.ireturn, 1) := by decide +kernel
theorem dX5_clauseStands_89 : decode cX5_clauseStands 89 = .ok (.aload_n 0, 1) := by decide +kernel
theorem dX5_clauseStands_90 : decode cX5_clauseStands 90 = .ok (.aload_n 1, 1) := by decide +kernel
theorem dX5_clauseStands_91 : decode cX5_clauseStands 91 = .ok (.invokevirtual 57, 3) := by decide +kernel
theorem dX5_clauseStands_94 : decode cX5_clauseStands 94 = .ok (.ireturn, 1) := by decide +kernel
theorem dX5_clauseStands_95 : decode cX5_clauseStands 95 = .ok (.aload_n 0, 1) := by decide +kernel
theorem dX5_clauseStands_96 : decode cX5_clauseStands 96 = .ok (.aload_n 1, 1) := by decide +kernel
theorem dX5_clauseStands_97 : decode cX5_clauseStands 97 = .ok (.invokevirtual 60, 3) := by decide +kernel
theorem dX5_clauseStands_100 : decode cX5_clauseStands 100 = .ok (.ireturn, 1) := by decide +kernel
theorem dX5_clauseStands_101 : decode cX5_clauseStands 101 = .ok (.aload_n 0, 1) := by decide +kernel
theorem dX5_clauseStands_102 : decode cX5_clauseStands 102 = .ok (.aload_n 1, 1) := by decide +kernel
theorem dX5_clauseStands_103 : decode cX5_clauseStands 103 = .ok (.iload_n 2, 1) := by decide +kernel
theorem dX5_clauseStands_104 : decode cX5_clauseStands 104 = .ok (.invokevirtual 63, 3) := by decide +kernel
theorem dX5_clauseStands_107 : decode cX5_clauseStands 107 = .ok (.ireturn, 1) := by decide +kernel
theorem dX5_threadStands_0 : decode cX5_threadStands 0 = .ok (.aload_n 0, 1) := by decide +kernel
theorem dX5_threadStands_1 : decode cX5_threadStands 1 = .ok (.iconst 1, 1) := by decide +kernel
theorem dX5_threadStands_2 : decode cX5_threadStands 2 = .ok (.bipush 60, 2) := by decide +kernel
theorem dX5_threadStands_4 : decode cX5_threadStands 4 = .ok (.invokevirtual 67, 3) := by decide +kernel
theorem dX5_threadStands_7 : decode cX5_threadStands 7 = .ok (.istore_n 3, 1) := by decide +kernel
theorem dX5_threadStands_8 : decode cX5_threadStands 8 = .ok (.iload_n 3, 1) := by decide +kernel
theorem dX5_threadStands_9 : decode cX5_threadStands 9 = .ok (.iconst (-1), 1) := by decide +kernel
theorem dX5_threadStands_10 : decode cX5_threadStands 10 = .ok (.if_icmp .ne 5, 3) := by decide +kernel
theorem dX5_threadStands_13 : decode cX5_threadStands 13 = .ok (.iconst 0, 1) := by decide +kernel
theorem dX5_threadStands_14 : decode cX5_threadStands 14 = .ok (.ireturn, 1) := by decide +kernel
theorem dX5_threadStands_15 : decode cX5_threadStands 15 = .ok (.aload_n 0, 1) := by decide +kernel
theorem dX5_threadStands_16 : decode cX5_threadStands 16 = .ok (.invokevirtual 25, 3) := by decide +kernel
theorem dX5_threadStands_19 : decode cX5_threadStands 19 = .ok (.aload_n 0, 1) := by decide +kernel
theorem dX5_threadStands_20 : decode cX5_threadStands 20 = .ok (.iconst 0, 1) := by decide +kernel
theorem dX5_threadStands_21 : decode cX5_threadStands 21 = .ok (.iconst 3, 1) := by decide +kernel
theorem dX5_threadStands_22 : decode cX5_threadStands 22 = .ok (.invokevirtual 67, 3) := by decide +kernel
theorem dX5_threadStands_25 : decode cX5_threadStands 25 = .ok (.istore 4, 2) := by decide +kernel
theorem dX5_threadStands_27 : decode cX5_threadStands 27 = .ok (.iload 4, 2) := by decide +kernel
theorem dX5_threadStands_29 : decode cX5_threadStands 29 = .ok (.iconst (-1), 1) := by decide +kernel
theorem dX5_threadStands_30 : decode cX5_threadStands 30 = .ok (.if_icmp .ne 5, 3) := by decide +kernel
theorem dX5_threadStands_33 : decode cX5_threadStands 33 = .ok (.iconst 0, 1) := by decide +kernel
theorem dX5_threadStands_34 : decode cX5_threadStands 34 = .ok (.ireturn, 1) := by decide +kernel
theorem dX5_threadStands_35 : decode cX5_threadStands 35 = .ok (.aload_n 0, 1) := by decide +kernel
theorem dX5_threadStands_36 : decode cX5_threadStands 36 = .ok (.invokevirtual 25, 3) := by decide +kernel
theorem dX5_threadStands_39 : decode cX5_threadStands 39 = .ok (.aload_n 1, 1) := by decide +kernel
theorem dX5_threadStands_40 : decode cX5_threadStands 40 = .ok (.iload_n 2, 1) := by decide +kernel
theorem dX5_threadStands_41 : decode cX5_threadStands 41 = .ok (.iload_n 3, 1) := by decide +kernel
theorem dX5_threadStands_42 : decode cX5_threadStands 42 = .ok (.iload 4, 2) := by decide +kernel
theorem dX5_threadStands_44 : decode cX5_threadStands 44 = .ok (.invokevirtual 71, 3) := by decide +kernel
theorem dX5_threadStands_47 : decode cX5_threadStands 47 = .ok (.iconst 1, 1) := by decide +kernel
theorem dX5_threadStands_48 : decode cX5_threadStands 48 = .ok (.ireturn, 1) := by decide +kernel
theorem dX5_overStands_0 : decode cX5_overStands 0 = .ok (.aload_n 0, 1) := by decide +kernel
theorem dX5_overStands_1 : decode cX5_overStands 1 = .ok (.iconst 0, 1) := by decide +kernel
theorem dX5_overStands_2 : decode cX5_overStands 2 = .ok (.aload_n 1, 1) := by decide +kernel
theorem dX5_overStands_3 : decode cX5_overStands 3 = .ok (.getfield 75, 3) := by decide +kernel
theorem dX5_overStands_6 : decode cX5_overStands 6 = .ok (.iconst 1, 1) := by decide +kernel
theorem dX5_overStands_7 : decode cX5_overStands 7 = .ok (.isub, 1) := by decide +kernel
theorem dX5_overStands_8 : decode cX5_overStands 8 = .ok (.invokevirtual 67, 3) := by decide +kernel
theorem dX5_overStands_11 : decode cX5_overStands 11 = .ok (.istore_n 2, 1) := by decide +kernel
theorem dX5_overStands_12 : decode cX5_overStands 12 = .ok (.iload_n 2, 1) := by decide +kernel
theorem dX5_overStands_13 : decode cX5_overStands 13 = .ok (.iconst (-1), 1) := by decide +kernel
theorem dX5_overStands_14 : decode cX5_overStands 14 = .ok (.if_icmp .ne 5, 3) := by decide +kernel
theorem dX5_overStands_17 : decode cX5_overStands 17 = .ok (.iconst 0, 1) := by decide +kernel
theorem dX5_overStands_18 : decode cX5_overStands 18 = .ok (.ireturn, 1) := by decide +kernel
theorem dX5_overStands_19 : decode cX5_overStands 19 = .ok (.aload_n 0, 1) := by decide +kernel
theorem dX5_overStands_20 : decode cX5_overStands 20 = .ok (.invokevirtual 25, 3) := by decide +kernel
theorem dX5_overStands_23 : decode cX5_overStands 23 = .ok (.aload_n 0, 1) := by decide +kernel
theorem dX5_overStands_24 : decode cX5_overStands 24 = .ok (.iconst 0, 1) := by decide +kernel
theorem dX5_overStands_25 : decode cX5_overStands 25 = .ok (.aload_n 1, 1) := by decide +kernel
theorem dX5_overStands_26 : decode cX5_overStands 26 = .ok (.getfield 75, 3) := by decide +kernel
theorem dX5_overStands_29 : decode cX5_overStands 29 = .ok (.iconst 1, 1) := by decide +kernel
theorem dX5_overStands_30 : decode cX5_overStands 30 = .ok (.isub, 1) := by decide +kernel
theorem dX5_overStands_31 : decode cX5_overStands 31 = .ok (.invokevirtual 67, 3) := by decide +kernel
theorem dX5_overStands_34 : decode cX5_overStands 34 = .ok (.istore_n 3, 1) := by decide +kernel
theorem dX5_overStands_35 : decode cX5_overStands 35 = .ok (.iload_n 3, 1) := by decide +kernel
theorem dX5_overStands_36 : decode cX5_overStands 36 = .ok (.iconst (-1), 1) := by decide +kernel
theorem dX5_overStands_37 : decode cX5_overStands 37 = .ok (.if_icmp .eq 15, 3) := by decide +kernel
theorem dX5_overStands_40 : decode cX5_overStands 40 = .ok (.aload_n 1, 1) := by decide +kernel
theorem dX5_overStands_41 : decode cX5_overStands 41 = .ok (.getfield 78, 3) := by decide +kernel
theorem dX5_overStands_44 : decode cX5_overStands 44 = .ok (.iload_n 2, 1) := by decide +kernel
theorem dX5_overStands_45 : decode cX5_overStands 45 = .ok (.iload_n 3, 1) := by decide +kernel
theorem dX5_overStands_46 : decode cX5_overStands 46 = .ok (.invokestatic 81, 3) := by decide +kernel
theorem dX5_overStands_49 : decode cX5_overStands 49 = .ok (.ifCond .eq 5, 3) := by decide +kernel
theorem dX5_overStands_52 : decode cX5_overStands 52 = .ok (.iconst 0, 1) := by decide +kernel
theorem dX5_overStands_53 : decode cX5_overStands 53 = .ok (.ireturn, 1) := by decide +kernel
theorem dX5_overStands_54 : decode cX5_overStands 54 = .ok (.aload_n 0, 1) := by decide +kernel
theorem dX5_overStands_55 : decode cX5_overStands 55 = .ok (.invokevirtual 25, 3) := by decide +kernel
theorem dX5_overStands_58 : decode cX5_overStands 58 = .ok (.aload_n 1, 1) := by decide +kernel
theorem dX5_overStands_59 : decode cX5_overStands 59 = .ok (.getfield 78, 3) := by decide +kernel
theorem dX5_overStands_62 : decode cX5_overStands 62 = .ok (.iload_n 3, 1) := by decide +kernel
theorem dX5_overStands_63 : decode cX5_overStands 63 = .ok (.dup2, 1) := by decide +kernel
theorem dX5_overStands_64 : decode cX5_overStands 64 = .ok (.iaload, 1) := by decide +kernel
theorem dX5_overStands_65 : decode cX5_overStands 65 = .ok (.iload_n 2, 1) := by decide +kernel
theorem dX5_overStands_66 : decode cX5_overStands 66 = .ok (.invokestatic 85, 3) := by decide +kernel
theorem dX5_overStands_69 : decode cX5_overStands 69 = .ok (.ior, 1) := by decide +kernel
theorem dX5_overStands_70 : decode cX5_overStands 70 = .ok (.iastore, 1) := by decide +kernel
theorem dX5_overStands_71 : decode cX5_overStands 71 = .ok (.iconst 1, 1) := by decide +kernel
theorem dX5_overStands_72 : decode cX5_overStands 72 = .ok (.ireturn, 1) := by decide +kernel
theorem dX5_knotStands_0 : decode cX5_knotStands 0 = .ok (.aload_n 0, 1) := by decide +kernel
theorem dX5_knotStands_1 : decode cX5_knotStands 1 = .ok (.iconst 0, 1) := by decide +kernel
theorem dX5_knotStands_2 : decode cX5_knotStands 2 = .ok (.aload_n 1, 1) := by decide +kernel
theorem dX5_knotStands_3 : decode cX5_knotStands 3 = .ok (.getfield 75, 3) := by decide +kernel
theorem dX5_knotStands_6 : decode cX5_knotStands 6 = .ok (.iconst 1, 1) := by decide +kernel
theorem dX5_knotStands_7 : decode cX5_knotStands 7 = .ok (.isub, 1) := by decide +kernel
theorem dX5_knotStands_8 : decode cX5_knotStands 8 = .ok (.invokevirtual 67, 3) := by decide +kernel
theorem dX5_knotStands_11 : decode cX5_knotStands 11 = .ok (.istore_n 2, 1) := by decide +kernel
theorem dX5_knotStands_12 : decode cX5_knotStands 12 = .ok (.iload_n 2, 1) := by decide +kernel
theorem dX5_knotStands_13 : decode cX5_knotStands 13 = .ok (.iconst (-1), 1) := by decide +kernel
theorem dX5_knotStands_14 : decode cX5_knotStands 14 = .ok (.if_icmp .ne 5, 3) := by decide +kernel
theorem dX5_knotStands_17 : decode cX5_knotStands 17 = .ok (.iconst 0, 1) := by decide +kernel
theorem dX5_knotStands_18 : decode cX5_knotStands 18 = .ok (.ireturn, 1) := by decide +kernel
theorem dX5_knotStands_19 : decode cX5_knotStands 19 = .ok (.aload_n 0, 1) := by decide +kernel
theorem dX5_knotStands_20 : decode cX5_knotStands 20 = .ok (.invokevirtual 25, 3) := by decide +kernel
theorem dX5_knotStands_23 : decode cX5_knotStands 23 = .ok (.aload_n 0, 1) := by decide +kernel
theorem dX5_knotStands_24 : decode cX5_knotStands 24 = .ok (.iconst 0, 1) := by decide +kernel
theorem dX5_knotStands_25 : decode cX5_knotStands 25 = .ok (.aload_n 1, 1) := by decide +kernel
theorem dX5_knotStands_26 : decode cX5_knotStands 26 = .ok (.getfield 75, 3) := by decide +kernel
theorem dX5_knotStands_29 : decode cX5_knotStands 29 = .ok (.iconst 1, 1) := by decide +kernel
theorem dX5_knotStands_30 : decode cX5_knotStands 30 = .ok (.isub, 1) := by decide +kernel
theorem dX5_knotStands_31 : decode cX5_knotStands 31 = .ok (.invokevirtual 67, 3) := by decide +kernel
theorem dX5_knotStands_34 : decode cX5_knotStands 34 = .ok (.istore_n 3, 1) := by decide +kernel
theorem dX5_knotStands_35 : decode cX5_knotStands 35 = .ok (.iload_n 3, 1) := by decide +kernel
theorem dX5_knotStands_36 : decode cX5_knotStands 36 = .ok (.iconst (-1), 1) := by decide +kernel
theorem dX5_knotStands_37 : decode cX5_knotStands 37 = .ok (.if_icmp .eq 8, 3) := by decide +kernel
theorem dX5_knotStands_40 : decode cX5_knotStands 40 = .ok (.iload_n 3, 1) := by decide +kernel
theorem dX5_knotStands_41 : decode cX5_knotStands 41 = .ok (.iload_n 2, 1) := by decide +kernel
theorem dX5_knotStands_42 : decode cX5_knotStands 42 = .ok (.if_icmp .ne 5, 3) := by decide +kernel
theorem dX5_knotStands_45 : decode cX5_knotStands 45 = .ok (.iconst 0, 1) := by decide +kernel
theorem dX5_knotStands_46 : decode cX5_knotStands 46 = .ok (.ireturn, 1) := by decide +kernel
theorem dX5_knotStands_47 : decode cX5_knotStands 47 = .ok (.aload_n 0, 1) := by decide +kernel
theorem dX5_knotStands_48 : decode cX5_knotStands 48 = .ok (.invokevirtual 25, 3) := by decide +kernel
theorem dX5_knotStands_51 : decode cX5_knotStands 51 = .ok (.aload_n 1, 1) := by decide +kernel
theorem dX5_knotStands_52 : decode cX5_knotStands 52 = .ok (.getfield 89, 3) := by decide +kernel
theorem dX5_knotStands_55 : decode cX5_knotStands 55 = .ok (.iload_n 2, 1) := by decide +kernel
theorem dX5_knotStands_56 : decode cX5_knotStands 56 = .ok (.dup2, 1) := by decide +kernel
theorem dX5_knotStands_57 : decode cX5_knotStands 57 = .ok (.iaload, 1) := by decide +kernel
theorem dX5_knotStands_58 : decode cX5_knotStands 58 = .ok (.iload_n 3, 1) := by decide +kernel
theorem dX5_knotStands_59 : decode cX5_knotStands 59 = .ok (.invokestatic 85, 3) := by decide +kernel
theorem dX5_knotStands_62 : decode cX5_knotStands 62 = .ok (.ior, 1) := by decide +kernel
theorem dX5_knotStands_63 : decode cX5_knotStands 63 = .ok (.iastore, 1) := by decide +kernel
theorem dX5_knotStands_64 : decode cX5_knotStands 64 = .ok (.aload_n 1, 1) := by decide +kernel
theorem dX5_knotStands_65 : decode cX5_knotStands 65 = .ok (.getfield 89, 3) := by decide +kernel
theorem dX5_knotStands_68 : decode cX5_knotStands 68 = .ok (.iload_n 3, 1) := by decide +kernel
theorem dX5_knotStands_69 : decode cX5_knotStands 69 = .ok (.dup2, 1) := by decide +kernel
theorem dX5_knotStands_70 : decode cX5_knotStands 70 = .ok (.iaload, 1) := by decide +kernel
theorem dX5_knotStands_71 : decode cX5_knotStands 71 = .ok (.iload_n 2, 1) := by decide +kernel
theorem dX5_knotStands_72 : decode cX5_knotStands 72 = .ok (.invokestatic 85, 3) := by decide +kernel
theorem dX5_knotStands_75 : decode cX5_knotStands 75 = .ok (.ior, 1) := by decide +kernel
theorem dX5_knotStands_76 : decode cX5_knotStands 76 = .ok (.iastore, 1) := by decide +kernel
theorem dX5_knotStands_77 : decode cX5_knotStands 77 = .ok (.iconst 1, 1) := by decide +kernel
theorem dX5_knotStands_78 : decode cX5_knotStands 78 = .ok (.ireturn, 1) := by decide +kernel
theorem dX5_orderStands_0 : decode cX5_orderStands 0 = .ok (.aload_n 0, 1) := by decide +kernel
theorem dX5_orderStands_1 : decode cX5_orderStands 1 = .ok (.iconst 0, 1) := by decide +kernel
theorem dX5_orderStands_2 : decode cX5_orderStands 2 = .ok (.aload_n 1, 1) := by decide +kernel
theorem dX5_orderStands_3 : decode cX5_orderStands 3 = .ok (.getfield 75, 3) := by decide +kernel
theorem dX5_orderStands_6 : decode cX5_orderStands 6 = .ok (.iconst 1, 1) := by decide +kernel
theorem dX5_orderStands_7 : decode cX5_orderStands 7 = .ok (.isub, 1) := by decide +kernel
theorem dX5_orderStands_8 : decode cX5_orderStands 8 = .ok (.invokevirtual 67, 3) := by decide +kernel
theorem dX5_orderStands_11 : decode cX5_orderStands 11 = .ok (.istore_n 2, 1) := by decide +kernel
theorem dX5_orderStands_12 : decode cX5_orderStands 12 = .ok (.iload_n 2, 1) := by decide +kernel
theorem dX5_orderStands_13 : decode cX5_orderStands 13 = .ok (.iconst (-1), 1) := by decide +kernel
theorem dX5_orderStands_14 : decode cX5_orderStands 14 = .ok (.if_icmp .ne 5, 3) := by decide +kernel
theorem dX5_orderStands_17 : decode cX5_orderStands 17 = .ok (.iconst 0, 1) := by decide +kernel
theorem dX5_orderStands_18 : decode cX5_orderStands 18 = .ok (.ireturn, 1) := by decide +kernel
theorem dX5_orderStands_19 : decode cX5_orderStands 19 = .ok (.aload_n 0, 1) := by decide +kernel
theorem dX5_orderStands_20 : decode cX5_orderStands 20 = .ok (.invokevirtual 25, 3) := by decide +kernel
theorem dX5_orderStands_23 : decode cX5_orderStands 23 = .ok (.aload_n 0, 1) := by decide +kernel
theorem dX5_orderStands_24 : decode cX5_orderStands 24 = .ok (.iconst 0, 1) := by decide +kernel
theorem dX5_orderStands_25 : decode cX5_orderStands 25 = .ok (.bipush 99, 2) := by decide +kernel
theorem dX5_orderStands_27 : decode cX5_orderStands 27 = .ok (.invokevirtual 67, 3) := by decide +kernel
theorem dX5_orderStands_30 : decode cX5_orderStands 30 = .ok (.istore_n 3, 1) := by decide +kernel
theorem dX5_orderStands_31 : decode cX5_orderStands 31 = .ok (.iload_n 3, 1) := by decide +kernel
theorem dX5_orderStands_32 : decode cX5_orderStands 32 = .ok (.iconst (-1), 1) := by decide +kernel
theorem dX5_orderStands_33 : decode cX5_orderStands 33 = .ok (.if_icmp .ne 5, 3) := by decide +kernel
theorem dX5_orderStands_36 : decode cX5_orderStands 36 = .ok (.iconst 0, 1) := by decide +kernel
theorem dX5_orderStands_37 : decode cX5_orderStands 37 = .ok (.ireturn, 1) := by decide +kernel
theorem dX5_orderStands_38 : decode cX5_orderStands 38 = .ok (.aload_n 0, 1) := by decide +kernel
theorem dX5_orderStands_39 : decode cX5_orderStands 39 = .ok (.invokevirtual 25, 3) := by decide +kernel
theorem dX5_orderStands_42 : decode cX5_orderStands 42 = .ok (.aload_n 1, 1) := by decide +kernel
theorem dX5_orderStands_43 : decode cX5_orderStands 43 = .ok (.iload_n 2, 1) := by decide +kernel
theorem dX5_orderStands_44 : decode cX5_orderStands 44 = .ok (.iload_n 3, 1) := by decide +kernel
theorem dX5_orderStands_45 : decode cX5_orderStands 45 = .ok (.invokevirtual 92, 3) := by decide +kernel
theorem dX5_orderStands_48 : decode cX5_orderStands 48 = .ok (.iconst 1, 1) := by decide +kernel
theorem dX5_orderStands_49 : decode cX5_orderStands 49 = .ok (.ireturn, 1) := by decide +kernel
theorem dX5_step_0 : decode cX5_step 0 = .ok (.aload_n 0, 1) := by decide +kernel
theorem dX5_step_1 : decode cX5_step 1 = .ok (.aload_n 0, 1) := by decide +kernel
theorem dX5_step_2 : decode cX5_step 2 = .ok (.getfield 22, 3) := by decide +kernel
theorem dX5_step_5 : decode cX5_step 5 = .ok (.putfield 32, 3) := by decide +kernel
theorem dX5_step_8 : decode cX5_step 8 = .ok (.aload_n 0, 1) := by decide +kernel
theorem dX5_step_9 : decode cX5_step 9 = .ok (.getfield 32, 3) := by decide +kernel
theorem dX5_step_12 : decode cX5_step 12 = .ok (.aload_n 0, 1) := by decide +kernel
theorem dX5_step_13 : decode cX5_step 13 = .ok (.getfield 15, 3) := by decide +kernel
theorem dX5_step_16 : decode cX5_step 16 = .ok (.if_icmp .ge 30, 3) := by decide +kernel
theorem dX5_step_19 : decode cX5_step 19 = .ok (.aload_n 0, 1) := by decide +kernel
theorem dX5_step_20 : decode cX5_step 20 = .ok (.getfield 9, 3) := by decide +kernel
theorem dX5_step_23 : decode cX5_step 23 = .ok (.aload_n 0, 1) := by decide +kernel
theorem dX5_step_24 : decode cX5_step 24 = .ok (.getfield 32, 3) := by decide +kernel
theorem dX5_step_27 : decode cX5_step 27 = .ok (.iaload, 1) := by decide +kernel
theorem dX5_step_28 : decode cX5_step 28 = .ok (.bipush 32, 2) := by decide +kernel
theorem dX5_step_30 : decode cX5_step 30 = .ok (.if_icmp .ne 16, 3) := by decide +kernel
theorem dX5_step_33 : decode cX5_step 33 = .ok (.aload_n 0, 1) := by decide +kernel
theorem dX5_step_34 : decode cX5_step 34 = .ok (.dup, 1) := by decide +kernel
theorem dX5_step_35 : decode cX5_step 35 = .ok (.getfield 32, 3) := by decide +kernel
theorem dX5_step_38 : decode cX5_step 38 = .ok (.iconst 1, 1) := by decide +kernel
theorem dX5_step_39 : decode cX5_step 39 = .ok (.iadd, 1) := by decide +kernel
theorem dX5_step_40 : decode cX5_step 40 = .ok (.putfield 32, 3) := by decide +kernel
theorem dX5_step_43 : decode cX5_step 43 = .ok (.goto (-35), 3) := by decide +kernel
theorem dX5_step_46 : decode cX5_step 46 = .ok (.aload_n 0, 1) := by decide +kernel
theorem dX5_step_47 : decode cX5_step 47 = .ok (.aload_n 0, 1) := by decide +kernel
theorem dX5_step_48 : decode cX5_step 48 = .ok (.getfield 32, 3) := by decide +kernel
theorem dX5_step_51 : decode cX5_step 51 = .ok (.putfield 22, 3) := by decide +kernel
theorem dX5_step_54 : decode cX5_step 54 = .ok (.aload_n 0, 1) := by decide +kernel
theorem dX5_step_55 : decode cX5_step 55 = .ok (.getfield 22, 3) := by decide +kernel
theorem dX5_step_58 : decode cX5_step 58 = .ok (.aload_n 0, 1) := by decide +kernel
theorem dX5_step_59 : decode cX5_step 59 = .ok (.getfield 15, 3) := by decide +kernel
theorem dX5_step_62 : decode cX5_step 62 = .ok (.if_icmp .lt 4, 3) := by decide +kernel
theorem dX5_step_65 : decode cX5_step 65 = .ok (.return_, 1) := by decide +kernel
theorem dX5_step_66 : decode cX5_step 66 = .ok (.aload_n 0, 1) := by decide +kernel
theorem dX5_step_67 : decode cX5_step 67 = .ok (.getfield 9, 3) := by decide +kernel
theorem dX5_step_70 : decode cX5_step 70 = .ok (.aload_n 0, 1) := by decide +kernel
theorem dX5_step_71 : decode cX5_step 71 = .ok (.getfield 32, 3) := by decide +kernel
theorem dX5_step_74 : decode cX5_step 74 = .ok (.iaload, 1) := by decide +kernel
theorem dX5_step_75 : decode cX5_step 75 = .ok (.invokestatic 96, 3) := by decide +kernel
theorem dX5_step_78 : decode cX5_step 78 = .ok (.istore_n 1, 1) := by decide +kernel
theorem dX5_step_79 : decode cX5_step 79 = .ok (.aload_n 0, 1) := by decide +kernel
theorem dX5_step_80 : decode cX5_step 80 = .ok (.dup, 1) := by decide +kernel
theorem dX5_step_81 : decode cX5_step 81 = .ok (.getfield 22, 3) := by decide +kernel
theorem dX5_step_84 : decode cX5_step 84 = .ok (.iconst 1, 1) := by decide +kernel
theorem dX5_step_85 : decode cX5_step 85 = .ok (.iadd, 1) := by decide +kernel
theorem dX5_step_86 : decode cX5_step 86 = .ok (.putfield 22, 3) := by decide +kernel
theorem dX5_step_89 : decode cX5_step 89 = .ok (.iload_n 1, 1) := by decide +kernel
theorem dX5_step_90 : decode cX5_step 90 = .ok (.ifCond .eq 43, 3) := by decide +kernel
theorem dX5_step_93 : decode cX5_step 93 = .ok (.aload_n 0, 1) := by decide +kernel
theorem dX5_step_94 : decode cX5_step 94 = .ok (.getfield 22, 3) := by decide +kernel
theorem dX5_step_97 : decode cX5_step 97 = .ok (.aload_n 0, 1) := by decide +kernel
theorem dX5_step_98 : decode cX5_step 98 = .ok (.getfield 15, 3) := by decide +kernel
theorem dX5_step_101 : decode cX5_step 101 = .ok (.if_icmp .ge 32, 3) := by decide +kernel
theorem dX5_step_104 : decode cX5_step 104 = .ok (.aload_n 0, 1) := by decide +kernel
theorem dX5_step_105 : decode cX5_step 105 = .ok (.getfield 9, 3) := by decide +kernel
theorem dX5_step_108 : decode cX5_step 108 = .ok (.aload_n 0, 1) := by decide +kernel
theorem dX5_step_109 : decode cX5_step 109 = .ok (.getfield 22, 3) := by decide +kernel
theorem dX5_step_112 : decode cX5_step 112 = .ok (.iaload, 1) := by decide +kernel
theorem dX5_step_113 : decode cX5_step 113 = .ok (.invokestatic 96, 3) := by decide +kernel
theorem dX5_step_116 : decode cX5_step 116 = .ok (.iload_n 1, 1) := by decide +kernel
theorem dX5_step_117 : decode cX5_step 117 = .ok (.if_icmp .ne 16, 3) := by decide +kernel
theorem dX5_step_120 : decode cX5_step 120 = .ok (.aload_n 0, 1) := by decide +kernel
theorem dX5_step_121 : decode cX5_step 121 = .ok (.dup, 1) := by decide +kernel
theorem dX5_step_122 : decode cX5_step 122 = .ok (.getfield 22, 3) := by decide +kernel
theorem dX5_step_125 : decode cX5_step 125 = .ok (.iconst 1, 1) := by decide +kernel
theorem dX5_step_126 : decode cX5_step 126 = .ok (.iadd, 1) := by decide +kernel
theorem dX5_step_127 : decode cX5_step 127 = .ok (.putfield 22, 3) := by decide +kernel
theorem dX5_step_130 : decode cX5_step 130 = .ok (.goto (-41), 3) := by decide +kernel
theorem dX5_step_133 : decode cX5_step 133 = .ok (.return_, 1) := by decide +kernel
theorem dX5_sortOf_0 : decode cX5_sortOf 0 = .ok (.iload_n 0, 1) := by decide +kernel
theorem dX5_sortOf_1 : decode cX5_sortOf 1 = .ok (.bipush 97, 2) := by decide +kernel
theorem dX5_sortOf_3 : decode cX5_sortOf 3 = .ok (.if_icmp .lt 11, 3) := by decide +kernel
theorem dX5_sortOf_6 : decode cX5_sortOf 6 = .ok (.iload_n 0, 1) := by decide +kernel
theorem dX5_sortOf_7 : decode cX5_sortOf 7 = .ok (.bipush 122, 2) := by decide +kernel
theorem dX5_sortOf_9 : decode cX5_sortOf 9 = .ok (.if_icmp .gt 5, 3) := by decide +kernel
theorem dX5_sortOf_12 : decode cX5_sortOf 12 = .ok (.iconst 1, 1) := by decide +kernel
theorem dX5_sortOf_13 : decode cX5_sortOf 13 = .ok (.ireturn, 1) := by decide +kernel
theorem dX5_sortOf_14 : decode cX5_sortOf 14 = .ok (.iload_n 0, 1) := by decide +kernel
theorem dX5_sortOf_15 : decode cX5_sortOf 15 = .ok (.bipush 48, 2) := by decide +kernel
theorem dX5_sortOf_17 : decode cX5_sortOf 17 = .ok (.if_icmp .lt 13, 3) := by decide +kernel
theorem dX5_sortOf_20 : decode cX5_sortOf 20 = .ok (.iload_n 0, 1) := by decide +kernel
theorem dX5_sortOf_21 : decode cX5_sortOf 21 = .ok (.bipush 57, 2) := by decide +kernel
theorem dX5_sortOf_23 : decode cX5_sortOf 23 = .ok (.if_icmp .gt 7, 3) := by decide +kernel
theorem dX5_sortOf_26 : decode cX5_sortOf 26 = .ok (.iconst 2, 1) := by decide +kernel
theorem dX5_sortOf_27 : decode cX5_sortOf 27 = .ok (.goto 4, 3) := by decide +kernel
theorem dX5_sortOf_30 : decode cX5_sortOf 30 = .ok (.iconst 0, 1) := by decide +kernel
theorem dX5_sortOf_31 : decode cX5_sortOf 31 = .ok (.ireturn, 1) := by decide +kernel
theorem dX5_number_0 : decode cX5_number 0 = .ok (.aload_n 0, 1) := by decide +kernel
theorem dX5_number_1 : decode cX5_number 1 = .ok (.getfield 32, 3) := by decide +kernel
theorem dX5_number_4 : decode cX5_number 4 = .ok (.aload_n 0, 1) := by decide +kernel
theorem dX5_number_5 : decode cX5_number 5 = .ok (.getfield 15, 3) := by decide +kernel
theorem dX5_number_8 : decode cX5_number 8 = .ok (.if_icmp .ge 32, 3) := by decide +kernel
theorem dX5_number_11 : decode cX5_number 11 = .ok (.aload_n 0, 1) := by decide +kernel
theorem dX5_number_12 : decode cX5_number 12 = .ok (.getfield 22, 3) := by decide +kernel
theorem dX5_number_15 : decode cX5_number 15 = .ok (.aload_n 0, 1) := by decide +kernel
theorem dX5_number_16 : decode cX5_number 16 = .ok (.getfield 32, 3) := by decide +kernel
theorem dX5_number_19 : decode cX5_number 19 = .ok (.isub, 1) := by decide +kernel
theorem dX5_number_20 : decode cX5_number 20 = .ok (.iconst 2, 1) := by decide +kernel
theorem dX5_number_21 : decode cX5_number 21 = .ok (.if_icmp .gt 19, 3) := by decide +kernel
theorem dX5_number_24 : decode cX5_number 24 = .ok (.aload_n 0, 1) := by decide +kernel
theorem dX5_number_25 : decode cX5_number 25 = .ok (.getfield 9, 3) := by decide +kernel
theorem dX5_number_28 : decode cX5_number 28 = .ok (.aload_n 0, 1) := by decide +kernel
theorem dX5_number_29 : decode cX5_number 29 = .ok (.getfield 32, 3) := by decide +kernel
theorem dX5_number_32 : decode cX5_number 32 = .ok (.iaload, 1) := by decide +kernel
theorem dX5_number_33 : decode cX5_number 33 = .ok (.invokestatic 96, 3) := by decide +kernel
theorem dX5_number_36 : decode cX5_number 36 = .ok (.iconst 2, 1) := by decide +kernel
theorem dX5_number_37 : decode cX5_number 37 = .ok (.if_icmp .eq 5, 3) := by decide +kernel
theorem dX5_number_40 : decode cX5_number 40 = .ok (.iconst (-1), 1) := by decide +kernel
theorem dX5_number_41 : decode cX5_number 41 = .ok (.ireturn, 1) := by decide +kernel
theorem dX5_number_42 : decode cX5_number 42 = .ok (.iconst 0, 1) := by decide +kernel
theorem dX5_number_43 : decode cX5_number 43 = .ok (.istore_n 3, 1) := by decide +kernel
theorem dX5_number_44 : decode cX5_number 44 = .ok (.aload_n 0, 1) := by decide +kernel
theorem dX5_number_45 : decode cX5_number 45 = .ok (.getfield 32, 3) := by decide +kernel
theorem dX5_number_48 : decode cX5_number 48 = .ok (.istore 4, 2) := by decide +kernel
theorem dX5_number_50 : decode cX5_number 50 = .ok (.iload 4, 2) := by decide +kernel
theorem dX5_number_52 : decode cX5_number 52 = .ok (.aload_n 0, 1) := by decide +kernel
theorem dX5_number_53 : decode cX5_number 53 = .ok (.getfield 22, 3) := by decide +kernel
theorem dX5_number_56 : decode cX5_number 56 = .ok (.if_icmp .ge 25, 3) := by decide +kernel
theorem dX5_number_59 : decode cX5_number 59 = .ok (.bipush 10, 2) := by decide +kernel
theorem dX5_number_61 : decode cX5_number 61 = .ok (.iload_n 3, 1) := by decide +kernel
theorem dX5_number_62 : decode cX5_number 62 = .ok (.imul, 1) := by decide +kernel
theorem dX5_number_63 : decode cX5_number 63 = .ok (.aload_n 0, 1) := by decide +kernel
theorem dX5_number_64 : decode cX5_number 64 = .ok (.getfield 9, 3) := by decide +kernel
theorem dX5_number_67 : decode cX5_number 67 = .ok (.iload 4, 2) := by decide +kernel
theorem dX5_number_69 : decode cX5_number 69 = .ok (.iaload, 1) := by decide +kernel
theorem dX5_number_70 : decode cX5_number 70 = .ok (.iadd, 1) := by decide +kernel
theorem dX5_number_71 : decode cX5_number 71 = .ok (.bipush 48, 2) := by decide +kernel
theorem dX5_number_73 : decode cX5_number 73 = .ok (.isub, 1) := by decide +kernel
theorem dX5_number_74 : decode cX5_number 74 = .ok (.istore_n 3, 1) := by decide +kernel
theorem dX5_number_75 : decode cX5_number 75 = .ok (.iinc 4 1, 3) := by decide +kernel
theorem dX5_number_78 : decode cX5_number 78 = .ok (.goto (-28), 3) := by decide +kernel
theorem dX5_number_81 : decode cX5_number 81 = .ok (.iload_n 3, 1) := by decide +kernel
theorem dX5_number_82 : decode cX5_number 82 = .ok (.iload_n 1, 1) := by decide +kernel
theorem dX5_number_83 : decode cX5_number 83 = .ok (.if_icmp .lt 8, 3) := by decide +kernel
theorem dX5_number_86 : decode cX5_number 86 = .ok (.iload_n 3, 1) := by decide +kernel
theorem dX5_number_87 : decode cX5_number 87 = .ok (.iload_n 2, 1) := by decide +kernel
theorem dX5_number_88 : decode cX5_number 88 = .ok (.if_icmp .le 7, 3) := by decide +kernel
theorem dX5_number_91 : decode cX5_number 91 = .ok (.iconst (-1), 1) := by decide +kernel
theorem dX5_number_92 : decode cX5_number 92 = .ok (.goto 4, 3) := by decide +kernel
theorem dX5_number_95 : decode cX5_number 95 = .ok (.iload_n 3, 1) := by decide +kernel
theorem dX5_number_96 : decode cX5_number 96 = .ok (.ireturn, 1) := by decide +kernel
theorem dX5_word_0 : decode cX5_word 0 = .ok (.aload_n 0, 1) := by decide +kernel
theorem dX5_word_1 : decode cX5_word 1 = .ok (.ldc 99, 2) := by decide +kernel
theorem dX5_word_3 : decode cX5_word 3 = .ok (.invokevirtual 101, 3) := by decide +kernel
theorem dX5_word_6 : decode cX5_word 6 = .ok (.ifCond .eq 5, 3) := by decide +kernel
theorem dX5_word_9 : decode cX5_word 9 = .ok (.iconst 0, 1) := by decide +kernel
theorem dX5_word_10 : decode cX5_word 10 = .ok (.ireturn, 1) := by decide +kernel
theorem dX5_word_11 : decode cX5_word 11 = .ok (.aload_n 0, 1) := by decide +kernel
theorem dX5_word_12 : decode cX5_word 12 = .ok (.ldc 105, 2) := by decide +kernel
theorem dX5_word_14 : decode cX5_word 14 = .ok (.invokevirtual 101, 3) := by decide +kernel
theorem dX5_word_17 : decode cX5_word 17 = .ok (.ifCond .eq 5, 3) := by decide +kernel
theorem dX5_word_20 : decode cX5_word 20 = .ok (.iconst 1, 1) := by decide +kernel
theorem dX5_word_21 : decode cX5_word 21 = .ok (.ireturn, 1) := by decide +kernel
theorem dX5_word_22 : decode cX5_word 22 = .ok (.aload_n 0, 1) := by decide +kernel
theorem dX5_word_23 : decode cX5_word 23 = .ok (.ldc 107, 2) := by decide +kernel
theorem dX5_word_25 : decode cX5_word 25 = .ok (.invokevirtual 101, 3) := by decide +kernel
theorem dX5_word_28 : decode cX5_word 28 = .ok (.ifCond .eq 5, 3) := by decide +kernel
theorem dX5_word_31 : decode cX5_word 31 = .ok (.iconst 2, 1) := by decide +kernel
theorem dX5_word_32 : decode cX5_word 32 = .ok (.ireturn, 1) := by decide +kernel
theorem dX5_word_33 : decode cX5_word 33 = .ok (.aload_n 0, 1) := by decide +kernel
theorem dX5_word_34 : decode cX5_word 34 = .ok (.ldc 109, 2) := by decide +kernel
theorem dX5_word_36 : decode cX5_word 36 = .ok (.invokevirtual 101, 3) := by decide +kernel
theorem dX5_word_39 : decode cX5_word 39 = .ok (.ifCond .eq 5, 3) := by decide +kernel
theorem dX5_word_42 : decode cX5_word 42 = .ok (.iconst 3, 1) := by decide +kernel
theorem dX5_word_43 : decode cX5_word 43 = .ok (.ireturn, 1) := by decide +kernel
theorem dX5_word_44 : decode cX5_word 44 = .ok (.aload_n 0, 1) := by decide +kernel
theorem dX5_word_45 : decode cX5_word 45 = .ok (.ldc 111, 2) := by decide +kernel
theorem dX5_word_47 : decode cX5_word 47 = .ok (.invokevirtual 101, 3) := by decide +kernel
theorem dX5_word_50 : decode cX5_word 50 = .ok (.ifCond .eq 5, 3) := by decide +kernel
theorem dX5_word_53 : decode cX5_word 53 = .ok (.iconst 4, 1) := by decide +kernel
theorem dX5_word_54 : decode cX5_word 54 = .ok (.ireturn, 1) := by decide +kernel
theorem dX5_word_55 : decode cX5_word 55 = .ok (.aload_n 0, 1) := by decide +kernel
theorem dX5_word_56 : decode cX5_word 56 = .ok (.ldc 112, 2) := by decide +kernel
theorem dX5_word_58 : decode cX5_word 58 = .ok (.invokevirtual 101, 3) := by decide +kernel
theorem dX5_word_61 : decode cX5_word 61 = .ok (.ifCond .eq 5, 3) := by decide +kernel
theorem dX5_word_64 : decode cX5_word 64 = .ok (.iconst 5, 1) := by decide +kernel
theorem dX5_word_65 : decode cX5_word 65 = .ok (.ireturn, 1) := by decide +kernel
theorem dX5_word_66 : decode cX5_word 66 = .ok (.aload_n 0, 1) := by decide +kernel
theorem dX5_word_67 : decode cX5_word 67 = .ok (.ldc 114, 2) := by decide +kernel
theorem dX5_word_69 : decode cX5_word 69 = .ok (.invokevirtual 101, 3) := by decide +kernel
theorem dX5_word_72 : decode cX5_word 72 = .ok (.ifCond .eq 6, 3) := by decide +kernel
theorem dX5_word_75 : decode cX5_word 75 = .ok (.bipush 6, 2) := by decide +kernel
theorem dX5_word_77 : decode cX5_word 77 = .ok (.ireturn, 1) := by decide +kernel
theorem dX5_word_78 : decode cX5_word 78 = .ok (.aload_n 0, 1) := by decide +kernel
theorem dX5_word_79 : decode cX5_word 79 = .ok (.ldc 116, 2) := by decide +kernel
theorem dX5_word_81 : decode cX5_word 81 = .ok (.invokevirtual 101, 3) := by decide +kernel
theorem dX5_word_84 : decode cX5_word 84 = .ok (.ifCond .eq 6, 3) := by decide +kernel
theorem dX5_word_87 : decode cX5_word 87 = .ok (.bipush 7, 2) := by decide +kernel
theorem dX5_word_89 : decode cX5_word 89 = .ok (.ireturn, 1) := by decide +kernel
theorem dX5_word_90 : decode cX5_word 90 = .ok (.aload_n 0, 1) := by decide +kernel
theorem dX5_word_91 : decode cX5_word 91 = .ok (.ldc 118, 2) := by decide +kernel
theorem dX5_word_93 : decode cX5_word 93 = .ok (.invokevirtual 101, 3) := by decide +kernel
theorem dX5_word_96 : decode cX5_word 96 = .ok (.ifCond .eq 6, 3) := by decide +kernel
theorem dX5_word_99 : decode cX5_word 99 = .ok (.bipush 8, 2) := by decide +kernel
theorem dX5_word_101 : decode cX5_word 101 = .ok (.ireturn, 1) := by decide +kernel
theorem dX5_word_102 : decode cX5_word 102 = .ok (.aload_n 0, 1) := by decide +kernel
theorem dX5_word_103 : decode cX5_word 103 = .ok (.ldc 120, 2) := by decide +kernel
theorem dX5_word_105 : decode cX5_word 105 = .ok (.invokevirtual 101, 3) := by decide +kernel
theorem dX5_word_108 : decode cX5_word 108 = .ok (.ifCond .eq 8, 3) := by decide +kernel
theorem dX5_word_111 : decode cX5_word 111 = .ok (.bipush 9, 2) := by decide +kernel
theorem dX5_word_113 : decode cX5_word 113 = .ok (.goto 4, 3) := by decide +kernel
theorem dX5_word_116 : decode cX5_word 116 = .ok (.iconst (-1), 1) := by decide +kernel
theorem dX5_word_117 : decode cX5_word 117 = .ok (.ireturn, 1) := by decide +kernel
theorem dX5_isWord_0 : decode cX5_isWord 0 = .ok (.aload_n 0, 1) := by decide +kernel
theorem dX5_isWord_1 : decode cX5_isWord 1 = .ok (.getfield 22, 3) := by decide +kernel
theorem dX5_isWord_4 : decode cX5_isWord 4 = .ok (.aload_n 0, 1) := by decide +kernel
theorem dX5_isWord_5 : decode cX5_isWord 5 = .ok (.getfield 32, 3) := by decide +kernel
theorem dX5_isWord_8 : decode cX5_isWord 8 = .ok (.isub, 1) := by decide +kernel
theorem dX5_isWord_9 : decode cX5_isWord 9 = .ok (.aload_n 1, 1) := by decide +kernel
theorem dX5_isWord_10 : decode cX5_isWord 10 = .ok (.invokevirtual 122, 3) := by decide +kernel
theorem dX5_isWord_13 : decode cX5_isWord 13 = .ok (.if_icmp .eq 5, 3) := by decide +kernel
theorem dX5_isWord_16 : decode cX5_isWord 16 = .ok (.iconst 0, 1) := by decide +kernel
theorem dX5_isWord_17 : decode cX5_isWord 17 = .ok (.ireturn, 1) := by decide +kernel
theorem dX5_isWord_18 : decode cX5_isWord 18 = .ok (.iconst 0, 1) := by decide +kernel
theorem dX5_isWord_19 : decode cX5_isWord 19 = .ok (.istore_n 2, 1) := by decide +kernel
theorem dX5_isWord_20 : decode cX5_isWord 20 = .ok (.iload_n 2, 1) := by decide +kernel
theorem dX5_isWord_21 : decode cX5_isWord 21 = .ok (.aload_n 1, 1) := by decide +kernel
theorem dX5_isWord_22 : decode cX5_isWord 22 = .ok (.invokevirtual 122, 3) := by decide +kernel
theorem dX5_isWord_25 : decode cX5_isWord 25 = .ok (.if_icmp .ge 30, 3) := by decide +kernel
theorem dX5_isWord_28 : decode cX5_isWord 28 = .ok (.aload_n 0, 1) := by decide +kernel
theorem dX5_isWord_29 : decode cX5_isWord 29 = .ok (.getfield 9, 3) := by decide +kernel
theorem dX5_isWord_32 : decode cX5_isWord 32 = .ok (.aload_n 0, 1) := by decide +kernel
theorem dX5_isWord_33 : decode cX5_isWord 33 = .ok (.getfield 32, 3) := by decide +kernel
theorem dX5_isWord_36 : decode cX5_isWord 36 = .ok (.iload_n 2, 1) := by decide +kernel
theorem dX5_isWord_37 : decode cX5_isWord 37 = .ok (.iadd, 1) := by decide +kernel
theorem dX5_isWord_38 : decode cX5_isWord 38 = .ok (.iaload, 1) := by decide +kernel
theorem dX5_isWord_39 : decode cX5_isWord 39 = .ok (.aload_n 1, 1) := by decide +kernel
theorem dX5_isWord_40 : decode cX5_isWord 40 = .ok (.iload_n 2, 1) := by decide +kernel
theorem dX5_isWord_41 : decode cX5_isWord 41 = .ok (.invokevirtual 126, 3) := by decide +kernel
theorem dX5_isWord_44 : decode cX5_isWord 44 = .ok (.if_icmp .eq 5, 3) := by decide +kernel
theorem dX5_isWord_47 : decode cX5_isWord 47 = .ok (.iconst 0, 1) := by decide +kernel
theorem dX5_isWord_48 : decode cX5_isWord 48 = .ok (.ireturn, 1) := by decide +kernel
theorem dX5_isWord_49 : decode cX5_isWord 49 = .ok (.iinc 2 1, 3) := by decide +kernel
theorem dX5_isWord_52 : decode cX5_isWord 52 = .ok (.goto (-32), 3) := by decide +kernel
theorem dX5_isWord_55 : decode cX5_isWord 55 = .ok (.iconst 1, 1) := by decide +kernel
theorem dX5_isWord_56 : decode cX5_isWord 56 = .ok (.ireturn, 1) := by decide +kernel
theorem dJ0_length_8abf5_0 : decode cJ0_length_8abf5 0 = .ok (.aload_n 0, 1) := by decide +kernel
theorem dJ0_length_8abf5_1 : decode cJ0_length_8abf5 1 = .ok (.getfield 9, 3) := by decide +kernel
theorem dJ0_length_8abf5_4 : decode cJ0_length_8abf5 4 = .ok (.arraylength, 1) := by decide +kernel
theorem dJ0_length_8abf5_5 : decode cJ0_length_8abf5 5 = .ok (.aload_n 0, 1) := by decide +kernel
theorem dJ0_length_8abf5_6 : decode cJ0_length_8abf5 6 = .ok (.invokevirtual 335, 3) := by decide +kernel
theorem dJ0_length_8abf5_9 : decode cJ0_length_8abf5 9 = .ok (.ishr, 1) := by decide +kernel
theorem dJ0_length_8abf5_10 : decode cJ0_length_8abf5 10 = .ok (.ireturn, 1) := by decide +kernel
theorem dJ0_charAt_5068e_0 : decode cJ0_charAt_5068e 0 = .ok (.aload_n 0, 1) := by decide +kernel
theorem dJ0_charAt_5068e_1 : decode cJ0_charAt_5068e 1 = .ok (.invokevirtual 492, 3) := by decide +kernel
theorem dJ0_charAt_5068e_4 : decode cJ0_charAt_5068e 4 = .ok (.ifCond .eq 12, 3) := by decide +kernel
theorem dJ0_charAt_5068e_7 : decode cJ0_charAt_5068e 7 = .ok (.aload_n 0, 1) := by decide +kernel
theorem dJ0_charAt_5068e_8 : decode cJ0_charAt_5068e 8 = .ok (.getfield 9, 3) := by decide +kernel
theorem dJ0_charAt_5068e_11 : decode cJ0_charAt_5068e 11 = .ok (.iload_n 1, 1) := by decide +kernel
theorem dJ0_charAt_5068e_12 : decode cJ0_charAt_5068e 12 = .ok (.invokestatic 495, 3) := by decide +kernel
theorem dJ0_charAt_5068e_15 : decode cJ0_charAt_5068e 15 = .ok (.ireturn, 1) := by decide +kernel
theorem dJ0_charAt_5068e_16 : decode cJ0_charAt_5068e 16 = .ok (.aload_n 0, 1) := by decide +kernel
theorem dJ0_charAt_5068e_17 : decode cJ0_charAt_5068e 17 = .ok (.getfield 9, 3) := by decide +kernel
theorem dJ0_charAt_5068e_20 : decode cJ0_charAt_5068e 20 = .ok (.iload_n 1, 1) := by decide +kernel
theorem dJ0_charAt_5068e_21 : decode cJ0_charAt_5068e 21 = .ok (.invokestatic 498, 3) := by decide +kernel
theorem dJ0_charAt_5068e_24 : decode cJ0_charAt_5068e 24 = .ok (.ireturn, 1) := by decide +kernel
theorem dJ0_coder_7d493_0 : decode cJ0_coder_7d493 0 = .ok (.getstatic 38, 3) := by decide +kernel
theorem dJ0_coder_7d493_3 : decode cJ0_coder_7d493 3 = .ok (.ifCond .eq 10, 3) := by decide +kernel
theorem dJ0_coder_7d493_6 : decode cJ0_coder_7d493 6 = .ok (.aload_n 0, 1) := by decide +kernel
theorem dJ0_coder_7d493_7 : decode cJ0_coder_7d493 7 = .ok (.getfield 15, 3) := by decide +kernel
theorem dJ0_coder_7d493_10 : decode cJ0_coder_7d493 10 = .ok (.goto 4, 3) := by decide +kernel
theorem dJ0_coder_7d493_13 : decode cJ0_coder_7d493 13 = .ok (.iconst 1, 1) := by decide +kernel
theorem dJ0_coder_7d493_14 : decode cJ0_coder_7d493 14 = .ok (.ireturn, 1) := by decide +kernel
theorem dJ0_isLatin1_aae02_0 : decode cJ0_isLatin1_aae02 0 = .ok (.getstatic 38, 3) := by decide +kernel
theorem dJ0_isLatin1_aae02_3 : decode cJ0_isLatin1_aae02 3 = .ok (.ifCond .eq 14, 3) := by decide +kernel
theorem dJ0_isLatin1_aae02_6 : decode cJ0_isLatin1_aae02 6 = .ok (.aload_n 0, 1) := by decide +kernel
theorem dJ0_isLatin1_aae02_7 : decode cJ0_isLatin1_aae02 7 = .ok (.getfield 15, 3) := by decide +kernel
theorem dJ0_isLatin1_aae02_10 : decode cJ0_isLatin1_aae02 10 = .ok (.ifCond .ne 7, 3) := by decide +kernel
theorem dJ0_isLatin1_aae02_13 : decode cJ0_isLatin1_aae02 13 = .ok (.iconst 1, 1) := by decide +kernel
theorem dJ0_isLatin1_aae02_14 : decode cJ0_isLatin1_aae02 14 = .ok (.goto 4, 3) := by decide +kernel
theorem dJ0_isLatin1_aae02_17 : decode cJ0_isLatin1_aae02 17 = .ok (.iconst 0, 1) := by decide +kernel
theorem dJ0_isLatin1_aae02_18 : decode cJ0_isLatin1_aae02 18 = .ok (.ireturn, 1) := by decide +kernel
theorem dJ0_checkIndex_df160_0 : decode cJ0_checkIndex_df160 0 = .ok (.iload_n 0, 1) := by decide +kernel
theorem dJ0_checkIndex_df160_1 : decode cJ0_checkIndex_df160 1 = .ok (.iload_n 1, 1) := by decide +kernel
theorem dJ0_checkIndex_df160_2 : decode cJ0_checkIndex_df160 2 = .ok (.getstatic 1053, 3) := by decide +kernel
theorem dJ0_checkIndex_df160_5 : decode cJ0_checkIndex_df160 5 = .ok (.invokestatic 1059, 3) := by decide +kernel
theorem dJ0_checkIndex_df160_8 : decode cJ0_checkIndex_df160 8 = .ok (.pop, 1) := by decide +kernel
theorem dJ0_checkIndex_df160_9 : decode cJ0_checkIndex_df160 9 = .ok (.return_, 1) := by decide +kernel
theorem dJ1_charAt_3b067_0 : decode cJ1_charAt_3b067 0 = .ok (.iload_n 1, 1) := by decide +kernel
theorem dJ1_charAt_3b067_1 : decode cJ1_charAt_3b067 1 = .ok (.aload_n 0, 1) := by decide +kernel
theorem dJ1_charAt_3b067_2 : decode cJ1_charAt_3b067 2 = .ok (.arraylength, 1) := by decide +kernel
theorem dJ1_charAt_3b067_3 : decode cJ1_charAt_3b067 3 = .ok (.invokestatic 9, 3) := by decide +kernel
theorem dJ1_charAt_3b067_6 : decode cJ1_charAt_3b067 6 = .ok (.aload_n 0, 1) := by decide +kernel
theorem dJ1_charAt_3b067_7 : decode cJ1_charAt_3b067 7 = .ok (.iload_n 1, 1) := by decide +kernel
theorem dJ1_charAt_3b067_8 : decode cJ1_charAt_3b067 8 = .ok (.baload, 1) := by decide +kernel
theorem dJ1_charAt_3b067_9 : decode cJ1_charAt_3b067 9 = .ok (.sipush 255, 3) := by decide +kernel
theorem dJ1_charAt_3b067_12 : decode cJ1_charAt_3b067 12 = .ok (.iand, 1) := by decide +kernel
theorem dJ1_charAt_3b067_13 : decode cJ1_charAt_3b067 13 = .ok (.i2c, 1) := by decide +kernel
theorem dJ1_charAt_3b067_14 : decode cJ1_charAt_3b067 14 = .ok (.ireturn, 1) := by decide +kernel
theorem dJ2_getChar_3b067_0 : decode cJ2_getChar_3b067 0 = .ok (.getstatic 44, 3) := by decide +kernel
theorem dJ2_getChar_3b067_3 : decode cJ2_getChar_3b067 3 = .ok (.ifCond .ne 25, 3) := by decide +kernel
theorem dJ2_getChar_3b067_6 : decode cJ2_getChar_3b067 6 = .ok (.iload_n 1, 1) := by decide +kernel
theorem dJ2_getChar_3b067_7 : decode cJ2_getChar_3b067 7 = .ok (.ifCond .lt 11, 3) := by decide +kernel
theorem dJ2_getChar_3b067_10 : decode cJ2_getChar_3b067 10 = .ok (.iload_n 1, 1) := by decide +kernel
theorem dJ2_getChar_3b067_11 : decode cJ2_getChar_3b067 11 = .ok (.aload_n 0, 1) := by decide +kernel
theorem dJ2_getChar_3b067_12 : decode cJ2_getChar_3b067 12 = .ok (.invokestatic 48, 3) := by decide +kernel
theorem dJ2_getChar_3b067_15 : decode cJ2_getChar_3b067 15 = .ok (.if_icmp .lt 13, 3) := by decide +kernel
theorem dJ2_getChar_3b067_18 : decode cJ2_getChar_3b067 18 = .ok (.new 52, 3) := by decide +kernel
theorem dJ2_getChar_3b067_21 : decode cJ2_getChar_3b067 21 = .ok (.dup, 1) := by decide +kernel
theorem dJ2_getChar_3b067_22 : decode cJ2_getChar_3b067 22 = .ok (.ldc 54, 2) := by decide +kernel
theorem dJ2_getChar_3b067_24 : decode cJ2_getChar_3b067 24 = .ok (.invokespecial 56, 3) := by decide +kernel
theorem dJ2_getChar_3b067_27 : decode cJ2_getChar_3b067 27 = .ok (.athrow, 1) := by decide +kernel
theorem dJ2_getChar_3b067_28 : decode cJ2_getChar_3b067 28 = .ok (.iload_n 1, 1) := by decide +kernel
theorem dJ2_getChar_3b067_29 : decode cJ2_getChar_3b067 29 = .ok (.iconst 1, 1) := by decide +kernel
theorem dJ2_getChar_3b067_30 : decode cJ2_getChar_3b067 30 = .ok (.ishl, 1) := by decide +kernel
theorem dJ2_getChar_3b067_31 : decode cJ2_getChar_3b067 31 = .ok (.istore_n 1, 1) := by decide +kernel
theorem dJ2_getChar_3b067_32 : decode cJ2_getChar_3b067 32 = .ok (.aload_n 0, 1) := by decide +kernel
theorem dJ2_getChar_3b067_33 : decode cJ2_getChar_3b067 33 = .ok (.iload_n 1, 1) := by decide +kernel
theorem dJ2_getChar_3b067_34 : decode cJ2_getChar_3b067 34 = .ok (.iinc 1 1, 3) := by decide +kernel
theorem dJ2_getChar_3b067_37 : decode cJ2_getChar_3b067 37 = .ok (.baload, 1) := by decide +kernel
theorem dJ2_getChar_3b067_38 : decode cJ2_getChar_3b067 38 = .ok (.sipush 255, 3) := by decide +kernel
theorem dJ2_getChar_3b067_41 : decode cJ2_getChar_3b067 41 = .ok (.iand, 1) := by decide +kernel
theorem dJ2_getChar_3b067_42 : decode cJ2_getChar_3b067 42 = .ok (.getstatic 59, 3) := by decide +kernel
theorem dJ2_getChar_3b067_45 : decode cJ2_getChar_3b067 45 = .ok (.ishl, 1) := by decide +kernel
theorem dJ2_getChar_3b067_46 : decode cJ2_getChar_3b067 46 = .ok (.aload_n 0, 1) := by decide +kernel
theorem dJ2_getChar_3b067_47 : decode cJ2_getChar_3b067 47 = .ok (.iload_n 1, 1) := by decide +kernel
theorem dJ2_getChar_3b067_48 : decode cJ2_getChar_3b067 48 = .ok (.baload, 1) := by decide +kernel
theorem dJ2_getChar_3b067_49 : decode cJ2_getChar_3b067 49 = .ok (.sipush 255, 3) := by decide +kernel
theorem dJ2_getChar_3b067_52 : decode cJ2_getChar_3b067 52 = .ok (.iand, 1) := by decide +kernel
theorem dJ2_getChar_3b067_53 : decode cJ2_getChar_3b067 53 = .ok (.getstatic 63, 3) := by decide +kernel
theorem dJ2_getChar_3b067_56 : decode cJ2_getChar_3b067 56 = .ok (.ishl, 1) := by decide +kernel
theorem dJ2_getChar_3b067_57 : decode cJ2_getChar_3b067 57 = .ok (.ior, 1) := by decide +kernel
theorem dJ2_getChar_3b067_58 : decode cJ2_getChar_3b067 58 = .ok (.i2c, 1) := by decide +kernel
theorem dJ2_getChar_3b067_59 : decode cJ2_getChar_3b067 59 = .ok (.ireturn, 1) := by decide +kernel
theorem dJ2_length_9d52b_0 : decode cJ2_length_9d52b 0 = .ok (.aload_n 0, 1) := by decide +kernel
theorem dJ2_length_9d52b_1 : decode cJ2_length_9d52b 1 = .ok (.arraylength, 1) := by decide +kernel
theorem dJ2_length_9d52b_2 : decode cJ2_length_9d52b 2 = .ok (.iconst 1, 1) := by decide +kernel
theorem dJ2_length_9d52b_3 : decode cJ2_length_9d52b 3 = .ok (.ishr, 1) := by decide +kernel
theorem dJ2_length_9d52b_4 : decode cJ2_length_9d52b 4 = .ok (.ireturn, 1) := by decide +kernel
theorem dJ2_charAt_3b067_0 : decode cJ2_charAt_3b067 0 = .ok (.iload_n 1, 1) := by decide +kernel
theorem dJ2_charAt_3b067_1 : decode cJ2_charAt_3b067 1 = .ok (.aload_n 0, 1) := by decide +kernel
theorem dJ2_charAt_3b067_2 : decode cJ2_charAt_3b067 2 = .ok (.invokestatic 67, 3) := by decide +kernel
theorem dJ2_charAt_3b067_5 : decode cJ2_charAt_3b067 5 = .ok (.aload_n 0, 1) := by decide +kernel
theorem dJ2_charAt_3b067_6 : decode cJ2_charAt_3b067 6 = .ok (.iload_n 1, 1) := by decide +kernel
theorem dJ2_charAt_3b067_7 : decode cJ2_charAt_3b067 7 = .ok (.invokestatic 71, 3) := by decide +kernel
theorem dJ2_charAt_3b067_10 : decode cJ2_charAt_3b067 10 = .ok (.ireturn, 1) := by decide +kernel
theorem dJ2_checkIndex_2214a_0 : decode cJ2_checkIndex_2214a 0 = .ok (.iload_n 0, 1) := by decide +kernel
theorem dJ2_checkIndex_2214a_1 : decode cJ2_checkIndex_2214a 1 = .ok (.aload_n 1, 1) := by decide +kernel
theorem dJ2_checkIndex_2214a_2 : decode cJ2_checkIndex_2214a 2 = .ok (.invokestatic 48, 3) := by decide +kernel
theorem dJ2_checkIndex_2214a_5 : decode cJ2_checkIndex_2214a 5 = .ok (.invokestatic 414, 3) := by decide +kernel
theorem dJ2_checkIndex_2214a_8 : decode cJ2_checkIndex_2214a 8 = .ok (.return_, 1) := by decide +kernel
theorem dJ3_checkIndex_8e157_0 : decode cJ3_checkIndex_8e157 0 = .ok (.iload_n 0, 1) := by decide +kernel
theorem dJ3_checkIndex_8e157_1 : decode cJ3_checkIndex_8e157 1 = .ok (.ifCond .lt 8, 3) := by decide +kernel
theorem dJ3_checkIndex_8e157_4 : decode cJ3_checkIndex_8e157 4 = .ok (.iload_n 0, 1) := by decide +kernel
theorem dJ3_checkIndex_8e157_5 : decode cJ3_checkIndex_8e157 5 = .ok (.iload_n 1, 1) := by decide +kernel
theorem dJ3_checkIndex_8e157_6 : decode cJ3_checkIndex_8e157 6 = .ok (.if_icmp .lt 10, 3) := by decide +kernel
theorem dJ3_checkIndex_8e157_9 : decode cJ3_checkIndex_8e157 9 = .ok (.aload_n 2, 1) := by decide +kernel
theorem dJ3_checkIndex_8e157_10 : decode cJ3_checkIndex_8e157 10 = .ok (.iload_n 0, 1) := by decide +kernel
theorem dJ3_checkIndex_8e157_11 : decode cJ3_checkIndex_8e157 11 = .ok (.iload_n 1, 1) := by decide +kernel
theorem dJ3_checkIndex_8e157_12 : decode cJ3_checkIndex_8e157 12 = .ok (.invokestatic 95, 3) := by decide +kernel
theorem dJ3_checkIndex_8e157_15 : decode cJ3_checkIndex_8e157 15 = .ok (.athrow, 1) := by decide +kernel
theorem dJ3_checkIndex_8e157_16 : decode cJ3_checkIndex_8e157 16 = .ok (.iload_n 0, 1) := by decide +kernel
theorem dJ3_checkIndex_8e157_17 : decode cJ3_checkIndex_8e157 17 = .ok (.ireturn, 1) := by decide +kernel
theorem dJ6_numberOfTrailingZeros_0f7a4_0 : decode cJ6_numberOfTrailingZeros_0f7a4 0 = .ok (.iload_n 0, 1) := by decide +kernel
theorem dJ6_numberOfTrailingZeros_0f7a4_1 : decode cJ6_numberOfTrailingZeros_0f7a4 1 = .ok (.iconst (-1), 1) := by decide +kernel
theorem dJ6_numberOfTrailingZeros_0f7a4_2 : decode cJ6_numberOfTrailingZeros_0f7a4 2 = .ok (.ixor, 1) := by decide +kernel
theorem dJ6_numberOfTrailingZeros_0f7a4_3 : decode cJ6_numberOfTrailingZeros_0f7a4 3 = .ok (.iload_n 0, 1) := by decide +kernel
theorem dJ6_numberOfTrailingZeros_0f7a4_4 : decode cJ6_numberOfTrailingZeros_0f7a4 4 = .ok (.iconst 1, 1) := by decide +kernel
theorem dJ6_numberOfTrailingZeros_0f7a4_5 : decode cJ6_numberOfTrailingZeros_0f7a4 5 = .ok (.isub, 1) := by decide +kernel
theorem dJ6_numberOfTrailingZeros_0f7a4_6 : decode cJ6_numberOfTrailingZeros_0f7a4 6 = .ok (.iand, 1) := by decide +kernel
theorem dJ6_numberOfTrailingZeros_0f7a4_7 : decode cJ6_numberOfTrailingZeros_0f7a4 7 = .ok (.istore_n 0, 1) := by decide +kernel
theorem dJ6_numberOfTrailingZeros_0f7a4_8 : decode cJ6_numberOfTrailingZeros_0f7a4 8 = .ok (.iload_n 0, 1) := by decide +kernel
theorem dJ6_numberOfTrailingZeros_0f7a4_9 : decode cJ6_numberOfTrailingZeros_0f7a4 9 = .ok (.ifCond .gt 8, 3) := by decide +kernel
theorem dJ6_numberOfTrailingZeros_0f7a4_12 : decode cJ6_numberOfTrailingZeros_0f7a4 12 = .ok (.iload_n 0, 1) := by decide +kernel
theorem dJ6_numberOfTrailingZeros_0f7a4_13 : decode cJ6_numberOfTrailingZeros_0f7a4 13 = .ok (.bipush 32, 2) := by decide +kernel
theorem dJ6_numberOfTrailingZeros_0f7a4_15 : decode cJ6_numberOfTrailingZeros_0f7a4 15 = .ok (.iand, 1) := by decide +kernel
theorem dJ6_numberOfTrailingZeros_0f7a4_16 : decode cJ6_numberOfTrailingZeros_0f7a4 16 = .ok (.ireturn, 1) := by decide +kernel
theorem dJ6_numberOfTrailingZeros_0f7a4_17 : decode cJ6_numberOfTrailingZeros_0f7a4 17 = .ok (.iconst 1, 1) := by decide +kernel
theorem dJ6_numberOfTrailingZeros_0f7a4_18 : decode cJ6_numberOfTrailingZeros_0f7a4 18 = .ok (.istore_n 1, 1) := by decide +kernel
theorem dJ6_numberOfTrailingZeros_0f7a4_19 : decode cJ6_numberOfTrailingZeros_0f7a4 19 = .ok (.iload_n 0, 1) := by decide +kernel
theorem dJ6_numberOfTrailingZeros_0f7a4_20 : decode cJ6_numberOfTrailingZeros_0f7a4 20 = .ok (.ldc_w 264, 3) := by decide +kernel
theorem dJ6_numberOfTrailingZeros_0f7a4_23 : decode cJ6_numberOfTrailingZeros_0f7a4 23 = .ok (.if_icmp .le 11, 3) := by decide +kernel
theorem dJ6_numberOfTrailingZeros_0f7a4_26 : decode cJ6_numberOfTrailingZeros_0f7a4 26 = .ok (.iinc 1 16, 3) := by decide +kernel
theorem dJ6_numberOfTrailingZeros_0f7a4_29 : decode cJ6_numberOfTrailingZeros_0f7a4 29 = .ok (.iload_n 0, 1) := by decide +kernel
theorem dJ6_numberOfTrailingZeros_0f7a4_30 : decode cJ6_numberOfTrailingZeros_0f7a4 30 = .ok (.bipush 16, 2) := by decide +kernel
theorem dJ6_numberOfTrailingZeros_0f7a4_32 : decode cJ6_numberOfTrailingZeros_0f7a4 32 = .ok (.iushr, 1) := by decide +kernel
theorem dJ6_numberOfTrailingZeros_0f7a4_33 : decode cJ6_numberOfTrailingZeros_0f7a4 33 = .ok (.istore_n 0, 1) := by decide +kernel
theorem dJ6_numberOfTrailingZeros_0f7a4_34 : decode cJ6_numberOfTrailingZeros_0f7a4 34 = .ok (.iload_n 0, 1) := by decide +kernel
theorem dJ6_numberOfTrailingZeros_0f7a4_35 : decode cJ6_numberOfTrailingZeros_0f7a4 35 = .ok (.sipush 256, 3) := by decide +kernel
theorem dJ6_numberOfTrailingZeros_0f7a4_38 : decode cJ6_numberOfTrailingZeros_0f7a4 38 = .ok (.if_icmp .le 11, 3) := by decide +kernel
theorem dJ6_numberOfTrailingZeros_0f7a4_41 : decode cJ6_numberOfTrailingZeros_0f7a4 41 = .ok (.iinc 1 8, 3) := by decide +kernel
theorem dJ6_numberOfTrailingZeros_0f7a4_44 : decode cJ6_numberOfTrailingZeros_0f7a4 44 = .ok (.iload_n 0, 1) := by decide +kernel
theorem dJ6_numberOfTrailingZeros_0f7a4_45 : decode cJ6_numberOfTrailingZeros_0f7a4 45 = .ok (.bipush 8, 2) := by decide +kernel
theorem dJ6_numberOfTrailingZeros_0f7a4_47 : decode cJ6_numberOfTrailingZeros_0f7a4 47 = .ok (.iushr, 1) := by decide +kernel
theorem dJ6_numberOfTrailingZeros_0f7a4_48 : decode cJ6_numberOfTrailingZeros_0f7a4 48 = .ok (.istore_n 0, 1) := by decide +kernel
theorem dJ6_numberOfTrailingZeros_0f7a4_49 : decode cJ6_numberOfTrailingZeros_0f7a4 49 = .ok (.iload_n 0, 1) := by decide +kernel
theorem dJ6_numberOfTrailingZeros_0f7a4_50 : decode cJ6_numberOfTrailingZeros_0f7a4 50 = .ok (.bipush 16, 2) := by decide +kernel
theorem dJ6_numberOfTrailingZeros_0f7a4_52 : decode cJ6_numberOfTrailingZeros_0f7a4 52 = .ok (.if_icmp .le 10, 3) := by decide +kernel
theorem dJ6_numberOfTrailingZeros_0f7a4_55 : decode cJ6_numberOfTrailingZeros_0f7a4 55 = .ok (.iinc 1 4, 3) := by decide +kernel
theorem dJ6_numberOfTrailingZeros_0f7a4_58 : decode cJ6_numberOfTrailingZeros_0f7a4 58 = .ok (.iload_n 0, 1) := by decide +kernel
theorem dJ6_numberOfTrailingZeros_0f7a4_59 : decode cJ6_numberOfTrailingZeros_0f7a4 59 = .ok (.iconst 4, 1) := by decide +kernel
theorem dJ6_numberOfTrailingZeros_0f7a4_60 : decode cJ6_numberOfTrailingZeros_0f7a4 60 = .ok (.iushr, 1) := by decide +kernel
theorem dJ6_numberOfTrailingZeros_0f7a4_61 : decode cJ6_numberOfTrailingZeros_0f7a4 61 = .ok (.istore_n 0, 1) := by decide +kernel
theorem dJ6_numberOfTrailingZeros_0f7a4_62 : decode cJ6_numberOfTrailingZeros_0f7a4 62 = .ok (.iload_n 0, 1) := by decide +kernel
theorem dJ6_numberOfTrailingZeros_0f7a4_63 : decode cJ6_numberOfTrailingZeros_0f7a4 63 = .ok (.iconst 4, 1) := by decide +kernel
theorem dJ6_numberOfTrailingZeros_0f7a4_64 : decode cJ6_numberOfTrailingZeros_0f7a4 64 = .ok (.if_icmp .le 10, 3) := by decide +kernel
theorem dJ6_numberOfTrailingZeros_0f7a4_67 : decode cJ6_numberOfTrailingZeros_0f7a4 67 = .ok (.iinc 1 2, 3) := by decide +kernel
theorem dJ6_numberOfTrailingZeros_0f7a4_70 : decode cJ6_numberOfTrailingZeros_0f7a4 70 = .ok (.iload_n 0, 1) := by decide +kernel
theorem dJ6_numberOfTrailingZeros_0f7a4_71 : decode cJ6_numberOfTrailingZeros_0f7a4 71 = .ok (.iconst 2, 1) := by decide +kernel
theorem dJ6_numberOfTrailingZeros_0f7a4_72 : decode cJ6_numberOfTrailingZeros_0f7a4 72 = .ok (.iushr, 1) := by decide +kernel
theorem dJ6_numberOfTrailingZeros_0f7a4_73 : decode cJ6_numberOfTrailingZeros_0f7a4 73 = .ok (.istore_n 0, 1) := by decide +kernel
theorem dJ6_numberOfTrailingZeros_0f7a4_74 : decode cJ6_numberOfTrailingZeros_0f7a4 74 = .ok (.iload_n 1, 1) := by decide +kernel
theorem dJ6_numberOfTrailingZeros_0f7a4_75 : decode cJ6_numberOfTrailingZeros_0f7a4 75 = .ok (.iload_n 0, 1) := by decide +kernel
theorem dJ6_numberOfTrailingZeros_0f7a4_76 : decode cJ6_numberOfTrailingZeros_0f7a4 76 = .ok (.iconst 1, 1) := by decide +kernel
theorem dJ6_numberOfTrailingZeros_0f7a4_77 : decode cJ6_numberOfTrailingZeros_0f7a4 77 = .ok (.iushr, 1) := by decide +kernel
theorem dJ6_numberOfTrailingZeros_0f7a4_78 : decode cJ6_numberOfTrailingZeros_0f7a4 78 = .ok (.iadd, 1) := by decide +kernel
theorem dJ6_numberOfTrailingZeros_0f7a4_79 : decode cJ6_numberOfTrailingZeros_0f7a4 79 = .ok (.ireturn, 1) := by decide +kernel
theorem dJ6_bitCount_0f7a4_0 : decode cJ6_bitCount_0f7a4 0 = .ok (.iload_n 0, 1) := by decide +kernel
theorem dJ6_bitCount_0f7a4_1 : decode cJ6_bitCount_0f7a4 1 = .ok (.iload_n 0, 1) := by decide +kernel
theorem dJ6_bitCount_0f7a4_2 : decode cJ6_bitCount_0f7a4 2 = .ok (.iconst 1, 1) := by decide +kernel
theorem dJ6_bitCount_0f7a4_3 : decode cJ6_bitCount_0f7a4 3 = .ok (.iushr, 1) := by decide +kernel
theorem dJ6_bitCount_0f7a4_4 : decode cJ6_bitCount_0f7a4 4 = .ok (.ldc_w 265, 3) := by decide +kernel
theorem dJ6_bitCount_0f7a4_7 : decode cJ6_bitCount_0f7a4 7 = .ok (.iand, 1) := by decide +kernel
theorem dJ6_bitCount_0f7a4_8 : decode cJ6_bitCount_0f7a4 8 = .ok (.isub, 1) := by decide +kernel
theorem dJ6_bitCount_0f7a4_9 : decode cJ6_bitCount_0f7a4 9 = .ok (.istore_n 0, 1) := by decide +kernel
theorem dJ6_bitCount_0f7a4_10 : decode cJ6_bitCount_0f7a4 10 = .ok (.iload_n 0, 1) := by decide +kernel
theorem dJ6_bitCount_0f7a4_11 : decode cJ6_bitCount_0f7a4 11 = .ok (.ldc_w 266, 3) := by decide +kernel
theorem dJ6_bitCount_0f7a4_14 : decode cJ6_bitCount_0f7a4 14 = .ok (.iand, 1) := by decide +kernel
theorem dJ6_bitCount_0f7a4_15 : decode cJ6_bitCount_0f7a4 15 = .ok (.iload_n 0, 1) := by decide +kernel
theorem dJ6_bitCount_0f7a4_16 : decode cJ6_bitCount_0f7a4 16 = .ok (.iconst 2, 1) := by decide +kernel
theorem dJ6_bitCount_0f7a4_17 : decode cJ6_bitCount_0f7a4 17 = .ok (.iushr, 1) := by decide +kernel
theorem dJ6_bitCount_0f7a4_18 : decode cJ6_bitCount_0f7a4 18 = .ok (.ldc_w 266, 3) := by decide +kernel
theorem dJ6_bitCount_0f7a4_21 : decode cJ6_bitCount_0f7a4 21 = .ok (.iand, 1) := by decide +kernel
theorem dJ6_bitCount_0f7a4_22 : decode cJ6_bitCount_0f7a4 22 = .ok (.iadd, 1) := by decide +kernel
theorem dJ6_bitCount_0f7a4_23 : decode cJ6_bitCount_0f7a4 23 = .ok (.istore_n 0, 1) := by decide +kernel
theorem dJ6_bitCount_0f7a4_24 : decode cJ6_bitCount_0f7a4 24 = .ok (.iload_n 0, 1) := by decide +kernel
theorem dJ6_bitCount_0f7a4_25 : decode cJ6_bitCount_0f7a4 25 = .ok (.iload_n 0, 1) := by decide +kernel
theorem dJ6_bitCount_0f7a4_26 : decode cJ6_bitCount_0f7a4 26 = .ok (.iconst 4, 1) := by decide +kernel
theorem dJ6_bitCount_0f7a4_27 : decode cJ6_bitCount_0f7a4 27 = .ok (.iushr, 1) := by decide +kernel
theorem dJ6_bitCount_0f7a4_28 : decode cJ6_bitCount_0f7a4 28 = .ok (.iadd, 1) := by decide +kernel
theorem dJ6_bitCount_0f7a4_29 : decode cJ6_bitCount_0f7a4 29 = .ok (.ldc_w 267, 3) := by decide +kernel
theorem dJ6_bitCount_0f7a4_32 : decode cJ6_bitCount_0f7a4 32 = .ok (.iand, 1) := by decide +kernel
theorem dJ6_bitCount_0f7a4_33 : decode cJ6_bitCount_0f7a4 33 = .ok (.istore_n 0, 1) := by decide +kernel
theorem dJ6_bitCount_0f7a4_34 : decode cJ6_bitCount_0f7a4 34 = .ok (.iload_n 0, 1) := by decide +kernel
theorem dJ6_bitCount_0f7a4_35 : decode cJ6_bitCount_0f7a4 35 = .ok (.iload_n 0, 1) := by decide +kernel
theorem dJ6_bitCount_0f7a4_36 : decode cJ6_bitCount_0f7a4 36 = .ok (.bipush 8, 2) := by decide +kernel
theorem dJ6_bitCount_0f7a4_38 : decode cJ6_bitCount_0f7a4 38 = .ok (.iushr, 1) := by decide +kernel
theorem dJ6_bitCount_0f7a4_39 : decode cJ6_bitCount_0f7a4 39 = .ok (.iadd, 1) := by decide +kernel
theorem dJ6_bitCount_0f7a4_40 : decode cJ6_bitCount_0f7a4 40 = .ok (.istore_n 0, 1) := by decide +kernel
theorem dJ6_bitCount_0f7a4_41 : decode cJ6_bitCount_0f7a4 41 = .ok (.iload_n 0, 1) := by decide +kernel
theorem dJ6_bitCount_0f7a4_42 : decode cJ6_bitCount_0f7a4 42 = .ok (.iload_n 0, 1) := by decide +kernel
theorem dJ6_bitCount_0f7a4_43 : decode cJ6_bitCount_0f7a4 43 = .ok (.bipush 16, 2) := by decide +kernel
theorem dJ6_bitCount_0f7a4_45 : decode cJ6_bitCount_0f7a4 45 = .ok (.iushr, 1) := by decide +kernel
theorem dJ6_bitCount_0f7a4_46 : decode cJ6_bitCount_0f7a4 46 = .ok (.iadd, 1) := by decide +kernel
theorem dJ6_bitCount_0f7a4_47 : decode cJ6_bitCount_0f7a4 47 = .ok (.istore_n 0, 1) := by decide +kernel
theorem dJ6_bitCount_0f7a4_48 : decode cJ6_bitCount_0f7a4 48 = .ok (.iload_n 0, 1) := by decide +kernel
theorem dJ6_bitCount_0f7a4_49 : decode cJ6_bitCount_0f7a4 49 = .ok (.bipush 63, 2) := by decide +kernel
theorem dJ6_bitCount_0f7a4_51 : decode cJ6_bitCount_0f7a4 51 = .ok (.iand, 1) := by decide +kernel
theorem dJ6_bitCount_0f7a4_52 : decode cJ6_bitCount_0f7a4 52 = .ok (.ireturn, 1) := by decide +kernel
theorem dJ9_max_7cf53_0 : decode cJ9_max_7cf53 0 = .ok (.iload_n 0, 1) := by decide +kernel
theorem dJ9_max_7cf53_1 : decode cJ9_max_7cf53 1 = .ok (.iload_n 1, 1) := by decide +kernel
theorem dJ9_max_7cf53_2 : decode cJ9_max_7cf53 2 = .ok (.if_icmp .lt 7, 3) := by decide +kernel
theorem dJ9_max_7cf53_5 : decode cJ9_max_7cf53 5 = .ok (.iload_n 0, 1) := by decide +kernel
theorem dJ9_max_7cf53_6 : decode cJ9_max_7cf53 6 = .ok (.goto 4, 3) := by decide +kernel
theorem dJ9_max_7cf53_9 : decode cJ9_max_7cf53 9 = .ok (.iload_n 1, 1) := by decide +kernel
theorem dJ9_max_7cf53_10 : decode cJ9_max_7cf53 10 = .ok (.ireturn, 1) := by decide +kernel
theorem dJ9_min_7cf53_0 : decode cJ9_min_7cf53 0 = .ok (.iload_n 0, 1) := by decide +kernel
theorem dJ9_min_7cf53_1 : decode cJ9_min_7cf53 1 = .ok (.iload_n 1, 1) := by decide +kernel
theorem dJ9_min_7cf53_2 : decode cJ9_min_7cf53 2 = .ok (.if_icmp .gt 7, 3) := by decide +kernel
theorem dJ9_min_7cf53_5 : decode cJ9_min_7cf53 5 = .ok (.iload_n 0, 1) := by decide +kernel
theorem dJ9_min_7cf53_6 : decode cJ9_min_7cf53 6 = .ok (.goto 4, 3) := by decide +kernel
theorem dJ9_min_7cf53_9 : decode cJ9_min_7cf53 9 = .ok (.iload_n 1, 1) := by decide +kernel
theorem dJ9_min_7cf53_10 : decode cJ9_min_7cf53 10 = .ok (.ireturn, 1) := by decide +kernel
end
section
theorem dX6_init_0 : decode cX6_init 0 = .ok (.aload_n 0, 1) := by decide +kernel
theorem dX6_init_1 : decode cX6_init 1 = .ok (.invokespecial 1, 3) := by decide +kernel
theorem dX6_init_4 : decode cX6_init 4 = .ok (.aload_n 0, 1) := by decide +kernel
theorem dX6_init_5 : decode cX6_init 5 = .ok (.new 7, 3) := by decide +kernel
theorem dX6_init_8 : decode cX6_init 8 = .ok (.dup, 1) := by decide +kernel
theorem dX6_init_9 : decode cX6_init 9 = .ok (.invokespecial 9, 3) := by decide +kernel
theorem dX6_init_12 : decode cX6_init 12 = .ok (.putfield 10, 3) := by decide +kernel
theorem dX6_init_15 : decode cX6_init 15 = .ok (.aload_n 0, 1) := by decide +kernel
theorem dX6_init_16 : decode cX6_init 16 = .ok (.new 16, 3) := by decide +kernel
theorem dX6_init_19 : decode cX6_init 19 = .ok (.dup, 1) := by decide +kernel
theorem dX6_init_20 : decode cX6_init 20 = .ok (.invokespecial 18, 3) := by decide +kernel
theorem dX6_init_23 : decode cX6_init 23 = .ok (.putfield 19, 3) := by decide +kernel
theorem dX6_init_26 : decode cX6_init 26 = .ok (.aload_n 0, 1) := by decide +kernel
theorem dX6_init_27 : decode cX6_init 27 = .ok (.new 16, 3) := by decide +kernel
theorem dX6_init_30 : decode cX6_init 30 = .ok (.dup, 1) := by decide +kernel
theorem dX6_init_31 : decode cX6_init 31 = .ok (.invokespecial 18, 3) := by decide +kernel
theorem dX6_init_34 : decode cX6_init 34 = .ok (.putfield 23, 3) := by decide +kernel
theorem dX6_init_37 : decode cX6_init 37 = .ok (.aload_n 0, 1) := by decide +kernel
theorem dX6_init_38 : decode cX6_init 38 = .ok (.new 26, 3) := by decide +kernel
theorem dX6_init_41 : decode cX6_init 41 = .ok (.dup, 1) := by decide +kernel
theorem dX6_init_42 : decode cX6_init 42 = .ok (.aload_n 0, 1) := by decide +kernel
theorem dX6_init_43 : decode cX6_init 43 = .ok (.getfield 19, 3) := by decide +kernel
theorem dX6_init_46 : decode cX6_init 46 = .ok (.invokespecial 28, 3) := by decide +kernel
theorem dX6_init_49 : decode cX6_init 49 = .ok (.putfield 31, 3) := by decide +kernel
theorem dX6_init_52 : decode cX6_init 52 = .ok (.aload_n 0, 1) := by decide +kernel
theorem dX6_init_53 : decode cX6_init 53 = .ok (.new 26, 3) := by decide +kernel
theorem dX6_init_56 : decode cX6_init 56 = .ok (.dup, 1) := by decide +kernel
theorem dX6_init_57 : decode cX6_init 57 = .ok (.aload_n 0, 1) := by decide +kernel
theorem dX6_init_58 : decode cX6_init 58 = .ok (.getfield 19, 3) := by decide +kernel
theorem dX6_init_61 : decode cX6_init 61 = .ok (.invokespecial 28, 3) := by decide +kernel
theorem dX6_init_64 : decode cX6_init 64 = .ok (.putfield 35, 3) := by decide +kernel
theorem dX6_init_67 : decode cX6_init 67 = .ok (.aload_n 0, 1) := by decide +kernel
theorem dX6_init_68 : decode cX6_init 68 = .ok (.new 38, 3) := by decide +kernel
theorem dX6_init_71 : decode cX6_init 71 = .ok (.dup, 1) := by decide +kernel
theorem dX6_init_72 : decode cX6_init 72 = .ok (.aload_n 0, 1) := by decide +kernel
theorem dX6_init_73 : decode cX6_init 73 = .ok (.getfield 19, 3) := by decide +kernel
theorem dX6_init_76 : decode cX6_init 76 = .ok (.invokespecial 40, 3) := by decide +kernel
theorem dX6_init_79 : decode cX6_init 79 = .ok (.putfield 41, 3) := by decide +kernel
theorem dX6_init_82 : decode cX6_init 82 = .ok (.aload_n 0, 1) := by decide +kernel
theorem dX6_init_83 : decode cX6_init 83 = .ok (.iconst 2, 1) := by decide +kernel
theorem dX6_init_84 : decode cX6_init 84 = .ok (.anewarray 26, 3) := by decide +kernel
theorem dX6_init_87 : decode cX6_init 87 = .ok (.putfield 45, 3) := by decide +kernel
theorem dX6_init_90 : decode cX6_init 90 = .ok (.iconst 0, 1) := by decide +kernel
theorem dX6_init_91 : decode cX6_init 91 = .ok (.istore_n 1, 1) := by decide +kernel
theorem dX6_init_92 : decode cX6_init 92 = .ok (.iload_n 1, 1) := by decide +kernel
theorem dX6_init_93 : decode cX6_init 93 = .ok (.iconst 2, 1) := by decide +kernel
theorem dX6_init_94 : decode cX6_init 94 = .ok (.if_icmp .ge 26, 3) := by decide +kernel
theorem dX6_init_97 : decode cX6_init 97 = .ok (.aload_n 0, 1) := by decide +kernel
theorem dX6_init_98 : decode cX6_init 98 = .ok (.getfield 45, 3) := by decide +kernel
theorem dX6_init_101 : decode cX6_init 101 = .ok (.iload_n 1, 1) := by decide +kernel
theorem dX6_init_102 : decode cX6_init 102 = .ok (.new 26, 3) := by decide +kernel
theorem dX6_init_105 : decode cX6_init 105 = .ok (.dup, 1) := by decide +kernel
theorem dX6_init_106 : decode cX6_init 106 = .ok (.aload_n 0, 1) := by decide +kernel
theorem dX6_init_107 : decode cX6_init 107 = .ok (.getfield 19, 3) := by decide +kernel
theorem dX6_init_110 : decode cX6_init 110 = .ok (.invokespecial 28, 3) := by decide +kernel
theorem dX6_init_113 : decode cX6_init 113 = .ok (.aastore, 1) := by decide +kernel
theorem dX6_init_114 : decode cX6_init 114 = .ok (.iinc 1 1, 3) := by decide +kernel
theorem dX6_init_117 : decode cX6_init 117 = .ok (.goto (-25), 3) := by decide +kernel
theorem dX6_init_120 : decode cX6_init 120 = .ok (.aload_n 0, 1) := by decide +kernel
theorem dX6_init_121 : decode cX6_init 121 = .ok (.iconst 0, 1) := by decide +kernel
theorem dX6_init_122 : decode cX6_init 122 = .ok (.putfield 49, 3) := by decide +kernel
theorem dX6_init_125 : decode cX6_init 125 = .ok (.aload_n 0, 1) := by decide +kernel
theorem dX6_init_126 : decode cX6_init 126 = .ok (.new 53, 3) := by decide +kernel
theorem dX6_init_129 : decode cX6_init 129 = .ok (.dup, 1) := by decide +kernel
theorem dX6_init_130 : decode cX6_init 130 = .ok (.aload_n 0, 1) := by decide +kernel
theorem dX6_init_131 : decode cX6_init 131 = .ok (.getfield 19, 3) := by decide +kernel
theorem dX6_init_134 : decode cX6_init 134 = .ok (.aload_n 0, 1) := by decide +kernel
theorem dX6_init_135 : decode cX6_init 135 = .ok (.getfield 31, 3) := by decide +kernel
theorem dX6_init_138 : decode cX6_init 138 = .ok (.invokespecial 55, 3) := by decide +kernel
theorem dX6_init_141 : decode cX6_init 141 = .ok (.putfield 58, 3) := by decide +kernel
theorem dX6_init_144 : decode cX6_init 144 = .ok (.aload_n 0, 1) := by decide +kernel
theorem dX6_init_145 : decode cX6_init 145 = .ok (.new 62, 3) := by decide +kernel
theorem dX6_init_148 : decode cX6_init 148 = .ok (.dup, 1) := by decide +kernel
theorem dX6_init_149 : decode cX6_init 149 = .ok (.aload_n 0, 1) := by decide +kernel
theorem dX6_init_150 : decode cX6_init 150 = .ok (.getfield 19, 3) := by decide +kernel
theorem dX6_init_153 : decode cX6_init 153 = .ok (.aload_n 0, 1) := by decide +kernel
theorem dX6_init_154 : decode cX6_init 154 = .ok (.getfield 31, 3) := by decide +kernel
theorem dX6_init_157 : decode cX6_init 157 = .ok (.invokespecial 64, 3) := by decide +kernel
theorem dX6_init_160 : decode cX6_init 160 = .ok (.putfield 65, 3) := by decide +kernel
theorem dX6_init_163 : decode cX6_init 163 = .ok (.return_, 1) := by decide +kernel
theorem dX6_write_0 : decode cX6_write 0 = .ok (.iload_n 1, 1) := by decide +kernel
theorem dX6_write_1 : decode cX6_write 1 = .ok (.ifCond .lt 10, 3) := by decide +kernel
theorem dX6_write_4 : decode cX6_write 4 = .ok (.iload_n 1, 1) := by decide +kernel
theorem dX6_write_5 : decode cX6_write 5 = .ok (.sipush 255, 3) := by decide +kernel
theorem dX6_write_8 : decode cX6_write 8 = .ok (.if_icmp .le 6, 3) := by decide +kernel
theorem dX6_write_11 : decode cX6_write 11 = .ok (.bipush (-3), 2) := by decide +kernel
theorem dX6_write_13 : decode cX6_write 13 = .ok (.ireturn, 1) := by decide +kernel
theorem dX6_write_14 : decode cX6_write 14 = .ok (.aload_n 0, 1) := by decide +kernel
theorem dX6_write_15 : decode cX6_write 15 = .ok (.getfield 10, 3) := by decide +kernel
theorem dX6_write_18 : decode cX6_write 18 = .ok (.getfield 69, 3) := by decide +kernel
theorem dX6_write_21 : decode cX6_write 21 = .ok (.sipush 160, 3) := by decide +kernel
theorem dX6_write_24 : decode cX6_write 24 = .ok (.if_icmp .lt 6, 3) := by decide +kernel
theorem dX6_write_27 : decode cX6_write 27 = .ok (.bipush (-5), 2) := by decide +kernel
theorem dX6_write_29 : decode cX6_write 29 = .ok (.ireturn, 1) := by decide +kernel
theorem dX6_write_30 : decode cX6_write 30 = .ok (.aload_n 0, 1) := by decide +kernel
theorem dX6_write_31 : decode cX6_write 31 = .ok (.getfield 10, 3) := by decide +kernel
theorem dX6_write_34 : decode cX6_write 34 = .ok (.iload_n 1, 1) := by decide +kernel
theorem dX6_write_35 : decode cX6_write 35 = .ok (.invokevirtual 72, 3) := by decide +kernel
theorem dX6_write_38 : decode cX6_write 38 = .ok (.aload_n 0, 1) := by decide +kernel
theorem dX6_write_39 : decode cX6_write 39 = .ok (.getfield 10, 3) := by decide +kernel
theorem dX6_write_42 : decode cX6_write 42 = .ok (.getfield 69, 3) := by decide +kernel
theorem dX6_write_45 : decode cX6_write 45 = .ok (.ireturn, 1) := by decide +kernel
theorem dX6_erase_0 : decode cX6_erase 0 = .ok (.aload_n 0, 1) := by decide +kernel
theorem dX6_erase_1 : decode cX6_erase 1 = .ok (.getfield 10, 3) := by decide +kernel
theorem dX6_erase_4 : decode cX6_erase 4 = .ok (.getfield 69, 3) := by decide +kernel
theorem dX6_erase_7 : decode cX6_erase 7 = .ok (.istore_n 1, 1) := by decide +kernel
theorem dX6_erase_8 : decode cX6_erase 8 = .ok (.aload_n 0, 1) := by decide +kernel
theorem dX6_erase_9 : decode cX6_erase 9 = .ok (.getfield 10, 3) := by decide +kernel
theorem dX6_erase_12 : decode cX6_erase 12 = .ok (.iconst 0, 1) := by decide +kernel
theorem dX6_erase_13 : decode cX6_erase 13 = .ok (.putfield 69, 3) := by decide +kernel
theorem dX6_erase_16 : decode cX6_erase 16 = .ok (.iload_n 1, 1) := by decide +kernel
theorem dX6_erase_17 : decode cX6_erase 17 = .ok (.ireturn, 1) := by decide +kernel
theorem dX6_fault_0 : decode cX6_fault 0 = .ok (.aload_n 0, 1) := by decide +kernel
theorem dX6_fault_1 : decode cX6_fault 1 = .ok (.getfield 23, 3) := by decide +kernel
theorem dX6_fault_4 : decode cX6_fault 4 = .ok (.aload_n 0, 1) := by decide +kernel
theorem dX6_fault_5 : decode cX6_fault 5 = .ok (.getfield 19, 3) := by decide +kernel
theorem dX6_fault_8 : decode cX6_fault 8 = .ok (.invokevirtual 76, 3) := by decide +kernel
theorem dX6_fault_11 : decode cX6_fault 11 = .ok (.aload_n 0, 1) := by decide +kernel
theorem dX6_fault_12 : decode cX6_fault 12 = .ok (.getfield 10, 3) := by decide +kernel
theorem dX6_fault_15 : decode cX6_fault 15 = .ok (.aload_n 0, 1) := by decide +kernel
theorem dX6_fault_16 : decode cX6_fault 16 = .ok (.getfield 23, 3) := by decide +kernel
theorem dX6_fault_19 : decode cX6_fault 19 = .ok (.invokevirtual 79, 3) := by decide +kernel
theorem dX6_fault_22 : decode cX6_fault 22 = .ok (.ireturn, 1) := by decide +kernel
theorem dX6_loom_0 : decode cX6_loom 0 = .ok (.aload_n 0, 1) := by decide +kernel
theorem dX6_loom_1 : decode cX6_loom 1 = .ok (.getfield 23, 3) := by decide +kernel
theorem dX6_loom_4 : decode cX6_loom 4 = .ok (.aload_n 0, 1) := by decide +kernel
theorem dX6_loom_5 : decode cX6_loom 5 = .ok (.getfield 19, 3) := by decide +kernel
theorem dX6_loom_8 : decode cX6_loom 8 = .ok (.invokevirtual 76, 3) := by decide +kernel
theorem dX6_loom_11 : decode cX6_loom 11 = .ok (.aload_n 0, 1) := by decide +kernel
theorem dX6_loom_12 : decode cX6_loom 12 = .ok (.getfield 10, 3) := by decide +kernel
theorem dX6_loom_15 : decode cX6_loom 15 = .ok (.aload_n 0, 1) := by decide +kernel
theorem dX6_loom_16 : decode cX6_loom 16 = .ok (.getfield 23, 3) := by decide +kernel
theorem dX6_loom_19 : decode cX6_loom 19 = .ok (.invokevirtual 79, 3) := by decide +kernel
theorem dX6_loom_22 : decode cX6_loom 22 = .ok (.iconst (-1), 1) := by decide +kernel
theorem dX6_loom_23 : decode cX6_loom 23 = .ok (.if_icmp .eq 6, 3) := by decide +kernel
theorem dX6_loom_26 : decode cX6_loom 26 = .ok (.bipush (-4), 2) := by decide +kernel
theorem dX6_loom_28 : decode cX6_loom 28 = .ok (.ireturn, 1) := by decide +kernel
theorem dX6_loom_29 : decode cX6_loom 29 = .ok (.aload_n 0, 1) := by decide +kernel
theorem dX6_loom_30 : decode cX6_loom 30 = .ok (.getfield 19, 3) := by decide +kernel
theorem dX6_loom_33 : decode cX6_loom 33 = .ok (.aload_n 0, 1) := by decide +kernel
theorem dX6_loom_34 : decode cX6_loom 34 = .ok (.getfield 23, 3) := by decide +kernel
theorem dX6_loom_37 : decode cX6_loom 37 = .ok (.invokevirtual 76, 3) := by decide +kernel
theorem dX6_loom_40 : decode cX6_loom 40 = .ok (.aload_n 0, 1) := by decide +kernel
theorem dX6_loom_41 : decode cX6_loom 41 = .ok (.getfield 10, 3) := by decide +kernel
theorem dX6_loom_44 : decode cX6_loom 44 = .ok (.iconst 0, 1) := by decide +kernel
theorem dX6_loom_45 : decode cX6_loom 45 = .ok (.putfield 69, 3) := by decide +kernel
theorem dX6_loom_48 : decode cX6_loom 48 = .ok (.aload_n 0, 1) := by decide +kernel
theorem dX6_loom_49 : decode cX6_loom 49 = .ok (.getfield 31, 3) := by decide +kernel
theorem dX6_loom_52 : decode cX6_loom 52 = .ok (.invokevirtual 83, 3) := by decide +kernel
theorem dX6_loom_55 : decode cX6_loom 55 = .ok (.aload_n 0, 1) := by decide +kernel
theorem dX6_loom_56 : decode cX6_loom 56 = .ok (.getfield 41, 3) := by decide +kernel
theorem dX6_loom_59 : decode cX6_loom 59 = .ok (.iconst 0, 1) := by decide +kernel
theorem dX6_loom_60 : decode cX6_loom 60 = .ok (.putfield 86, 3) := by decide +kernel
theorem dX6_loom_63 : decode cX6_loom 63 = .ok (.aload_n 0, 1) := by decide +kernel
theorem dX6_loom_64 : decode cX6_loom 64 = .ok (.iconst 0, 1) := by decide +kernel
theorem dX6_loom_65 : decode cX6_loom 65 = .ok (.putfield 49, 3) := by decide +kernel
theorem dX6_loom_68 : decode cX6_loom 68 = .ok (.aload_n 0, 1) := by decide +kernel
theorem dX6_loom_69 : decode cX6_loom 69 = .ok (.getfield 10, 3) := by decide +kernel
theorem dX6_loom_72 : decode cX6_loom 72 = .ok (.getfield 89, 3) := by decide +kernel
theorem dX6_loom_75 : decode cX6_loom 75 = .ok (.ireturn, 1) := by decide +kernel
theorem dX6_thread_0 : decode cX6_thread 0 = .ok (.aload_n 0, 1) := by decide +kernel
theorem dX6_thread_1 : decode cX6_thread 1 = .ok (.iload_n 1, 1) := by decide +kernel
theorem dX6_thread_2 : decode cX6_thread 2 = .ok (.invokevirtual 92, 3) := by decide +kernel
theorem dX6_thread_5 : decode cX6_thread 5 = .ok (.ifCond .ne 6, 3) := by decide +kernel
theorem dX6_thread_8 : decode cX6_thread 8 = .ok (.bipush (-2), 2) := by decide +kernel
theorem dX6_thread_10 : decode cX6_thread 10 = .ok (.ireturn, 1) := by decide +kernel
theorem dX6_thread_11 : decode cX6_thread 11 = .ok (.iload_n 2, 1) := by decide +kernel
theorem dX6_thread_12 : decode cX6_thread 12 = .ok (.tableswitch 113 0 6 #[44, 54, 64, 74, 83, 93, 103], 44) := by decide +kernel
theorem dX6_thread_56 : decode cX6_thread 56 = .ok (.aload_n 0, 1) := by decide +kernel
theorem dX6_thread_57 : decode cX6_thread 57 = .ok (.getfield 19, 3) := by decide +kernel
theorem dX6_thread_60 : decode cX6_thread 60 = .ok (.getfield 96, 3) := by decide +kernel
theorem dX6_thread_63 : decode cX6_thread 63 = .ok (.iload_n 1, 1) := by decide +kernel
theorem dX6_thread_64 : decode cX6_thread 64 = .ok (.iaload, 1) := by decide +kernel
theorem dX6_thread_65 : decode cX6_thread 65 = .ok (.ireturn, 1) := by decide +kernel
theorem dX6_thread_66 : decode cX6_thread 66 = .ok (.aload_n 0, 1) := by decide +kernel
theorem dX6_thread_67 : decode cX6_thread 67 = .ok (.getfield 19, 3) := by decide +kernel
theorem dX6_thread_70 : decode cX6_thread 70 = .ok (.getfield 100, 3) := by decide +kernel
theorem dX6_thread_73 : decode cX6_thread 73 = .ok (.iload_n 1, 1) := by decide +kernel
theorem dX6_thread_74 : decode cX6_thread 74 = .ok (.iaload, 1) := by decide +kernel
theorem dX6_thread_75 : decode cX6_thread 75 = .ok (.ireturn, 1) := by decide +kernel
theorem dX6_thread_76 : decode cX6_thread 76 = .ok (.aload_n 0, 1) := by decide +kernel
theorem dX6_thread_77 : decode cX6_thread 77 = .ok (.getfield 31, 3) := by decide +kernel
theorem dX6_thread_80 : decode cX6_thread 80 = .ok (.getfield 103, 3) := by decide +kernel
theorem dX6_thread_83 : decode cX6_thread 83 = .ok (.iload_n 1, 1) := by decide +kernel
theorem dX6_thread_84 : decode cX6_thread 84 = .ok (.iaload, 1) := by decide +kernel
theorem dX6_thread_85 : decode cX6_thread 85 = .ok (.ireturn, 1) := by decide +kernel
theorem dX6_thread_86 : decode cX6_thread 86 = .ok (.aload_n 0, 1) := by decide +kernel
theorem dX6_thread_87 : decode cX6_thread 87 = .ok (.getfield 31, 3) := by decide +kernel
theorem dX6_thread_90 : decode cX6_thread 90 = .ok (.iload_n 1, 1) := by decide +kernel
theorem dX6_thread_91 : decode cX6_thread 91 = .ok (.invokevirtual 106, 3) := by decide +kernel
theorem dX6_thread_94 : decode cX6_thread 94 = .ok (.ireturn, 1) := by decide +kernel
theorem dX6_thread_95 : decode cX6_thread 95 = .ok (.aload_n 0, 1) := by decide +kernel
theorem dX6_thread_96 : decode cX6_thread 96 = .ok (.getfield 31, 3) := by decide +kernel
theorem dX6_thread_99 : decode cX6_thread 99 = .ok (.getfield 110, 3) := by decide +kernel
theorem dX6_thread_102 : decode cX6_thread 102 = .ok (.iload_n 1, 1) := by decide +kernel
theorem dX6_thread_103 : decode cX6_thread 103 = .ok (.iaload, 1) := by decide +kernel
theorem dX6_thread_104 : decode cX6_thread 104 = .ok (.ireturn, 1) := by decide +kernel
theorem dX6_thread_105 : decode cX6_thread 105 = .ok (.aload_n 0, 1) := by decide +kernel
theorem dX6_thread_106 : decode cX6_thread 106 = .ok (.getfield 31, 3) := by decide +kernel
theorem dX6_thread_109 : decode cX6_thread 109 = .ok (.getfield 113, 3) := by decide +kernel
theorem dX6_thread_112 : decode cX6_thread 112 = .ok (.iload_n 1, 1) := by decide +kernel
theorem dX6_thread_113 : decode cX6_thread 113 = .ok (.iaload, 1) := by decide +kernel
theorem dX6_thread_114 : decode cX6_thread 114 = .ok (.ireturn, 1) := by decide +kernel
theorem dX6_thread_115 : decode cX6_thread 115 = .ok (.aload_n 0, 1) := by decide +kernel
theorem dX6_thread_116 : decode cX6_thread 116 = .ok (.getfield 31, 3) := by decide +kernel
theorem dX6_thread_119 : decode cX6_thread 119 = .ok (.getfield 116, 3) := by decide +kernel
theorem dX6_thread_122 : decode cX6_thread 122 = .ok (.iload_n 1, 1) := by decide +kernel
theorem dX6_thread_123 : decode cX6_thread 123 = .ok (.iaload, 1) := by decide +kernel
theorem dX6_thread_124 : decode cX6_thread 124 = .ok (.ireturn, 1) := by decide +kernel
theorem dX6_thread_125 : decode cX6_thread 125 = .ok (.bipush (-3), 2) := by decide +kernel
theorem dX6_thread_127 : decode cX6_thread 127 = .ok (.ireturn, 1) := by decide +kernel
theorem dX6_as_0 : decode cX6_as 0 = .ok (.aload_n 0, 1) := by decide +kernel
theorem dX6_as_1 : decode cX6_as 1 = .ok (.iload_n 1, 1) := by decide +kernel
theorem dX6_as_2 : decode cX6_as 2 = .ok (.invokevirtual 92, 3) := by decide +kernel
theorem dX6_as_5 : decode cX6_as 5 = .ok (.ifCond .ne 6, 3) := by decide +kernel
theorem dX6_as_8 : decode cX6_as 8 = .ok (.bipush (-2), 2) := by decide +kernel
theorem dX6_as_10 : decode cX6_as 10 = .ok (.ireturn, 1) := by decide +kernel
theorem dX6_as_11 : decode cX6_as 11 = .ok (.iload_n 2, 1) := by decide +kernel
theorem dX6_as_12 : decode cX6_as 12 = .ok (.ifCond .lt 8, 3) := by decide +kernel
theorem dX6_as_15 : decode cX6_as 15 = .ok (.iload_n 2, 1) := by decide +kernel
theorem dX6_as_16 : decode cX6_as 16 = .ok (.iconst 4, 1) := by decide +kernel
theorem dX6_as_17 : decode cX6_as 17 = .ok (.if_icmp .le 6, 3) := by decide +kernel
theorem dX6_as_20 : decode cX6_as 20 = .ok (.bipush (-3), 2) := by decide +kernel
theorem dX6_as_22 : decode cX6_as 22 = .ok (.ireturn, 1) := by decide +kernel
theorem dX6_as_23 : decode cX6_as 23 = .ok (.aload_n 0, 1) := by decide +kernel
theorem dX6_as_24 : decode cX6_as 24 = .ok (.getfield 19, 3) := by decide +kernel
theorem dX6_as_27 : decode cX6_as 27 = .ok (.iload_n 1, 1) := by decide +kernel
theorem dX6_as_28 : decode cX6_as 28 = .ok (.iload_n 2, 1) := by decide +kernel
theorem dX6_as_29 : decode cX6_as 29 = .ok (.invokevirtual 119, 3) := by decide +kernel
theorem dX6_as_32 : decode cX6_as 32 = .ok (.ifCond .ne 6, 3) := by decide +kernel
theorem dX6_as_35 : decode cX6_as 35 = .ok (.bipush (-4), 2) := by decide +kernel
theorem dX6_as_37 : decode cX6_as 37 = .ok (.ireturn, 1) := by decide +kernel
theorem dX6_as_38 : decode cX6_as 38 = .ok (.aload_n 0, 1) := by decide +kernel
theorem dX6_as_39 : decode cX6_as 39 = .ok (.getfield 31, 3) := by decide +kernel
theorem dX6_as_42 : decode cX6_as 42 = .ok (.iload_n 1, 1) := by decide +kernel
theorem dX6_as_43 : decode cX6_as 43 = .ok (.invokevirtual 123, 3) := by decide +kernel
theorem dX6_as_46 : decode cX6_as 46 = .ok (.ifCond .eq 21, 3) := by decide +kernel
theorem dX6_as_49 : decode cX6_as 49 = .ok (.aload_n 0, 1) := by decide +kernel
theorem dX6_as_50 : decode cX6_as 50 = .ok (.getfield 19, 3) := by decide +kernel
theorem dX6_as_53 : decode cX6_as 53 = .ok (.iload_n 1, 1) := by decide +kernel
theorem dX6_as_54 : decode cX6_as 54 = .ok (.aload_n 0, 1) := by decide +kernel
theorem dX6_as_55 : decode cX6_as 55 = .ok (.getfield 31, 3) := by decide +kernel
theorem dX6_as_58 : decode cX6_as 58 = .ok (.getfield 126, 3) := by decide +kernel
theorem dX6_as_61 : decode cX6_as 61 = .ok (.invokevirtual 129, 3) := by decide +kernel
theorem dX6_as_64 : decode cX6_as 64 = .ok (.goto 4, 3) := by decide +kernel
theorem dX6_as_67 : decode cX6_as 67 = .ok (.iconst 0, 1) := by decide +kernel
theorem dX6_as_68 : decode cX6_as 68 = .ok (.ireturn, 1) := by decide +kernel
theorem dX6_order_0 : decode cX6_order 0 = .ok (.iload_n 1, 1) := by decide +kernel
theorem dX6_order_1 : decode cX6_order 1 = .ok (.ifCond .lt 14, 3) := by decide +kernel
theorem dX6_order_4 : decode cX6_order 4 = .ok (.iload_n 1, 1) := by decide +kernel
theorem dX6_order_5 : decode cX6_order 5 = .ok (.aload_n 0, 1) := by decide +kernel
theorem dX6_order_6 : decode cX6_order 6 = .ok (.getfield 19, 3) := by decide +kernel
theorem dX6_order_9 : decode cX6_order 9 = .ok (.getfield 133, 3) := by decide +kernel
theorem dX6_order_12 : decode cX6_order 12 = .ok (.if_icmp .lt 6, 3) := by decide +kernel
theorem dX6_order_15 : decode cX6_order 15 = .ok (.bipush (-2), 2) := by decide +kernel
theorem dX6_order_17 : decode cX6_order 17 = .ok (.ireturn, 1) := by decide +kernel
theorem dX6_order_18 : decode cX6_order 18 = .ok (.iload_n 2, 1) := by decide +kernel
theorem dX6_order_19 : decode cX6_order 19 = .ok (.lookupswitch 45 #[(0, 25), (1, 35)], 25) := by decide +kernel
theorem dX6_order_44 : decode cX6_order 44 = .ok (.aload_n 0, 1) := by decide +kernel
theorem dX6_order_45 : decode cX6_order 45 = .ok (.getfield 19, 3) := by decide +kernel
theorem dX6_order_48 : decode cX6_order 48 = .ok (.getfield 136, 3) := by decide +kernel
theorem dX6_order_51 : decode cX6_order 51 = .ok (.iload_n 1, 1) := by decide +kernel
theorem dX6_order_52 : decode cX6_order 52 = .ok (.iaload, 1) := by decide +kernel
theorem dX6_order_53 : decode cX6_order 53 = .ok (.ireturn, 1) := by decide +kernel
theorem dX6_order_54 : decode cX6_order 54 = .ok (.aload_n 0, 1) := by decide +kernel
theorem dX6_order_55 : decode cX6_order 55 = .ok (.getfield 19, 3) := by decide +kernel
theorem dX6_order_58 : decode cX6_order 58 = .ok (.getfield 139, 3) := by decide +kernel
theorem dX6_order_61 : decode cX6_order 61 = .ok (.iload_n 1, 1) := by decide +kernel
theorem dX6_order_62 : decode cX6_order 62 = .ok (.iaload, 1) := by decide +kernel
theorem dX6_order_63 : decode cX6_order 63 = .ok (.ireturn, 1) := by decide +kernel
theorem dX6_order_64 : decode cX6_order 64 = .ok (.bipush (-3), 2) := by decide +kernel
theorem dX6_order_66 : decode cX6_order 66 = .ok (.ireturn, 1) := by decide +kernel
theorem dX6_top_0 : decode cX6_top 0 = .ok (.aload_n 0, 1) := by decide +kernel
theorem dX6_top_1 : decode cX6_top 1 = .ok (.iload_n 1, 1) := by decide +kernel
theorem dX6_top_2 : decode cX6_top 2 = .ok (.invokevirtual 92, 3) := by decide +kernel
theorem dX6_top_5 : decode cX6_top 5 = .ok (.ifCond .ne 6, 3) := by decide +kernel
theorem dX6_top_8 : decode cX6_top 8 = .ok (.bipush (-2), 2) := by decide +kernel
theorem dX6_top_10 : decode cX6_top 10 = .ok (.ireturn, 1) := by decide +kernel
theorem dX6_top_11 : decode cX6_top 11 = .ok (.aload_n 0, 1) := by decide +kernel
theorem dX6_top_12 : decode cX6_top 12 = .ok (.getfield 31, 3) := by decide +kernel
theorem dX6_top_15 : decode cX6_top 15 = .ok (.iload_n 1, 1) := by decide +kernel
theorem dX6_top_16 : decode cX6_top 16 = .ok (.invokevirtual 123, 3) := by decide +kernel
theorem dX6_top_19 : decode cX6_top 19 = .ok (.ifCond .eq 21, 3) := by decide +kernel
theorem dX6_top_22 : decode cX6_top 22 = .ok (.aload_n 0, 1) := by decide +kernel
theorem dX6_top_23 : decode cX6_top 23 = .ok (.getfield 31, 3) := by decide +kernel
theorem dX6_top_26 : decode cX6_top 26 = .ok (.iload_n 1, 1) := by decide +kernel
theorem dX6_top_27 : decode cX6_top 27 = .ok (.aload_n 0, 1) := by decide +kernel
theorem dX6_top_28 : decode cX6_top 28 = .ok (.getfield 31, 3) := by decide +kernel
theorem dX6_top_31 : decode cX6_top 31 = .ok (.getfield 142, 3) := by decide +kernel
theorem dX6_top_34 : decode cX6_top 34 = .ok (.invokevirtual 145, 3) := by decide +kernel
theorem dX6_top_37 : decode cX6_top 37 = .ok (.goto 5, 3) := by decide +kernel
theorem dX6_top_40 : decode cX6_top 40 = .ok (.bipush (-4), 2) := by decide +kernel
theorem dX6_top_42 : decode cX6_top 42 = .ok (.ireturn, 1) := by decide +kernel
theorem dX6_cut_0 : decode cX6_cut 0 = .ok (.aload_n 0, 1) := by decide +kernel
theorem dX6_cut_1 : decode cX6_cut 1 = .ok (.iload_n 1, 1) := by decide +kernel
theorem dX6_cut_2 : decode cX6_cut 2 = .ok (.invokevirtual 92, 3) := by decide +kernel
theorem dX6_cut_5 : decode cX6_cut 5 = .ok (.ifCond .ne 6, 3) := by decide +kernel
theorem dX6_cut_8 : decode cX6_cut 8 = .ok (.bipush (-2), 2) := by decide +kernel
theorem dX6_cut_10 : decode cX6_cut 10 = .ok (.ireturn, 1) := by decide +kernel
theorem dX6_cut_11 : decode cX6_cut 11 = .ok (.aload_n 0, 1) := by decide +kernel
theorem dX6_cut_12 : decode cX6_cut 12 = .ok (.getfield 31, 3) := by decide +kernel
theorem dX6_cut_15 : decode cX6_cut 15 = .ok (.iload_n 1, 1) := by decide +kernel
theorem dX6_cut_16 : decode cX6_cut 16 = .ok (.invokevirtual 123, 3) := by decide +kernel
theorem dX6_cut_19 : decode cX6_cut 19 = .ok (.ifCond .ne 6, 3) := by decide +kernel
theorem dX6_cut_22 : decode cX6_cut 22 = .ok (.bipush (-4), 2) := by decide +kernel
theorem dX6_cut_24 : decode cX6_cut 24 = .ok (.ireturn, 1) := by decide +kernel
theorem dX6_cut_25 : decode cX6_cut 25 = .ok (.aload_n 0, 1) := by decide +kernel
theorem dX6_cut_26 : decode cX6_cut 26 = .ok (.getfield 41, 3) := by decide +kernel
theorem dX6_cut_29 : decode cX6_cut 29 = .ok (.aload_n 0, 1) := by decide +kernel
theorem dX6_cut_30 : decode cX6_cut 30 = .ok (.getfield 31, 3) := by decide +kernel
theorem dX6_cut_33 : decode cX6_cut 33 = .ok (.invokevirtual 148, 3) := by decide +kernel
theorem dX6_cut_36 : decode cX6_cut 36 = .ok (.aload_n 0, 1) := by decide +kernel
theorem dX6_cut_37 : decode cX6_cut 37 = .ok (.getfield 31, 3) := by decide +kernel
theorem dX6_cut_40 : decode cX6_cut 40 = .ok (.iload_n 1, 1) := by decide +kernel
theorem dX6_cut_41 : decode cX6_cut 41 = .ok (.invokevirtual 152, 3) := by decide +kernel
theorem dX6_cut_44 : decode cX6_cut 44 = .ok (.invokestatic 155, 3) := by decide +kernel
theorem dX6_cut_47 : decode cX6_cut 47 = .ok (.ireturn, 1) := by decide +kernel
theorem dX6_put_0 : decode cX6_put 0 = .ok (.aload_n 0, 1) := by decide +kernel
theorem dX6_put_1 : decode cX6_put 1 = .ok (.iload_n 1, 1) := by decide +kernel
theorem dX6_put_2 : decode cX6_put 2 = .ok (.iload_n 2, 1) := by decide +kernel
theorem dX6_put_3 : decode cX6_put 3 = .ok (.invokevirtual 160, 3) := by decide +kernel
theorem dX6_put_6 : decode cX6_put 6 = .ok (.ifCond .ne 6, 3) := by decide +kernel
theorem dX6_put_9 : decode cX6_put 9 = .ok (.bipush (-2), 2) := by decide +kernel
theorem dX6_put_11 : decode cX6_put 11 = .ok (.ireturn, 1) := by decide +kernel
theorem dX6_put_12 : decode cX6_put 12 = .ok (.aload_n 0, 1) := by decide +kernel
theorem dX6_put_13 : decode cX6_put 13 = .ok (.getfield 31, 3) := by decide +kernel
theorem dX6_put_16 : decode cX6_put 16 = .ok (.iload_n 1, 1) := by decide +kernel
theorem dX6_put_17 : decode cX6_put 17 = .ok (.invokevirtual 123, 3) := by decide +kernel
theorem dX6_put_20 : decode cX6_put 20 = .ok (.ifCond .eq 14, 3) := by decide +kernel
theorem dX6_put_23 : decode cX6_put 23 = .ok (.aload_n 0, 1) := by decide +kernel
theorem dX6_put_24 : decode cX6_put 24 = .ok (.getfield 31, 3) := by decide +kernel
theorem dX6_put_27 : decode cX6_put 27 = .ok (.iload_n 2, 1) := by decide +kernel
theorem dX6_put_28 : decode cX6_put 28 = .ok (.invokevirtual 123, 3) := by decide +kernel
theorem dX6_put_31 : decode cX6_put 31 = .ok (.ifCond .ne 6, 3) := by decide +kernel
theorem dX6_put_34 : decode cX6_put 34 = .ok (.bipush (-4), 2) := by decide +kernel
theorem dX6_put_36 : decode cX6_put 36 = .ok (.ireturn, 1) := by decide +kernel
theorem dX6_put_37 : decode cX6_put 37 = .ok (.aload_n 0, 1) := by decide +kernel
theorem dX6_put_38 : decode cX6_put 38 = .ok (.getfield 31, 3) := by decide +kernel
theorem dX6_put_41 : decode cX6_put 41 = .ok (.getfield 110, 3) := by decide +kernel
theorem dX6_put_44 : decode cX6_put 44 = .ok (.iload_n 2, 1) := by decide +kernel
theorem dX6_put_45 : decode cX6_put 45 = .ok (.iaload, 1) := by decide +kernel
theorem dX6_put_46 : decode cX6_put 46 = .ok (.iload_n 1, 1) := by decide +kernel
theorem dX6_put_47 : decode cX6_put 47 = .ok (.invokestatic 163, 3) := by decide +kernel
theorem dX6_put_50 : decode cX6_put 50 = .ok (.ifCond .ne 18, 3) := by decide +kernel
theorem dX6_put_53 : decode cX6_put 53 = .ok (.aload_n 0, 1) := by decide +kernel
theorem dX6_put_54 : decode cX6_put 54 = .ok (.getfield 31, 3) := by decide +kernel
theorem dX6_put_57 : decode cX6_put 57 = .ok (.getfield 110, 3) := by decide +kernel
theorem dX6_put_60 : decode cX6_put 60 = .ok (.iload_n 1, 1) := by decide +kernel
theorem dX6_put_61 : decode cX6_put 61 = .ok (.iload_n 2, 1) := by decide +kernel
theorem dX6_put_62 : decode cX6_put 62 = .ok (.invokestatic 166, 3) := by decide +kernel
theorem dX6_put_65 : decode cX6_put 65 = .ok (.ifCond .eq 6, 3) := by decide +kernel
theorem dX6_put_68 : decode cX6_put 68 = .ok (.bipush (-4), 2) := by decide +kernel
theorem dX6_put_70 : decode cX6_put 70 = .ok (.ireturn, 1) := by decide +kernel
theorem dX6_put_71 : decode cX6_put 71 = .ok (.aload_n 0, 1) := by decide +kernel
theorem dX6_put_72 : decode cX6_put 72 = .ok (.getfield 41, 3) := by decide +kernel
theorem dX6_put_75 : decode cX6_put 75 = .ok (.aload_n 0, 1) := by decide +kernel
theorem dX6_put_76 : decode cX6_put 76 = .ok (.getfield 31, 3) := by decide +kernel
theorem dX6_put_79 : decode cX6_put 79 = .ok (.invokevirtual 148, 3) := by decide +kernel
theorem dX6_put_82 : decode cX6_put 82 = .ok (.aload_n 0, 1) := by decide +kernel
theorem dX6_put_83 : decode cX6_put 83 = .ok (.getfield 31, 3) := by decide +kernel
theorem dX6_put_86 : decode cX6_put 86 = .ok (.getfield 110, 3) := by decide +kernel
theorem dX6_put_89 : decode cX6_put 89 = .ok (.iload_n 2, 1) := by decide +kernel
theorem dX6_put_90 : decode cX6_put 90 = .ok (.dup2, 1) := by decide +kernel
theorem dX6_put_91 : decode cX6_put 91 = .ok (.iaload, 1) := by decide +kernel
theorem dX6_put_92 : decode cX6_put 92 = .ok (.iload_n 1, 1) := by decide +kernel
theorem dX6_put_93 : decode cX6_put 93 = .ok (.invokestatic 170, 3) := by decide +kernel
theorem dX6_put_96 : decode cX6_put 96 = .ok (.ior, 1) := by decide +kernel
theorem dX6_put_97 : decode cX6_put 97 = .ok (.iastore, 1) := by decide +kernel
theorem dX6_put_98 : decode cX6_put 98 = .ok (.aload_n 0, 1) := by decide +kernel
theorem dX6_put_99 : decode cX6_put 99 = .ok (.getfield 31, 3) := by decide +kernel
theorem dX6_put_102 : decode cX6_put 102 = .ok (.getfield 110, 3) := by decide +kernel
theorem dX6_put_105 : decode cX6_put 105 = .ok (.iload_n 2, 1) := by decide +kernel
theorem dX6_put_106 : decode cX6_put 106 = .ok (.iaload, 1) := by decide +kernel
theorem dX6_put_107 : decode cX6_put 107 = .ok (.invokestatic 155, 3) := by decide +kernel
theorem dX6_put_110 : decode cX6_put 110 = .ok (.ireturn, 1) := by decide +kernel
theorem dX6_lift_0 : decode cX6_lift 0 = .ok (.aload_n 0, 1) := by decide +kernel
theorem dX6_lift_1 : decode cX6_lift 1 = .ok (.iload_n 1, 1) := by decide +kernel
theorem dX6_lift_2 : decode cX6_lift 2 = .ok (.invokevirtual 92, 3) := by decide +kernel
theorem dX6_lift_5 : decode cX6_lift 5 = .ok (.ifCond .ne 6, 3) := by decide +kernel
theorem dX6_lift_8 : decode cX6_lift 8 = .ok (.bipush (-2), 2) := by decide +kernel
theorem dX6_lift_10 : decode cX6_lift 10 = .ok (.ireturn, 1) := by decide +kernel
theorem dX6_lift_11 : decode cX6_lift 11 = .ok (.aload_n 0, 1) := by decide +kernel
theorem dX6_lift_12 : decode cX6_lift 12 = .ok (.getfield 31, 3) := by decide +kernel
theorem dX6_lift_15 : decode cX6_lift 15 = .ok (.iload_n 1, 1) := by decide +kernel
theorem dX6_lift_16 : decode cX6_lift 16 = .ok (.invokevirtual 123, 3) := by decide +kernel
theorem dX6_lift_19 : decode cX6_lift 19 = .ok (.ifCond .eq 14, 3) := by decide +kernel
theorem dX6_lift_22 : decode cX6_lift 22 = .ok (.aload_n 0, 1) := by decide +kernel
theorem dX6_lift_23 : decode cX6_lift 23 = .ok (.getfield 31, 3) := by decide +kernel
theorem dX6_lift_26 : decode cX6_lift 26 = .ok (.iload_n 1, 1) := by decide +kernel
theorem dX6_lift_27 : decode cX6_lift 27 = .ok (.invokevirtual 173, 3) := by decide +kernel
theorem dX6_lift_30 : decode cX6_lift 30 = .ok (.ifCond .ne 6, 3) := by decide +kernel
theorem dX6_lift_33 : decode cX6_lift 33 = .ok (.bipush (-4), 2) := by decide +kernel
theorem dX6_lift_35 : decode cX6_lift 35 = .ok (.ireturn, 1) := by decide +kernel
theorem dX6_lift_36 : decode cX6_lift 36 = .ok (.aload_n 0, 1) := by decide +kernel
theorem dX6_lift_37 : decode cX6_lift 37 = .ok (.getfield 41, 3) := by decide +kernel
theorem dX6_lift_40 : decode cX6_lift 40 = .ok (.aload_n 0, 1) := by decide +kernel
theorem dX6_lift_41 : decode cX6_lift 41 = .ok (.getfield 31, 3) := by decide +kernel
theorem dX6_lift_44 : decode cX6_lift 44 = .ok (.invokevirtual 148, 3) := by decide +kernel
theorem dX6_lift_47 : decode cX6_lift 47 = .ok (.aload_n 0, 1) := by decide +kernel
theorem dX6_lift_48 : decode cX6_lift 48 = .ok (.getfield 31, 3) := by decide +kernel
theorem dX6_lift_51 : decode cX6_lift 51 = .ok (.iload_n 1, 1) := by decide +kernel
theorem dX6_lift_52 : decode cX6_lift 52 = .ok (.invokevirtual 173, 3) := by decide +kernel
theorem dX6_lift_55 : decode cX6_lift 55 = .ok (.istore_n 2, 1) := by decide +kernel
theorem dX6_lift_56 : decode cX6_lift 56 = .ok (.aload_n 0, 1) := by decide +kernel
theorem dX6_lift_57 : decode cX6_lift 57 = .ok (.getfield 31, 3) := by decide +kernel
theorem dX6_lift_60 : decode cX6_lift 60 = .ok (.iload_n 1, 1) := by decide +kernel
theorem dX6_lift_61 : decode cX6_lift 61 = .ok (.invokevirtual 176, 3) := by decide +kernel
theorem dX6_lift_64 : decode cX6_lift 64 = .ok (.iload_n 2, 1) := by decide +kernel
theorem dX6_lift_65 : decode cX6_lift 65 = .ok (.ireturn, 1) := by decide +kernel
theorem dX6_knot_0 : decode cX6_knot 0 = .ok (.aload_n 0, 1) := by decide +kernel
theorem dX6_knot_1 : decode cX6_knot 1 = .ok (.iload_n 1, 1) := by decide +kernel
theorem dX6_knot_2 : decode cX6_knot 2 = .ok (.iload_n 2, 1) := by decide +kernel
theorem dX6_knot_3 : decode cX6_knot 3 = .ok (.invokevirtual 160, 3) := by decide +kernel
theorem dX6_knot_6 : decode cX6_knot 6 = .ok (.ifCond .ne 6, 3) := by decide +kernel
theorem dX6_knot_9 : decode cX6_knot 9 = .ok (.bipush (-2), 2) := by decide +kernel
theorem dX6_knot_11 : decode cX6_knot 11 = .ok (.ireturn, 1) := by decide +kernel
theorem dX6_knot_12 : decode cX6_knot 12 = .ok (.iload_n 3, 1) := by decide +kernel
theorem dX6_knot_13 : decode cX6_knot 13 = .ok (.ifCond .lt 8, 3) := by decide +kernel
theorem dX6_knot_16 : decode cX6_knot 16 = .ok (.iload_n 3, 1) := by decide +kernel
theorem dX6_knot_17 : decode cX6_knot 17 = .ok (.iconst 1, 1) := by decide +kernel
theorem dX6_knot_18 : decode cX6_knot 18 = .ok (.if_icmp .le 6, 3) := by decide +kernel
theorem dX6_knot_21 : decode cX6_knot 21 = .ok (.bipush (-3), 2) := by decide +kernel
theorem dX6_knot_23 : decode cX6_knot 23 = .ok (.ireturn, 1) := by decide +kernel
theorem dX6_knot_24 : decode cX6_knot 24 = .ok (.aload_n 0, 1) := by decide +kernel
theorem dX6_knot_25 : decode cX6_knot 25 = .ok (.getfield 31, 3) := by decide +kernel
theorem dX6_knot_28 : decode cX6_knot 28 = .ok (.iload_n 1, 1) := by decide +kernel
theorem dX6_knot_29 : decode cX6_knot 29 = .ok (.invokevirtual 123, 3) := by decide +kernel
theorem dX6_knot_32 : decode cX6_knot 32 = .ok (.ifCond .eq 14, 3) := by decide +kernel
theorem dX6_knot_35 : decode cX6_knot 35 = .ok (.aload_n 0, 1) := by decide +kernel
theorem dX6_knot_36 : decode cX6_knot 36 = .ok (.getfield 31, 3) := by decide +kernel
theorem dX6_knot_39 : decode cX6_knot 39 = .ok (.iload_n 2, 1) := by decide +kernel
theorem dX6_knot_40 : decode cX6_knot 40 = .ok (.invokevirtual 123, 3) := by decide +kernel
theorem dX6_knot_43 : decode cX6_knot 43 = .ok (.ifCond .ne 6, 3) := by decide +kernel
theorem dX6_knot_46 : decode cX6_knot 46 = .ok (.bipush (-4), 2) := by decide +kernel
theorem dX6_knot_48 : decode cX6_knot 48 = .ok (.ireturn, 1) := by decide +kernel
theorem dX6_knot_49 : decode cX6_knot 49 = .ok (.aload_n 0, 1) := by decide +kernel
theorem dX6_knot_50 : decode cX6_knot 50 = .ok (.getfield 41, 3) := by decide +kernel
theorem dX6_knot_53 : decode cX6_knot 53 = .ok (.aload_n 0, 1) := by decide +kernel
theorem dX6_knot_54 : decode cX6_knot 54 = .ok (.getfield 31, 3) := by decide +kernel
theorem dX6_knot_57 : decode cX6_knot 57 = .ok (.invokevirtual 148, 3) := by decide +kernel
theorem dX6_knot_60 : decode cX6_knot 60 = .ok (.aload_n 0, 1) := by decide +kernel
theorem dX6_knot_61 : decode cX6_knot 61 = .ok (.getfield 31, 3) := by decide +kernel
theorem dX6_knot_64 : decode cX6_knot 64 = .ok (.getfield 113, 3) := by decide +kernel
theorem dX6_knot_67 : decode cX6_knot 67 = .ok (.iload_n 1, 1) := by decide +kernel
theorem dX6_knot_68 : decode cX6_knot 68 = .ok (.iaload, 1) := by decide +kernel
theorem dX6_knot_69 : decode cX6_knot 69 = .ok (.iload_n 2, 1) := by decide +kernel
theorem dX6_knot_70 : decode cX6_knot 70 = .ok (.invokestatic 163, 3) := by decide +kernel
theorem dX6_knot_73 : decode cX6_knot 73 = .ok (.ifCond .eq 7, 3) := by decide +kernel
theorem dX6_knot_76 : decode cX6_knot 76 = .ok (.iconst 1, 1) := by decide +kernel
theorem dX6_knot_77 : decode cX6_knot 77 = .ok (.goto 4, 3) := by decide +kernel
theorem dX6_knot_80 : decode cX6_knot 80 = .ok (.iconst 0, 1) := by decide +kernel
theorem dX6_knot_81 : decode cX6_knot 81 = .ok (.istore 4, 2) := by decide +kernel
theorem dX6_knot_83 : decode cX6_knot 83 = .ok (.iload_n 3, 1) := by decide +kernel
theorem dX6_knot_84 : decode cX6_knot 84 = .ok (.iload 4, 2) := by decide +kernel
theorem dX6_knot_86 : decode cX6_knot 86 = .ok (.if_icmp .eq 35, 3) := by decide +kernel
theorem dX6_knot_89 : decode cX6_knot 89 = .ok (.aload_n 0, 1) := by decide +kernel
theorem dX6_knot_90 : decode cX6_knot 90 = .ok (.getfield 31, 3) := by decide +kernel
theorem dX6_knot_93 : decode cX6_knot 93 = .ok (.getfield 113, 3) := by decide +kernel
theorem dX6_knot_96 : decode cX6_knot 96 = .ok (.iload_n 1, 1) := by decide +kernel
theorem dX6_knot_97 : decode cX6_knot 97 = .ok (.dup2, 1) := by decide +kernel
theorem dX6_knot_98 : decode cX6_knot 98 = .ok (.iaload, 1) := by decide +kernel
theorem dX6_knot_99 : decode cX6_knot 99 = .ok (.iload_n 2, 1) := by decide +kernel
theorem dX6_knot_100 : decode cX6_knot 100 = .ok (.invokestatic 170, 3) := by decide +kernel
theorem dX6_knot_103 : decode cX6_knot 103 = .ok (.ixor, 1) := by decide +kernel
theorem dX6_knot_104 : decode cX6_knot 104 = .ok (.iastore, 1) := by decide +kernel
theorem dX6_knot_105 : decode cX6_knot 105 = .ok (.aload_n 0, 1) := by decide +kernel
theorem dX6_knot_106 : decode cX6_knot 106 = .ok (.getfield 31, 3) := by decide +kernel
theorem dX6_knot_109 : decode cX6_knot 109 = .ok (.getfield 113, 3) := by decide +kernel
theorem dX6_knot_112 : decode cX6_knot 112 = .ok (.iload_n 2, 1) := by decide +kernel
theorem dX6_knot_113 : decode cX6_knot 113 = .ok (.dup2, 1) := by decide +kernel
theorem dX6_knot_114 : decode cX6_knot 114 = .ok (.iaload, 1) := by decide +kernel
theorem dX6_knot_115 : decode cX6_knot 115 = .ok (.iload_n 1, 1) := by decide +kernel
theorem dX6_knot_116 : decode cX6_knot 116 = .ok (.invokestatic 170, 3) := by decide +kernel
theorem dX6_knot_119 : decode cX6_knot 119 = .ok (.ixor, 1) := by decide +kernel
theorem dX6_knot_120 : decode cX6_knot 120 = .ok (.iastore, 1) := by decide +kernel
theorem dX6_knot_121 : decode cX6_knot 121 = .ok (.iload 4, 2) := by decide +kernel
theorem dX6_knot_123 : decode cX6_knot 123 = .ok (.ireturn, 1) := by decide +kernel
theorem dX6_dye_0 : decode cX6_dye 0 = .ok (.aload_n 0, 1) := by decide +kernel
theorem dX6_dye_1 : decode cX6_dye 1 = .ok (.iload_n 1, 1) := by decide +kernel
theorem dX6_dye_2 : decode cX6_dye 2 = .ok (.invokevirtual 92, 3) := by decide +kernel
theorem dX6_dye_5 : decode cX6_dye 5 = .ok (.ifCond .ne 6, 3) := by decide +kernel
theorem dX6_dye_8 : decode cX6_dye 8 = .ok (.bipush (-2), 2) := by decide +kernel
theorem dX6_dye_10 : decode cX6_dye 10 = .ok (.ireturn, 1) := by decide +kernel
theorem dX6_dye_11 : decode cX6_dye 11 = .ok (.iload_n 2, 1) := by decide +kernel
theorem dX6_dye_12 : decode cX6_dye 12 = .ok (.ifCond .lt 8, 3) := by decide +kernel
theorem dX6_dye_15 : decode cX6_dye 15 = .ok (.iload_n 2, 1) := by decide +kernel
theorem dX6_dye_16 : decode cX6_dye 16 = .ok (.iconst 3, 1) := by decide +kernel
theorem dX6_dye_17 : decode cX6_dye 17 = .ok (.if_icmp .le 6, 3) := by decide +kernel
theorem dX6_dye_20 : decode cX6_dye 20 = .ok (.bipush (-3), 2) := by decide +kernel
theorem dX6_dye_22 : decode cX6_dye 22 = .ok (.ireturn, 1) := by decide +kernel
theorem dX6_dye_23 : decode cX6_dye 23 = .ok (.aload_n 0, 1) := by decide +kernel
theorem dX6_dye_24 : decode cX6_dye 24 = .ok (.getfield 31, 3) := by decide +kernel
theorem dX6_dye_27 : decode cX6_dye 27 = .ok (.iload_n 1, 1) := by decide +kernel
theorem dX6_dye_28 : decode cX6_dye 28 = .ok (.invokevirtual 123, 3) := by decide +kernel
theorem dX6_dye_31 : decode cX6_dye 31 = .ok (.ifCond .ne 6, 3) := by decide +kernel
theorem dX6_dye_34 : decode cX6_dye 34 = .ok (.bipush (-4), 2) := by decide +kernel
theorem dX6_dye_36 : decode cX6_dye 36 = .ok (.ireturn, 1) := by decide +kernel
theorem dX6_dye_37 : decode cX6_dye 37 = .ok (.aload_n 0, 1) := by decide +kernel
theorem dX6_dye_38 : decode cX6_dye 38 = .ok (.getfield 41, 3) := by decide +kernel
theorem dX6_dye_41 : decode cX6_dye 41 = .ok (.aload_n 0, 1) := by decide +kernel
theorem dX6_dye_42 : decode cX6_dye 42 = .ok (.getfield 31, 3) := by decide +kernel
theorem dX6_dye_45 : decode cX6_dye 45 = .ok (.invokevirtual 148, 3) := by decide +kernel
theorem dX6_dye_48 : decode cX6_dye 48 = .ok (.aload_n 0, 1) := by decide +kernel
theorem dX6_dye_49 : decode cX6_dye 49 = .ok (.getfield 31, 3) := by decide +kernel
theorem dX6_dye_52 : decode cX6_dye 52 = .ok (.getfield 103, 3) := by decide +kernel
theorem dX6_dye_55 : decode cX6_dye 55 = .ok (.iload_n 1, 1) := by decide +kernel
theorem dX6_dye_56 : decode cX6_dye 56 = .ok (.iaload, 1) := by decide +kernel
theorem dX6_dye_57 : decode cX6_dye 57 = .ok (.istore_n 3, 1) := by decide +kernel
theorem dX6_dye_58 : decode cX6_dye 58 = .ok (.aload_n 0, 1) := by decide +kernel
theorem dX6_dye_59 : decode cX6_dye 59 = .ok (.getfield 31, 3) := by decide +kernel
theorem dX6_dye_62 : decode cX6_dye 62 = .ok (.getfield 103, 3) := by decide +kernel
theorem dX6_dye_65 : decode cX6_dye 65 = .ok (.iload_n 1, 1) := by decide +kernel
theorem dX6_dye_66 : decode cX6_dye 66 = .ok (.iload_n 2, 1) := by decide +kernel
theorem dX6_dye_67 : decode cX6_dye 67 = .ok (.iastore, 1) := by decide +kernel
theorem dX6_dye_68 : decode cX6_dye 68 = .ok (.iload_n 3, 1) := by decide +kernel
theorem dX6_dye_69 : decode cX6_dye 69 = .ok (.ireturn, 1) := by decide +kernel
theorem dX6_go_0 : decode cX6_go 0 = .ok (.iload_n 1, 1) := by decide +kernel
theorem dX6_go_1 : decode cX6_go 1 = .ok (.iconst 1, 1) := by decide +kernel
theorem dX6_go_2 : decode cX6_go 2 = .ok (.if_icmp .lt 9, 3) := by decide +kernel
theorem dX6_go_5 : decode cX6_go 5 = .ok (.iload_n 1, 1) := by decide +kernel
theorem dX6_go_6 : decode cX6_go 6 = .ok (.bipush 99, 2) := by decide +kernel
theorem dX6_go_8 : decode cX6_go 8 = .ok (.if_icmp .le 6, 3) := by decide +kernel
theorem dX6_go_11 : decode cX6_go 11 = .ok (.bipush (-3), 2) := by decide +kernel
theorem dX6_go_13 : decode cX6_go 13 = .ok (.ireturn, 1) := by decide +kernel
theorem dX6_go_14 : decode cX6_go 14 = .ok (.aload_n 0, 1) := by decide +kernel
theorem dX6_go_15 : decode cX6_go 15 = .ok (.getfield 31, 3) := by decide +kernel
theorem dX6_go_18 : decode cX6_go 18 = .ok (.getfield 126, 3) := by decide +kernel
theorem dX6_go_21 : decode cX6_go 21 = .ok (.iload_n 1, 1) := by decide +kernel
theorem dX6_go_22 : decode cX6_go 22 = .ok (.iadd, 1) := by decide +kernel
theorem dX6_go_23 : decode cX6_go 23 = .ok (.sipush 999, 3) := by decide +kernel
theorem dX6_go_26 : decode cX6_go 26 = .ok (.if_icmp .le 6, 3) := by decide +kernel
theorem dX6_go_29 : decode cX6_go 29 = .ok (.bipush (-5), 2) := by decide +kernel
theorem dX6_go_31 : decode cX6_go 31 = .ok (.ireturn, 1) := by decide +kernel
theorem dX6_go_32 : decode cX6_go 32 = .ok (.aload_n 0, 1) := by decide +kernel
theorem dX6_go_33 : decode cX6_go 33 = .ok (.getfield 41, 3) := by decide +kernel
theorem dX6_go_36 : decode cX6_go 36 = .ok (.aload_n 0, 1) := by decide +kernel
theorem dX6_go_37 : decode cX6_go 37 = .ok (.getfield 31, 3) := by decide +kernel
theorem dX6_go_40 : decode cX6_go 40 = .ok (.invokevirtual 148, 3) := by decide +kernel
theorem dX6_go_43 : decode cX6_go 43 = .ok (.aload_n 0, 1) := by decide +kernel
theorem dX6_go_44 : decode cX6_go 44 = .ok (.getfield 31, 3) := by decide +kernel
theorem dX6_go_47 : decode cX6_go 47 = .ok (.getfield 179, 3) := by decide +kernel
theorem dX6_go_50 : decode cX6_go 50 = .ok (.istore_n 2, 1) := by decide +kernel
theorem dX6_go_51 : decode cX6_go 51 = .ok (.aload_n 0, 1) := by decide +kernel
theorem dX6_go_52 : decode cX6_go 52 = .ok (.getfield 31, 3) := by decide +kernel
theorem dX6_go_55 : decode cX6_go 55 = .ok (.iload_n 1, 1) := by decide +kernel
theorem dX6_go_56 : decode cX6_go 56 = .ok (.invokevirtual 182, 3) := by decide +kernel
theorem dX6_go_59 : decode cX6_go 59 = .ok (.aload_n 0, 1) := by decide +kernel
theorem dX6_go_60 : decode cX6_go 60 = .ok (.getfield 31, 3) := by decide +kernel
theorem dX6_go_63 : decode cX6_go 63 = .ok (.getfield 179, 3) := by decide +kernel
theorem dX6_go_66 : decode cX6_go 66 = .ok (.iload_n 2, 1) := by decide +kernel
theorem dX6_go_67 : decode cX6_go 67 = .ok (.isub, 1) := by decide +kernel
theorem dX6_go_68 : decode cX6_go 68 = .ok (.ireturn, 1) := by decide +kernel
theorem dX6_undo_0 : decode cX6_undo 0 = .ok (.aload_n 0, 1) := by decide +kernel
theorem dX6_undo_1 : decode cX6_undo 1 = .ok (.getfield 41, 3) := by decide +kernel
theorem dX6_undo_4 : decode cX6_undo 4 = .ok (.getfield 86, 3) := by decide +kernel
theorem dX6_undo_7 : decode cX6_undo 7 = .ok (.ifCond .ne 6, 3) := by decide +kernel
theorem dX6_undo_10 : decode cX6_undo 10 = .ok (.bipush (-4), 2) := by decide +kernel
theorem dX6_undo_12 : decode cX6_undo 12 = .ok (.ireturn, 1) := by decide +kernel
theorem dX6_undo_13 : decode cX6_undo 13 = .ok (.aload_n 0, 1) := by decide +kernel
theorem dX6_undo_14 : decode cX6_undo 14 = .ok (.getfield 41, 3) := by decide +kernel
theorem dX6_undo_17 : decode cX6_undo 17 = .ok (.aload_n 0, 1) := by decide +kernel
theorem dX6_undo_18 : decode cX6_undo 18 = .ok (.getfield 31, 3) := by decide +kernel
theorem dX6_undo_21 : decode cX6_undo 21 = .ok (.invokevirtual 185, 3) := by decide +kernel
theorem dX6_undo_24 : decode cX6_undo 24 = .ok (.aload_n 0, 1) := by decide +kernel
theorem dX6_undo_25 : decode cX6_undo 25 = .ok (.getfield 41, 3) := by decide +kernel
theorem dX6_undo_28 : decode cX6_undo 28 = .ok (.getfield 86, 3) := by decide +kernel
theorem dX6_undo_31 : decode cX6_undo 31 = .ok (.ireturn, 1) := by decide +kernel
theorem dX6_keep_0 : decode cX6_keep 0 = .ok (.iload_n 1, 1) := by decide +kernel
theorem dX6_keep_1 : decode cX6_keep 1 = .ok (.ifCond .lt 8, 3) := by decide +kernel
theorem dX6_keep_4 : decode cX6_keep 4 = .ok (.iload_n 1, 1) := by decide +kernel
theorem dX6_keep_5 : decode cX6_keep 5 = .ok (.iconst 2, 1) := by decide +kernel
theorem dX6_keep_6 : decode cX6_keep 6 = .ok (.if_icmp .lt 6, 3) := by decide +kernel
theorem dX6_keep_9 : decode cX6_keep 9 = .ok (.bipush (-2), 2) := by decide +kernel
theorem dX6_keep_11 : decode cX6_keep 11 = .ok (.ireturn, 1) := by decide +kernel
theorem dX6_keep_12 : decode cX6_keep 12 = .ok (.aload_n 0, 1) := by decide +kernel
theorem dX6_keep_13 : decode cX6_keep 13 = .ok (.getfield 45, 3) := by decide +kernel
theorem dX6_keep_16 : decode cX6_keep 16 = .ok (.iload_n 1, 1) := by decide +kernel
theorem dX6_keep_17 : decode cX6_keep 17 = .ok (.aaload, 1) := by decide +kernel
theorem dX6_keep_18 : decode cX6_keep 18 = .ok (.aload_n 0, 1) := by decide +kernel
theorem dX6_keep_19 : decode cX6_keep 19 = .ok (.getfield 31, 3) := by decide +kernel
theorem dX6_keep_22 : decode cX6_keep 22 = .ok (.invokevirtual 188, 3) := by decide +kernel
theorem dX6_keep_25 : decode cX6_keep 25 = .ok (.aload_n 0, 1) := by decide +kernel
theorem dX6_keep_26 : decode cX6_keep 26 = .ok (.dup, 1) := by decide +kernel
theorem dX6_keep_27 : decode cX6_keep 27 = .ok (.getfield 49, 3) := by decide +kernel
theorem dX6_keep_30 : decode cX6_keep 30 = .ok (.iload_n 1, 1) := by decide +kernel
theorem dX6_keep_31 : decode cX6_keep 31 = .ok (.invokestatic 170, 3) := by decide +kernel
theorem dX6_keep_34 : decode cX6_keep 34 = .ok (.ior, 1) := by decide +kernel
theorem dX6_keep_35 : decode cX6_keep 35 = .ok (.putfield 49, 3) := by decide +kernel
theorem dX6_keep_38 : decode cX6_keep 38 = .ok (.aload_n 0, 1) := by decide +kernel
theorem dX6_keep_39 : decode cX6_keep 39 = .ok (.getfield 31, 3) := by decide +kernel
theorem dX6_keep_42 : decode cX6_keep 42 = .ok (.getfield 126, 3) := by decide +kernel
theorem dX6_keep_45 : decode cX6_keep 45 = .ok (.ireturn, 1) := by decide +kernel
theorem dX6_back_0 : decode cX6_back 0 = .ok (.iload_n 1, 1) := by decide +kernel
theorem dX6_back_1 : decode cX6_back 1 = .ok (.ifCond .lt 8, 3) := by decide +kernel
theorem dX6_back_4 : decode cX6_back 4 = .ok (.iload_n 1, 1) := by decide +kernel
theorem dX6_back_5 : decode cX6_back 5 = .ok (.iconst 2, 1) := by decide +kernel
theorem dX6_back_6 : decode cX6_back 6 = .ok (.if_icmp .lt 6, 3) := by decide +kernel
theorem dX6_back_9 : decode cX6_back 9 = .ok (.bipush (-2), 2) := by decide +kernel
theorem dX6_back_11 : decode cX6_back 11 = .ok (.ireturn, 1) := by decide +kernel
theorem dX6_back_12 : decode cX6_back 12 = .ok (.aload_n 0, 1) := by decide +kernel
theorem dX6_back_13 : decode cX6_back 13 = .ok (.getfield 49, 3) := by decide +kernel
theorem dX6_back_16 : decode cX6_back 16 = .ok (.iload_n 1, 1) := by decide +kernel
theorem dX6_back_17 : decode cX6_back 17 = .ok (.invokestatic 163, 3) := by decide +kernel
theorem dX6_back_20 : decode cX6_back 20 = .ok (.ifCond .ne 6, 3) := by decide +kernel
theorem dX6_back_23 : decode cX6_back 23 = .ok (.bipush (-4), 2) := by decide +kernel
theorem dX6_back_25 : decode cX6_back 25 = .ok (.ireturn, 1) := by decide +kernel
theorem dX6_back_26 : decode cX6_back 26 = .ok (.aload_n 0, 1) := by decide +kernel
theorem dX6_back_27 : decode cX6_back 27 = .ok (.getfield 31, 3) := by decide +kernel
theorem dX6_back_30 : decode cX6_back 30 = .ok (.aload_n 0, 1) := by decide +kernel
theorem dX6_back_31 : decode cX6_back 31 = .ok (.getfield 45, 3) := by decide +kernel
theorem dX6_back_34 : decode cX6_back 34 = .ok (.iload_n 1, 1) := by decide +kernel
theorem dX6_back_35 : decode cX6_back 35 = .ok (.aaload, 1) := by decide +kernel
theorem dX6_back_36 : decode cX6_back 36 = .ok (.invokevirtual 188, 3) := by decide +kernel
theorem dX6_back_39 : decode cX6_back 39 = .ok (.aload_n 0, 1) := by decide +kernel
theorem dX6_back_40 : decode cX6_back 40 = .ok (.getfield 41, 3) := by decide +kernel
theorem dX6_back_43 : decode cX6_back 43 = .ok (.iconst 0, 1) := by decide +kernel
theorem dX6_back_44 : decode cX6_back 44 = .ok (.putfield 86, 3) := by decide +kernel
theorem dX6_back_47 : decode cX6_back 47 = .ok (.aload_n 0, 1) := by decide +kernel
theorem dX6_back_48 : decode cX6_back 48 = .ok (.getfield 31, 3) := by decide +kernel
theorem dX6_back_51 : decode cX6_back 51 = .ok (.getfield 126, 3) := by decide +kernel
theorem dX6_back_54 : decode cX6_back 54 = .ok (.ireturn, 1) := by decide +kernel
theorem dX6_takes_0 : decode cX6_takes 0 = .ok (.aload_n 0, 1) := by decide +kernel
theorem dX6_takes_1 : decode cX6_takes 1 = .ok (.iload_n 1, 1) := by decide +kernel
theorem dX6_takes_2 : decode cX6_takes 2 = .ok (.invokevirtual 92, 3) := by decide +kernel
theorem dX6_takes_5 : decode cX6_takes 5 = .ok (.ifCond .eq 21, 3) := by decide +kernel
theorem dX6_takes_8 : decode cX6_takes 8 = .ok (.aload_n 0, 1) := by decide +kernel
theorem dX6_takes_9 : decode cX6_takes 9 = .ok (.getfield 31, 3) := by decide +kernel
theorem dX6_takes_12 : decode cX6_takes 12 = .ok (.iload_n 1, 1) := by decide +kernel
theorem dX6_takes_13 : decode cX6_takes 13 = .ok (.aload_n 0, 1) := by decide +kernel
theorem dX6_takes_14 : decode cX6_takes 14 = .ok (.getfield 31, 3) := by decide +kernel
theorem dX6_takes_17 : decode cX6_takes 17 = .ok (.getfield 142, 3) := by decide +kernel
theorem dX6_takes_20 : decode cX6_takes 20 = .ok (.invokevirtual 190, 3) := by decide +kernel
theorem dX6_takes_23 : decode cX6_takes 23 = .ok (.goto 5, 3) := by decide +kernel
theorem dX6_takes_26 : decode cX6_takes 26 = .ok (.bipush (-2), 2) := by decide +kernel
theorem dX6_takes_28 : decode cX6_takes 28 = .ok (.ireturn, 1) := by decide +kernel
theorem dX6_loss_0 : decode cX6_loss 0 = .ok (.aload_n 0, 1) := by decide +kernel
theorem dX6_loss_1 : decode cX6_loss 1 = .ok (.iload_n 1, 1) := by decide +kernel
theorem dX6_loss_2 : decode cX6_loss 2 = .ok (.invokevirtual 92, 3) := by decide +kernel
theorem dX6_loss_5 : decode cX6_loss 5 = .ok (.ifCond .eq 11, 3) := by decide +kernel
theorem dX6_loss_8 : decode cX6_loss 8 = .ok (.aload_n 0, 1) := by decide +kernel
theorem dX6_loss_9 : decode cX6_loss 9 = .ok (.iload_n 1, 1) := by decide +kernel
theorem dX6_loss_10 : decode cX6_loss 10 = .ok (.invokevirtual 193, 3) := by decide +kernel
theorem dX6_loss_13 : decode cX6_loss 13 = .ok (.goto 5, 3) := by decide +kernel
theorem dX6_loss_16 : decode cX6_loss 16 = .ok (.bipush (-2), 2) := by decide +kernel
theorem dX6_loss_18 : decode cX6_loss 18 = .ok (.ireturn, 1) := by decide +kernel
theorem dX6_lifts_0 : decode cX6_lifts 0 = .ok (.aload_n 0, 1) := by decide +kernel
theorem dX6_lifts_1 : decode cX6_lifts 1 = .ok (.iload_n 1, 1) := by decide +kernel
theorem dX6_lifts_2 : decode cX6_lifts 2 = .ok (.invokevirtual 92, 3) := by decide +kernel
theorem dX6_lifts_5 : decode cX6_lifts 5 = .ok (.ifCond .ne 6, 3) := by decide +kernel
theorem dX6_lifts_8 : decode cX6_lifts 8 = .ok (.bipush (-2), 2) := by decide +kernel
theorem dX6_lifts_10 : decode cX6_lifts 10 = .ok (.ireturn, 1) := by decide +kernel
theorem dX6_lifts_11 : decode cX6_lifts 11 = .ok (.iload_n 2, 1) := by decide +kernel
theorem dX6_lifts_12 : decode cX6_lifts 12 = .ok (.ifCond .lt 8, 3) := by decide +kernel
theorem dX6_lifts_15 : decode cX6_lifts 15 = .ok (.iload_n 2, 1) := by decide +kernel
theorem dX6_lifts_16 : decode cX6_lifts 16 = .ok (.iconst 1, 1) := by decide +kernel
theorem dX6_lifts_17 : decode cX6_lifts 17 = .ok (.if_icmp .le 6, 3) := by decide +kernel
theorem dX6_lifts_20 : decode cX6_lifts 20 = .ok (.bipush (-3), 2) := by decide +kernel
theorem dX6_lifts_22 : decode cX6_lifts 22 = .ok (.ireturn, 1) := by decide +kernel
theorem dX6_lifts_23 : decode cX6_lifts 23 = .ok (.aload_n 0, 1) := by decide +kernel
theorem dX6_lifts_24 : decode cX6_lifts 24 = .ok (.getfield 31, 3) := by decide +kernel
theorem dX6_lifts_27 : decode cX6_lifts 27 = .ok (.iload_n 1, 1) := by decide +kernel
theorem dX6_lifts_28 : decode cX6_lifts 28 = .ok (.invokevirtual 123, 3) := by decide +kernel
theorem dX6_lifts_31 : decode cX6_lifts 31 = .ok (.ifCond .ne 6, 3) := by decide +kernel
theorem dX6_lifts_34 : decode cX6_lifts 34 = .ok (.bipush (-4), 2) := by decide +kernel
theorem dX6_lifts_36 : decode cX6_lifts 36 = .ok (.ireturn, 1) := by decide +kernel
theorem dX6_lifts_37 : decode cX6_lifts 37 = .ok (.aload_n 0, 1) := by decide +kernel
theorem dX6_lifts_38 : decode cX6_lifts 38 = .ok (.getfield 31, 3) := by decide +kernel
theorem dX6_lifts_41 : decode cX6_lifts 41 = .ok (.getfield 110, 3) := by decide +kernel
theorem dX6_lifts_44 : decode cX6_lifts 44 = .ok (.iload_n 1, 1) := by decide +kernel
theorem dX6_lifts_45 : decode cX6_lifts 45 = .ok (.iaload, 1) := by decide +kernel
theorem dX6_lifts_46 : decode cX6_lifts 46 = .ok (.aload_n 0, 1) := by decide +kernel
theorem dX6_lifts_47 : decode cX6_lifts 47 = .ok (.getfield 31, 3) := by decide +kernel
theorem dX6_lifts_50 : decode cX6_lifts 50 = .ok (.getfield 142, 3) := by decide +kernel
theorem dX6_lifts_53 : decode cX6_lifts 53 = .ok (.iand, 1) := by decide +kernel
theorem dX6_lifts_54 : decode cX6_lifts 54 = .ok (.istore_n 3, 1) := by decide +kernel
theorem dX6_lifts_55 : decode cX6_lifts 55 = .ok (.iload_n 2, 1) := by decide +kernel
theorem dX6_lifts_56 : decode cX6_lifts 56 = .ok (.ifCond .ne 10, 3) := by decide +kernel
theorem dX6_lifts_59 : decode cX6_lifts 59 = .ok (.iload_n 3, 1) := by decide +kernel
theorem dX6_lifts_60 : decode cX6_lifts 60 = .ok (.invokestatic 155, 3) := by decide +kernel
theorem dX6_lifts_63 : decode cX6_lifts 63 = .ok (.goto 4, 3) := by decide +kernel
theorem dX6_lifts_66 : decode cX6_lifts 66 = .ok (.iload_n 3, 1) := by decide +kernel
theorem dX6_lifts_67 : decode cX6_lifts 67 = .ok (.ireturn, 1) := by decide +kernel
theorem dX6_doom_0 : decode cX6_doom 0 = .ok (.iload_n 1, 1) := by decide +kernel
theorem dX6_doom_1 : decode cX6_doom 1 = .ok (.ifCond .lt 8, 3) := by decide +kernel
theorem dX6_doom_4 : decode cX6_doom 4 = .ok (.iload_n 1, 1) := by decide +kernel
theorem dX6_doom_5 : decode cX6_doom 5 = .ok (.iconst 1, 1) := by decide +kernel
theorem dX6_doom_6 : decode cX6_doom 6 = .ok (.if_icmp .le 6, 3) := by decide +kernel
theorem dX6_doom_9 : decode cX6_doom 9 = .ok (.bipush (-3), 2) := by decide +kernel
theorem dX6_doom_11 : decode cX6_doom 11 = .ok (.ireturn, 1) := by decide +kernel
theorem dX6_doom_12 : decode cX6_doom 12 = .ok (.aload_n 0, 1) := by decide +kernel
theorem dX6_doom_13 : decode cX6_doom 13 = .ok (.getfield 35, 3) := by decide +kernel
theorem dX6_doom_16 : decode cX6_doom 16 = .ok (.aload_n 0, 1) := by decide +kernel
theorem dX6_doom_17 : decode cX6_doom 17 = .ok (.getfield 31, 3) := by decide +kernel
theorem dX6_doom_20 : decode cX6_doom 20 = .ok (.invokevirtual 188, 3) := by decide +kernel
theorem dX6_doom_23 : decode cX6_doom 23 = .ok (.aload_n 0, 1) := by decide +kernel
theorem dX6_doom_24 : decode cX6_doom 24 = .ok (.getfield 35, 3) := by decide +kernel
theorem dX6_doom_27 : decode cX6_doom 27 = .ok (.bipush 100, 2) := by decide +kernel
theorem dX6_doom_29 : decode cX6_doom 29 = .ok (.aload_n 0, 1) := by decide +kernel
theorem dX6_doom_30 : decode cX6_doom 30 = .ok (.getfield 31, 3) := by decide +kernel
theorem dX6_doom_33 : decode cX6_doom 33 = .ok (.getfield 126, 3) := by decide +kernel
theorem dX6_doom_36 : decode cX6_doom 36 = .ok (.isub, 1) := by decide +kernel
theorem dX6_doom_37 : decode cX6_doom 37 = .ok (.invokevirtual 182, 3) := by decide +kernel
theorem dX6_doom_40 : decode cX6_doom 40 = .ok (.iload_n 1, 1) := by decide +kernel
theorem dX6_doom_41 : decode cX6_doom 41 = .ok (.ifCond .ne 21, 3) := by decide +kernel
theorem dX6_doom_44 : decode cX6_doom 44 = .ok (.aload_n 0, 1) := by decide +kernel
theorem dX6_doom_45 : decode cX6_doom 45 = .ok (.getfield 35, 3) := by decide +kernel
theorem dX6_doom_48 : decode cX6_doom 48 = .ok (.getfield 179, 3) := by decide +kernel
theorem dX6_doom_51 : decode cX6_doom 51 = .ok (.aload_n 0, 1) := by decide +kernel
theorem dX6_doom_52 : decode cX6_doom 52 = .ok (.getfield 31, 3) := by decide +kernel
theorem dX6_doom_55 : decode cX6_doom 55 = .ok (.getfield 179, 3) := by decide +kernel
theorem dX6_doom_58 : decode cX6_doom 58 = .ok (.isub, 1) := by decide +kernel
theorem dX6_doom_59 : decode cX6_doom 59 = .ok (.goto 20, 3) := by decide +kernel
theorem dX6_doom_62 : decode cX6_doom 62 = .ok (.aload_n 0, 1) := by decide +kernel
theorem dX6_doom_63 : decode cX6_doom 63 = .ok (.getfield 35, 3) := by decide +kernel
theorem dX6_doom_66 : decode cX6_doom 66 = .ok (.getfield 196, 3) := by decide +kernel
theorem dX6_doom_69 : decode cX6_doom 69 = .ok (.aload_n 0, 1) := by decide +kernel
theorem dX6_doom_70 : decode cX6_doom 70 = .ok (.getfield 31, 3) := by decide +kernel
theorem dX6_doom_73 : decode cX6_doom 73 = .ok (.getfield 196, 3) := by decide +kernel
theorem dX6_doom_76 : decode cX6_doom 76 = .ok (.iconst (-1), 1) := by decide +kernel
theorem dX6_doom_77 : decode cX6_doom 77 = .ok (.ixor, 1) := by decide +kernel
theorem dX6_doom_78 : decode cX6_doom 78 = .ok (.iand, 1) := by decide +kernel
theorem dX6_doom_79 : decode cX6_doom 79 = .ok (.ireturn, 1) := by decide +kernel
theorem dX6_swapped_0 : decode cX6_swapped 0 = .ok (.iload_n 1, 1) := by decide +kernel
theorem dX6_swapped_1 : decode cX6_swapped 1 = .ok (.iconst (-1), 1) := by decide +kernel
theorem dX6_swapped_2 : decode cX6_swapped 2 = .ok (.if_icmp .eq 21, 3) := by decide +kernel
theorem dX6_swapped_5 : decode cX6_swapped 5 = .ok (.iload_n 1, 1) := by decide +kernel
theorem dX6_swapped_6 : decode cX6_swapped 6 = .ok (.ifCond .lt 14, 3) := by decide +kernel
theorem dX6_swapped_9 : decode cX6_swapped 9 = .ok (.iload_n 1, 1) := by decide +kernel
theorem dX6_swapped_10 : decode cX6_swapped 10 = .ok (.aload_n 0, 1) := by decide +kernel
theorem dX6_swapped_11 : decode cX6_swapped 11 = .ok (.getfield 19, 3) := by decide +kernel
theorem dX6_swapped_14 : decode cX6_swapped 14 = .ok (.getfield 133, 3) := by decide +kernel
theorem dX6_swapped_17 : decode cX6_swapped 17 = .ok (.if_icmp .lt 6, 3) := by decide +kernel
theorem dX6_swapped_20 : decode cX6_swapped 20 = .ok (.bipush (-2), 2) := by decide +kernel
theorem dX6_swapped_22 : decode cX6_swapped 22 = .ok (.ireturn, 1) := by decide +kernel
theorem dX6_swapped_23 : decode cX6_swapped 23 = .ok (.aload_n 0, 1) := by decide +kernel
theorem dX6_swapped_24 : decode cX6_swapped 24 = .ok (.getfield 58, 3) := by decide +kernel
theorem dX6_swapped_27 : decode cX6_swapped 27 = .ok (.invokevirtual 199, 3) := by decide +kernel
theorem dX6_swapped_30 : decode cX6_swapped 30 = .ok (.iload_n 1, 1) := by decide +kernel
theorem dX6_swapped_31 : decode cX6_swapped 31 = .ok (.iconst (-1), 1) := by decide +kernel
theorem dX6_swapped_32 : decode cX6_swapped 32 = .ok (.if_icmp .ne 13, 3) := by decide +kernel
theorem dX6_swapped_35 : decode cX6_swapped 35 = .ok (.aload_n 0, 1) := by decide +kernel
theorem dX6_swapped_36 : decode cX6_swapped 36 = .ok (.getfield 58, 3) := by decide +kernel
theorem dX6_swapped_39 : decode cX6_swapped 39 = .ok (.getfield 202, 3) := by decide +kernel
theorem dX6_swapped_42 : decode cX6_swapped 42 = .ok (.goto 12, 3) := by decide +kernel
theorem dX6_swapped_45 : decode cX6_swapped 45 = .ok (.aload_n 0, 1) := by decide +kernel
theorem dX6_swapped_46 : decode cX6_swapped 46 = .ok (.getfield 58, 3) := by decide +kernel
theorem dX6_swapped_49 : decode cX6_swapped 49 = .ok (.getfield 205, 3) := by decide +kernel
theorem dX6_swapped_52 : decode cX6_swapped 52 = .ok (.iload_n 1, 1) := by decide +kernel
theorem dX6_swapped_53 : decode cX6_swapped 53 = .ok (.iaload, 1) := by decide +kernel
theorem dX6_swapped_54 : decode cX6_swapped 54 = .ok (.ireturn, 1) := by decide +kernel
theorem dX6_tails_0 : decode cX6_tails 0 = .ok (.iload_n 1, 1) := by decide +kernel
theorem dX6_tails_1 : decode cX6_tails 1 = .ok (.iconst (-1), 1) := by decide +kernel
theorem dX6_tails_2 : decode cX6_tails 2 = .ok (.if_icmp .eq 14, 3) := by decide +kernel
theorem dX6_tails_5 : decode cX6_tails 5 = .ok (.aload_n 0, 1) := by decide +kernel
theorem dX6_tails_6 : decode cX6_tails 6 = .ok (.iload_n 1, 1) := by decide +kernel
theorem dX6_tails_7 : decode cX6_tails 7 = .ok (.invokevirtual 92, 3) := by decide +kernel
theorem dX6_tails_10 : decode cX6_tails 10 = .ok (.ifCond .ne 6, 3) := by decide +kernel
theorem dX6_tails_13 : decode cX6_tails 13 = .ok (.bipush (-2), 2) := by decide +kernel
theorem dX6_tails_15 : decode cX6_tails 15 = .ok (.ireturn, 1) := by decide +kernel
theorem dX6_tails_16 : decode cX6_tails 16 = .ok (.aload_n 0, 1) := by decide +kernel
theorem dX6_tails_17 : decode cX6_tails 17 = .ok (.getfield 65, 3) := by decide +kernel
theorem dX6_tails_20 : decode cX6_tails 20 = .ok (.invokevirtual 208, 3) := by decide +kernel
theorem dX6_tails_23 : decode cX6_tails 23 = .ok (.iload_n 1, 1) := by decide +kernel
theorem dX6_tails_24 : decode cX6_tails 24 = .ok (.iconst (-1), 1) := by decide +kernel
theorem dX6_tails_25 : decode cX6_tails 25 = .ok (.if_icmp .ne 13, 3) := by decide +kernel
theorem dX6_tails_28 : decode cX6_tails 28 = .ok (.aload_n 0, 1) := by decide +kernel
theorem dX6_tails_29 : decode cX6_tails 29 = .ok (.getfield 65, 3) := by decide +kernel
theorem dX6_tails_32 : decode cX6_tails 32 = .ok (.getfield 211, 3) := by decide +kernel
theorem dX6_tails_35 : decode cX6_tails 35 = .ok (.goto 12, 3) := by decide +kernel
theorem dX6_tails_38 : decode cX6_tails 38 = .ok (.aload_n 0, 1) := by decide +kernel
theorem dX6_tails_39 : decode cX6_tails 39 = .ok (.getfield 65, 3) := by decide +kernel
theorem dX6_tails_42 : decode cX6_tails 42 = .ok (.getfield 214, 3) := by decide +kernel
theorem dX6_tails_45 : decode cX6_tails 45 = .ok (.iload_n 1, 1) := by decide +kernel
theorem dX6_tails_46 : decode cX6_tails 46 = .ok (.iaload, 1) := by decide +kernel
theorem dX6_tails_47 : decode cX6_tails 47 = .ok (.ireturn, 1) := by decide +kernel
theorem dX6_given_0 : decode cX6_given 0 = .ok (.aload_n 0, 1) := by decide +kernel
theorem dX6_given_1 : decode cX6_given 1 = .ok (.iload_n 1, 1) := by decide +kernel
theorem dX6_given_2 : decode cX6_given 2 = .ok (.invokevirtual 92, 3) := by decide +kernel
theorem dX6_given_5 : decode cX6_given 5 = .ok (.ifCond .ne 6, 3) := by decide +kernel
theorem dX6_given_8 : decode cX6_given 8 = .ok (.bipush (-2), 2) := by decide +kernel
theorem dX6_given_10 : decode cX6_given 10 = .ok (.ireturn, 1) := by decide +kernel
theorem dX6_given_11 : decode cX6_given 11 = .ok (.iload_n 2, 1) := by decide +kernel
theorem dX6_given_12 : decode cX6_given 12 = .ok (.iconst 1, 1) := by decide +kernel
theorem dX6_given_13 : decode cX6_given 13 = .ok (.if_icmp .lt 19, 3) := by decide +kernel
theorem dX6_given_16 : decode cX6_given 16 = .ok (.iload_n 2, 1) := by decide +kernel
theorem dX6_given_17 : decode cX6_given 17 = .ok (.bipush 99, 2) := by decide +kernel
theorem dX6_given_19 : decode cX6_given 19 = .ok (.if_icmp .gt 13, 3) := by decide +kernel
theorem dX6_given_22 : decode cX6_given 22 = .ok (.iload_n 3, 1) := by decide +kernel
theorem dX6_given_23 : decode cX6_given 23 = .ok (.ifCond .lt 9, 3) := by decide +kernel
theorem dX6_given_26 : decode cX6_given 26 = .ok (.iload_n 3, 1) := by decide +kernel
theorem dX6_given_27 : decode cX6_given 27 = .ok (.bipush 99, 2) := by decide +kernel
theorem dX6_given_29 : decode cX6_given 29 = .ok (.if_icmp .le 6, 3) := by decide +kernel
theorem dX6_given_32 : decode cX6_given 32 = .ok (.bipush (-3), 2) := by decide +kernel
theorem dX6_given_34 : decode cX6_given 34 = .ok (.ireturn, 1) := by decide +kernel
theorem dX6_given_35 : decode cX6_given 35 = .ok (.aload_n 0, 1) := by decide +kernel
theorem dX6_given_36 : decode cX6_given 36 = .ok (.getfield 31, 3) := by decide +kernel
theorem dX6_given_39 : decode cX6_given 39 = .ok (.iload_n 1, 1) := by decide +kernel
theorem dX6_given_40 : decode cX6_given 40 = .ok (.invokevirtual 123, 3) := by decide +kernel
theorem dX6_given_43 : decode cX6_given 43 = .ok (.ifCond .ne 6, 3) := by decide +kernel
theorem dX6_given_46 : decode cX6_given 46 = .ok (.bipush (-4), 2) := by decide +kernel
theorem dX6_given_48 : decode cX6_given 48 = .ok (.ireturn, 1) := by decide +kernel
theorem dX6_given_49 : decode cX6_given 49 = .ok (.iconst 0, 1) := by decide +kernel
theorem dX6_given_50 : decode cX6_given 50 = .ok (.istore 4, 2) := by decide +kernel
theorem dX6_given_52 : decode cX6_given 52 = .ok (.iconst 0, 1) := by decide +kernel
theorem dX6_given_53 : decode cX6_given 53 = .ok (.istore 5, 2) := by decide +kernel
theorem dX6_given_55 : decode cX6_given 55 = .ok (.iconst (-1), 1) := by decide +kernel
theorem dX6_given_56 : decode cX6_given 56 = .ok (.istore 6, 2) := by decide +kernel
theorem dX6_given_58 : decode cX6_given 58 = .ok (.iconst 0, 1) := by decide +kernel
theorem dX6_given_59 : decode cX6_given 59 = .ok (.istore 7, 2) := by decide +kernel
theorem dX6_given_61 : decode cX6_given 61 = .ok (.iload 7, 2) := by decide +kernel
theorem dX6_given_63 : decode cX6_given 63 = .ok (.aload_n 0, 1) := by decide +kernel
theorem dX6_given_64 : decode cX6_given 64 = .ok (.getfield 19, 3) := by decide +kernel
theorem dX6_given_67 : decode cX6_given 67 = .ok (.getfield 215, 3) := by decide +kernel
theorem dX6_given_70 : decode cX6_given 70 = .ok (.if_icmp .ge 53, 3) := by decide +kernel
theorem dX6_given_73 : decode cX6_given 73 = .ok (.iload 7, 2) := by decide +kernel
theorem dX6_given_75 : decode cX6_given 75 = .ok (.iload_n 1, 1) := by decide +kernel
theorem dX6_given_76 : decode cX6_given 76 = .ok (.if_icmp .ne 7, 3) := by decide +kernel
theorem dX6_given_79 : decode cX6_given 79 = .ok (.iconst 0, 1) := by decide +kernel
theorem dX6_given_80 : decode cX6_given 80 = .ok (.goto 13, 3) := by decide +kernel
theorem dX6_given_83 : decode cX6_given 83 = .ok (.aload_n 0, 1) := by decide +kernel
theorem dX6_given_84 : decode cX6_given 84 = .ok (.getfield 31, 3) := by decide +kernel
theorem dX6_given_87 : decode cX6_given 87 = .ok (.iload 7, 2) := by decide +kernel
theorem dX6_given_89 : decode cX6_given 89 = .ok (.iload_n 3, 1) := by decide +kernel
theorem dX6_given_90 : decode cX6_given 90 = .ok (.invokevirtual 218, 3) := by decide +kernel
theorem dX6_given_93 : decode cX6_given 93 = .ok (.istore 8, 2) := by decide +kernel
theorem dX6_given_95 : decode cX6_given 95 = .ok (.iload 4, 2) := by decide +kernel
theorem dX6_given_97 : decode cX6_given 97 = .ok (.iload 8, 2) := by decide +kernel
theorem dX6_given_99 : decode cX6_given 99 = .ok (.iadd, 1) := by decide +kernel
theorem dX6_given_100 : decode cX6_given 100 = .ok (.istore 4, 2) := by decide +kernel
theorem dX6_given_102 : decode cX6_given 102 = .ok (.iload 8, 2) := by decide +kernel
theorem dX6_given_104 : decode cX6_given 104 = .ok (.iload 5, 2) := by decide +kernel
theorem dX6_given_106 : decode cX6_given 106 = .ok (.if_icmp .le 11, 3) := by decide +kernel
theorem dX6_given_109 : decode cX6_given 109 = .ok (.iload 8, 2) := by decide +kernel
theorem dX6_given_111 : decode cX6_given 111 = .ok (.istore 5, 2) := by decide +kernel
theorem dX6_given_113 : decode cX6_given 113 = .ok (.iload 7, 2) := by decide +kernel
theorem dX6_given_115 : decode cX6_given 115 = .ok (.istore 6, 2) := by decide +kernel
theorem dX6_given_117 : decode cX6_given 117 = .ok (.iinc 7 1, 3) := by decide +kernel
theorem dX6_given_120 : decode cX6_given 120 = .ok (.goto (-59), 3) := by decide +kernel
theorem dX6_given_123 : decode cX6_given 123 = .ok (.iload 4, 2) := by decide +kernel
theorem dX6_given_125 : decode cX6_given 125 = .ok (.iload_n 2, 1) := by decide +kernel
theorem dX6_given_126 : decode cX6_given 126 = .ok (.if_icmp .lt 8, 3) := by decide +kernel
theorem dX6_given_129 : decode cX6_given 129 = .ok (.iload 6, 2) := by decide +kernel
theorem dX6_given_131 : decode cX6_given 131 = .ok (.goto 4, 3) := by decide +kernel
theorem dX6_given_134 : decode cX6_given 134 = .ok (.iconst (-1), 1) := by decide +kernel
theorem dX6_given_135 : decode cX6_given 135 = .ok (.ireturn, 1) := by decide +kernel
theorem dX6_cat_0 : decode cX6_cat 0 = .ok (.aload_n 0, 1) := by decide +kernel
theorem dX6_cat_1 : decode cX6_cat 1 = .ok (.iload_n 1, 1) := by decide +kernel
theorem dX6_cat_2 : decode cX6_cat 2 = .ok (.invokevirtual 92, 3) := by decide +kernel
theorem dX6_cat_5 : decode cX6_cat 5 = .ok (.ifCond .ne 6, 3) := by decide +kernel
theorem dX6_cat_8 : decode cX6_cat 8 = .ok (.bipush (-2), 2) := by decide +kernel
theorem dX6_cat_10 : decode cX6_cat 10 = .ok (.ireturn, 1) := by decide +kernel
theorem dX6_cat_11 : decode cX6_cat 11 = .ok (.iload_n 2, 1) := by decide +kernel
theorem dX6_cat_12 : decode cX6_cat 12 = .ok (.ifCond .lt 8, 3) := by decide +kernel
theorem dX6_cat_15 : decode cX6_cat 15 = .ok (.iload_n 2, 1) := by decide +kernel
theorem dX6_cat_16 : decode cX6_cat 16 = .ok (.iconst 1, 1) := by decide +kernel
theorem dX6_cat_17 : decode cX6_cat 17 = .ok (.if_icmp .le 6, 3) := by decide +kernel
theorem dX6_cat_20 : decode cX6_cat 20 = .ok (.bipush (-3), 2) := by decide +kernel
theorem dX6_cat_22 : decode cX6_cat 22 = .ok (.ireturn, 1) := by decide +kernel
theorem dX6_cat_23 : decode cX6_cat 23 = .ok (.aload_n 0, 1) := by decide +kernel
theorem dX6_cat_24 : decode cX6_cat 24 = .ok (.getfield 31, 3) := by decide +kernel
theorem dX6_cat_27 : decode cX6_cat 27 = .ok (.getfield 142, 3) := by decide +kernel
theorem dX6_cat_30 : decode cX6_cat 30 = .ok (.ifCond .ne 6, 3) := by decide +kernel
theorem dX6_cat_33 : decode cX6_cat 33 = .ok (.bipush (-4), 2) := by decide +kernel
theorem dX6_cat_35 : decode cX6_cat 35 = .ok (.ireturn, 1) := by decide +kernel
theorem dX6_cat_36 : decode cX6_cat 36 = .ok (.iconst 0, 1) := by decide +kernel
theorem dX6_cat_37 : decode cX6_cat 37 = .ok (.istore_n 3, 1) := by decide +kernel
theorem dX6_cat_38 : decode cX6_cat 38 = .ok (.iconst 0, 1) := by decide +kernel
theorem dX6_cat_39 : decode cX6_cat 39 = .ok (.istore 4, 2) := by decide +kernel
theorem dX6_cat_41 : decode cX6_cat 41 = .ok (.iload 4, 2) := by decide +kernel
theorem dX6_cat_43 : decode cX6_cat 43 = .ok (.aload_n 0, 1) := by decide +kernel
theorem dX6_cat_44 : decode cX6_cat 44 = .ok (.getfield 19, 3) := by decide +kernel
theorem dX6_cat_47 : decode cX6_cat 47 = .ok (.getfield 215, 3) := by decide +kernel
theorem dX6_cat_50 : decode cX6_cat 50 = .ok (.if_icmp .ge 35, 3) := by decide +kernel
theorem dX6_cat_53 : decode cX6_cat 53 = .ok (.aload_n 0, 1) := by decide +kernel
theorem dX6_cat_54 : decode cX6_cat 54 = .ok (.getfield 31, 3) := by decide +kernel
theorem dX6_cat_57 : decode cX6_cat 57 = .ok (.iload 4, 2) := by decide +kernel
theorem dX6_cat_59 : decode cX6_cat 59 = .ok (.aload_n 0, 1) := by decide +kernel
theorem dX6_cat_60 : decode cX6_cat 60 = .ok (.getfield 31, 3) := by decide +kernel
theorem dX6_cat_63 : decode cX6_cat 63 = .ok (.getfield 142, 3) := by decide +kernel
theorem dX6_cat_66 : decode cX6_cat 66 = .ok (.invokevirtual 190, 3) := by decide +kernel
theorem dX6_cat_69 : decode cX6_cat 69 = .ok (.iload_n 1, 1) := by decide +kernel
theorem dX6_cat_70 : decode cX6_cat 70 = .ok (.invokestatic 163, 3) := by decide +kernel
theorem dX6_cat_73 : decode cX6_cat 73 = .ok (.ifCond .eq 6, 3) := by decide +kernel
theorem dX6_cat_76 : decode cX6_cat 76 = .ok (.iinc 3 1, 3) := by decide +kernel
theorem dX6_cat_79 : decode cX6_cat 79 = .ok (.iinc 4 1, 3) := by decide +kernel
theorem dX6_cat_82 : decode cX6_cat 82 = .ok (.goto (-41), 3) := by decide +kernel
theorem dX6_cat_85 : decode cX6_cat 85 = .ok (.iload_n 3, 1) := by decide +kernel
theorem dX6_cat_86 : decode cX6_cat 86 = .ok (.aload_n 0, 1) := by decide +kernel
theorem dX6_cat_87 : decode cX6_cat 87 = .ok (.getfield 31, 3) := by decide +kernel
theorem dX6_cat_90 : decode cX6_cat 90 = .ok (.getfield 142, 3) := by decide +kernel
theorem dX6_cat_93 : decode cX6_cat 93 = .ok (.invokestatic 155, 3) := by decide +kernel
theorem dX6_cat_96 : decode cX6_cat 96 = .ok (.iload_n 2, 1) := by decide +kernel
theorem dX6_cat_97 : decode cX6_cat 97 = .ok (.invokestatic 221, 3) := by decide +kernel
theorem dX6_cat_100 : decode cX6_cat 100 = .ok (.ireturn, 1) := by decide +kernel
theorem dX6_mean_0 : decode cX6_mean 0 = .ok (.iload_n 1, 1) := by decide +kernel
theorem dX6_mean_1 : decode cX6_mean 1 = .ok (.ifCond .lt 8, 3) := by decide +kernel
theorem dX6_mean_4 : decode cX6_mean 4 = .ok (.iload_n 1, 1) := by decide +kernel
theorem dX6_mean_5 : decode cX6_mean 5 = .ok (.iconst 1, 1) := by decide +kernel
theorem dX6_mean_6 : decode cX6_mean 6 = .ok (.if_icmp .le 6, 3) := by decide +kernel
theorem dX6_mean_9 : decode cX6_mean 9 = .ok (.bipush (-3), 2) := by decide +kernel
theorem dX6_mean_11 : decode cX6_mean 11 = .ok (.ireturn, 1) := by decide +kernel
theorem dX6_mean_12 : decode cX6_mean 12 = .ok (.aload_n 0, 1) := by decide +kernel
theorem dX6_mean_13 : decode cX6_mean 13 = .ok (.getfield 31, 3) := by decide +kernel
theorem dX6_mean_16 : decode cX6_mean 16 = .ok (.getfield 142, 3) := by decide +kernel
theorem dX6_mean_19 : decode cX6_mean 19 = .ok (.ifCond .ne 6, 3) := by decide +kernel
theorem dX6_mean_22 : decode cX6_mean 22 = .ok (.bipush (-4), 2) := by decide +kernel
theorem dX6_mean_24 : decode cX6_mean 24 = .ok (.ireturn, 1) := by decide +kernel
theorem dX6_mean_25 : decode cX6_mean 25 = .ok (.iconst 0, 1) := by decide +kernel
theorem dX6_mean_26 : decode cX6_mean 26 = .ok (.istore_n 2, 1) := by decide +kernel
theorem dX6_mean_27 : decode cX6_mean 27 = .ok (.iconst 0, 1) := by decide +kernel
theorem dX6_mean_28 : decode cX6_mean 28 = .ok (.istore_n 3, 1) := by decide +kernel
theorem dX6_mean_29 : decode cX6_mean 29 = .ok (.iload_n 3, 1) := by decide +kernel
theorem dX6_mean_30 : decode cX6_mean 30 = .ok (.aload_n 0, 1) := by decide +kernel
theorem dX6_mean_31 : decode cX6_mean 31 = .ok (.getfield 19, 3) := by decide +kernel
theorem dX6_mean_34 : decode cX6_mean 34 = .ok (.getfield 215, 3) := by decide +kernel
theorem dX6_mean_37 : decode cX6_mean 37 = .ok (.if_icmp .ge 17, 3) := by decide +kernel
theorem dX6_mean_40 : decode cX6_mean 40 = .ok (.iload_n 2, 1) := by decide +kernel
theorem dX6_mean_41 : decode cX6_mean 41 = .ok (.aload_n 0, 1) := by decide +kernel
theorem dX6_mean_42 : decode cX6_mean 42 = .ok (.iload_n 3, 1) := by decide +kernel
theorem dX6_mean_43 : decode cX6_mean 43 = .ok (.invokevirtual 193, 3) := by decide +kernel
theorem dX6_mean_46 : decode cX6_mean 46 = .ok (.iadd, 1) := by decide +kernel
theorem dX6_mean_47 : decode cX6_mean 47 = .ok (.istore_n 2, 1) := by decide +kernel
theorem dX6_mean_48 : decode cX6_mean 48 = .ok (.iinc 3 1, 3) := by decide +kernel
theorem dX6_mean_51 : decode cX6_mean 51 = .ok (.goto (-22), 3) := by decide +kernel
theorem dX6_mean_54 : decode cX6_mean 54 = .ok (.iload_n 2, 1) := by decide +kernel
theorem dX6_mean_55 : decode cX6_mean 55 = .ok (.aload_n 0, 1) := by decide +kernel
theorem dX6_mean_56 : decode cX6_mean 56 = .ok (.getfield 31, 3) := by decide +kernel
theorem dX6_mean_59 : decode cX6_mean 59 = .ok (.getfield 142, 3) := by decide +kernel
theorem dX6_mean_62 : decode cX6_mean 62 = .ok (.invokestatic 155, 3) := by decide +kernel
theorem dX6_mean_65 : decode cX6_mean 65 = .ok (.iload_n 1, 1) := by decide +kernel
theorem dX6_mean_66 : decode cX6_mean 66 = .ok (.invokestatic 221, 3) := by decide +kernel
theorem dX6_mean_69 : decode cX6_mean 69 = .ok (.ireturn, 1) := by decide +kernel
theorem dX6_whose_0 : decode cX6_whose 0 = .ok (.iload_n 1, 1) := by decide +kernel
theorem dX6_whose_1 : decode cX6_whose 1 = .ok (.aload_n 0, 1) := by decide +kernel
theorem dX6_whose_2 : decode cX6_whose 2 = .ok (.getfield 19, 3) := by decide +kernel
theorem dX6_whose_5 : decode cX6_whose 5 = .ok (.invokevirtual 225, 3) := by decide +kernel
theorem dX6_whose_8 : decode cX6_whose 8 = .ok (.iconst (-1), 1) := by decide +kernel
theorem dX6_whose_9 : decode cX6_whose 9 = .ok (.ixor, 1) := by decide +kernel
theorem dX6_whose_10 : decode cX6_whose 10 = .ok (.iand, 1) := by decide +kernel
theorem dX6_whose_11 : decode cX6_whose 11 = .ok (.ifCond .eq 6, 3) := by decide +kernel
theorem dX6_whose_14 : decode cX6_whose 14 = .ok (.bipush (-2), 2) := by decide +kernel
theorem dX6_whose_16 : decode cX6_whose 16 = .ok (.ireturn, 1) := by decide +kernel
theorem dX6_whose_17 : decode cX6_whose 17 = .ok (.iconst 0, 1) := by decide +kernel
theorem dX6_whose_18 : decode cX6_whose 18 = .ok (.istore_n 2, 1) := by decide +kernel
theorem dX6_whose_19 : decode cX6_whose 19 = .ok (.iconst 0, 1) := by decide +kernel
theorem dX6_whose_20 : decode cX6_whose 20 = .ok (.istore_n 3, 1) := by decide +kernel
theorem dX6_whose_21 : decode cX6_whose 21 = .ok (.iload_n 3, 1) := by decide +kernel
theorem dX6_whose_22 : decode cX6_whose 22 = .ok (.aload_n 0, 1) := by decide +kernel
theorem dX6_whose_23 : decode cX6_whose 23 = .ok (.getfield 19, 3) := by decide +kernel
theorem dX6_whose_26 : decode cX6_whose 26 = .ok (.getfield 215, 3) := by decide +kernel
theorem dX6_whose_29 : decode cX6_whose 29 = .ok (.if_icmp .ge 35, 3) := by decide +kernel
theorem dX6_whose_32 : decode cX6_whose 32 = .ok (.aload_n 0, 1) := by decide +kernel
theorem dX6_whose_33 : decode cX6_whose 33 = .ok (.getfield 31, 3) := by decide +kernel
theorem dX6_whose_36 : decode cX6_whose 36 = .ok (.iload_n 3, 1) := by decide +kernel
theorem dX6_whose_37 : decode cX6_whose 37 = .ok (.aload_n 0, 1) := by decide +kernel
theorem dX6_whose_38 : decode cX6_whose 38 = .ok (.getfield 31, 3) := by decide +kernel
theorem dX6_whose_41 : decode cX6_whose 41 = .ok (.getfield 142, 3) := by decide +kernel
theorem dX6_whose_44 : decode cX6_whose 44 = .ok (.invokevirtual 190, 3) := by decide +kernel
theorem dX6_whose_47 : decode cX6_whose 47 = .ok (.iload_n 1, 1) := by decide +kernel
theorem dX6_whose_48 : decode cX6_whose 48 = .ok (.if_icmp .ne 10, 3) := by decide +kernel
theorem dX6_whose_51 : decode cX6_whose 51 = .ok (.iload_n 2, 1) := by decide +kernel
theorem dX6_whose_52 : decode cX6_whose 52 = .ok (.iload_n 3, 1) := by decide +kernel
theorem dX6_whose_53 : decode cX6_whose 53 = .ok (.invokestatic 170, 3) := by decide +kernel
theorem dX6_whose_56 : decode cX6_whose 56 = .ok (.ior, 1) := by decide +kernel
theorem dX6_whose_57 : decode cX6_whose 57 = .ok (.istore_n 2, 1) := by decide +kernel
theorem dX6_whose_58 : decode cX6_whose 58 = .ok (.iinc 3 1, 3) := by decide +kernel
theorem dX6_whose_61 : decode cX6_whose 61 = .ok (.goto (-40), 3) := by decide +kernel
theorem dX6_whose_64 : decode cX6_whose 64 = .ok (.iload_n 2, 1) := by decide +kernel
theorem dX6_whose_65 : decode cX6_whose 65 = .ok (.ireturn, 1) := by decide +kernel
theorem dX6_fourth_0 : decode cX6_fourth 0 = .ok (.iload_n 1, 1) := by decide +kernel
theorem dX6_fourth_1 : decode cX6_fourth 1 = .ok (.ifCond .lt 8, 3) := by decide +kernel
theorem dX6_fourth_4 : decode cX6_fourth 4 = .ok (.iload_n 1, 1) := by decide +kernel
theorem dX6_fourth_5 : decode cX6_fourth 5 = .ok (.iconst 1, 1) := by decide +kernel
theorem dX6_fourth_6 : decode cX6_fourth 6 = .ok (.if_icmp .le 6, 3) := by decide +kernel
theorem dX6_fourth_9 : decode cX6_fourth 9 = .ok (.bipush (-3), 2) := by decide +kernel
theorem dX6_fourth_11 : decode cX6_fourth 11 = .ok (.ireturn, 1) := by decide +kernel
theorem dX6_fourth_12 : decode cX6_fourth 12 = .ok (.iconst (-1), 1) := by decide +kernel
theorem dX6_fourth_13 : decode cX6_fourth 13 = .ok (.istore_n 2, 1) := by decide +kernel
theorem dX6_fourth_14 : decode cX6_fourth 14 = .ok (.iconst (-1), 1) := by decide +kernel
theorem dX6_fourth_15 : decode cX6_fourth 15 = .ok (.istore_n 3, 1) := by decide +kernel
theorem dX6_fourth_16 : decode cX6_fourth 16 = .ok (.iconst 0, 1) := by decide +kernel
theorem dX6_fourth_17 : decode cX6_fourth 17 = .ok (.istore 4, 2) := by decide +kernel
theorem dX6_fourth_19 : decode cX6_fourth 19 = .ok (.iload 4, 2) := by decide +kernel
theorem dX6_fourth_21 : decode cX6_fourth 21 = .ok (.aload_n 0, 1) := by decide +kernel
theorem dX6_fourth_22 : decode cX6_fourth 22 = .ok (.getfield 19, 3) := by decide +kernel
theorem dX6_fourth_25 : decode cX6_fourth 25 = .ok (.getfield 215, 3) := by decide +kernel
theorem dX6_fourth_28 : decode cX6_fourth 28 = .ok (.if_icmp .ge 53, 3) := by decide +kernel
theorem dX6_fourth_31 : decode cX6_fourth 31 = .ok (.aload_n 0, 1) := by decide +kernel
theorem dX6_fourth_32 : decode cX6_fourth 32 = .ok (.getfield 31, 3) := by decide +kernel
theorem dX6_fourth_35 : decode cX6_fourth 35 = .ok (.iload 4, 2) := by decide +kernel
theorem dX6_fourth_37 : decode cX6_fourth 37 = .ok (.aload_n 0, 1) := by decide +kernel
theorem dX6_fourth_38 : decode cX6_fourth 38 = .ok (.getfield 31, 3) := by decide +kernel
theorem dX6_fourth_41 : decode cX6_fourth 41 = .ok (.getfield 142, 3) := by decide +kernel
theorem dX6_fourth_44 : decode cX6_fourth 44 = .ok (.invokevirtual 190, 3) := by decide +kernel
theorem dX6_fourth_47 : decode cX6_fourth 47 = .ok (.ifCond .eq 28, 3) := by decide +kernel
theorem dX6_fourth_50 : decode cX6_fourth 50 = .ok (.iload_n 2, 1) := by decide +kernel
theorem dX6_fourth_51 : decode cX6_fourth 51 = .ok (.iconst (-1), 1) := by decide +kernel
theorem dX6_fourth_52 : decode cX6_fourth 52 = .ok (.if_icmp .eq 13, 3) := by decide +kernel
theorem dX6_fourth_55 : decode cX6_fourth 55 = .ok (.aload_n 0, 1) := by decide +kernel
theorem dX6_fourth_56 : decode cX6_fourth 56 = .ok (.iload 4, 2) := by decide +kernel
theorem dX6_fourth_58 : decode cX6_fourth 58 = .ok (.invokevirtual 193, 3) := by decide +kernel
theorem dX6_fourth_61 : decode cX6_fourth 61 = .ok (.iload_n 3, 1) := by decide +kernel
theorem dX6_fourth_62 : decode cX6_fourth 62 = .ok (.if_icmp .ge 13, 3) := by decide +kernel
theorem dX6_fourth_65 : decode cX6_fourth 65 = .ok (.iload 4, 2) := by decide +kernel
theorem dX6_fourth_67 : decode cX6_fourth 67 = .ok (.istore_n 2, 1) := by decide +kernel
theorem dX6_fourth_68 : decode cX6_fourth 68 = .ok (.aload_n 0, 1) := by decide +kernel
theorem dX6_fourth_69 : decode cX6_fourth 69 = .ok (.iload 4, 2) := by decide +kernel
theorem dX6_fourth_71 : decode cX6_fourth 71 = .ok (.invokevirtual 193, 3) := by decide +kernel
theorem dX6_fourth_74 : decode cX6_fourth 74 = .ok (.istore_n 3, 1) := by decide +kernel
theorem dX6_fourth_75 : decode cX6_fourth 75 = .ok (.iinc 4 1, 3) := by decide +kernel
theorem dX6_fourth_78 : decode cX6_fourth 78 = .ok (.goto (-59), 3) := by decide +kernel
theorem dX6_fourth_81 : decode cX6_fourth 81 = .ok (.iload_n 1, 1) := by decide +kernel
theorem dX6_fourth_82 : decode cX6_fourth 82 = .ok (.ifCond .ne 7, 3) := by decide +kernel
theorem dX6_fourth_85 : decode cX6_fourth 85 = .ok (.iload_n 2, 1) := by decide +kernel
theorem dX6_fourth_86 : decode cX6_fourth 86 = .ok (.goto 4, 3) := by decide +kernel
theorem dX6_fourth_89 : decode cX6_fourth 89 = .ok (.iload_n 3, 1) := by decide +kernel
theorem dX6_fourth_90 : decode cX6_fourth 90 = .ok (.ireturn, 1) := by decide +kernel
theorem dX6_count_0 : decode cX6_count 0 = .ok (.iload_n 1, 1) := by decide +kernel
theorem dX6_count_1 : decode cX6_count 1 = .ok (.tableswitch 131 0 8 #[51, 59, 67, 75, 83, 91, 104, 115, 123], 51) := by decide +kernel
theorem dX6_count_52 : decode cX6_count 52 = .ok (.aload_n 0, 1) := by decide +kernel
theorem dX6_count_53 : decode cX6_count 53 = .ok (.getfield 19, 3) := by decide +kernel
theorem dX6_count_56 : decode cX6_count 56 = .ok (.getfield 215, 3) := by decide +kernel
theorem dX6_count_59 : decode cX6_count 59 = .ok (.ireturn, 1) := by decide +kernel
theorem dX6_count_60 : decode cX6_count 60 = .ok (.aload_n 0, 1) := by decide +kernel
theorem dX6_count_61 : decode cX6_count 61 = .ok (.getfield 19, 3) := by decide +kernel
theorem dX6_count_64 : decode cX6_count 64 = .ok (.getfield 133, 3) := by decide +kernel
theorem dX6_count_67 : decode cX6_count 67 = .ok (.ireturn, 1) := by decide +kernel
theorem dX6_count_68 : decode cX6_count 68 = .ok (.aload_n 0, 1) := by decide +kernel
theorem dX6_count_69 : decode cX6_count 69 = .ok (.getfield 31, 3) := by decide +kernel
theorem dX6_count_72 : decode cX6_count 72 = .ok (.getfield 126, 3) := by decide +kernel
theorem dX6_count_75 : decode cX6_count 75 = .ok (.ireturn, 1) := by decide +kernel
theorem dX6_count_76 : decode cX6_count 76 = .ok (.aload_n 0, 1) := by decide +kernel
theorem dX6_count_77 : decode cX6_count 77 = .ok (.getfield 31, 3) := by decide +kernel
theorem dX6_count_80 : decode cX6_count 80 = .ok (.getfield 142, 3) := by decide +kernel
theorem dX6_count_83 : decode cX6_count 83 = .ok (.ireturn, 1) := by decide +kernel
theorem dX6_count_84 : decode cX6_count 84 = .ok (.aload_n 0, 1) := by decide +kernel
theorem dX6_count_85 : decode cX6_count 85 = .ok (.getfield 31, 3) := by decide +kernel
theorem dX6_count_88 : decode cX6_count 88 = .ok (.getfield 179, 3) := by decide +kernel
theorem dX6_count_91 : decode cX6_count 91 = .ok (.ireturn, 1) := by decide +kernel
theorem dX6_count_92 : decode cX6_count 92 = .ok (.aload_n 0, 1) := by decide +kernel
theorem dX6_count_93 : decode cX6_count 93 = .ok (.getfield 31, 3) := by decide +kernel
theorem dX6_count_96 : decode cX6_count 96 = .ok (.getfield 113, 3) := by decide +kernel
theorem dX6_count_99 : decode cX6_count 99 = .ok (.invokestatic 229, 3) := by decide +kernel
theorem dX6_count_102 : decode cX6_count 102 = .ok (.iconst 2, 1) := by decide +kernel
theorem dX6_count_103 : decode cX6_count 103 = .ok (.idiv, 1) := by decide +kernel
theorem dX6_count_104 : decode cX6_count 104 = .ok (.ireturn, 1) := by decide +kernel
theorem dX6_count_105 : decode cX6_count 105 = .ok (.aload_n 0, 1) := by decide +kernel
theorem dX6_count_106 : decode cX6_count 106 = .ok (.getfield 31, 3) := by decide +kernel
theorem dX6_count_109 : decode cX6_count 109 = .ok (.getfield 110, 3) := by decide +kernel
theorem dX6_count_112 : decode cX6_count 112 = .ok (.invokestatic 229, 3) := by decide +kernel
theorem dX6_count_115 : decode cX6_count 115 = .ok (.ireturn, 1) := by decide +kernel
theorem dX6_count_116 : decode cX6_count 116 = .ok (.aload_n 0, 1) := by decide +kernel
theorem dX6_count_117 : decode cX6_count 117 = .ok (.getfield 41, 3) := by decide +kernel
theorem dX6_count_120 : decode cX6_count 120 = .ok (.getfield 86, 3) := by decide +kernel
theorem dX6_count_123 : decode cX6_count 123 = .ok (.ireturn, 1) := by decide +kernel
theorem dX6_count_124 : decode cX6_count 124 = .ok (.aload_n 0, 1) := by decide +kernel
theorem dX6_count_125 : decode cX6_count 125 = .ok (.getfield 10, 3) := by decide +kernel
theorem dX6_count_128 : decode cX6_count 128 = .ok (.getfield 69, 3) := by decide +kernel
theorem dX6_count_131 : decode cX6_count 131 = .ok (.ireturn, 1) := by decide +kernel
theorem dX6_count_132 : decode cX6_count 132 = .ok (.bipush (-3), 2) := by decide +kernel
theorem dX6_count_134 : decode cX6_count 134 = .ok (.ireturn, 1) := by decide +kernel
theorem dX6_known_0 : decode cX6_known 0 = .ok (.iload_n 1, 1) := by decide +kernel
theorem dX6_known_1 : decode cX6_known 1 = .ok (.ifCond .lt 18, 3) := by decide +kernel
theorem dX6_known_4 : decode cX6_known 4 = .ok (.iload_n 1, 1) := by decide +kernel
theorem dX6_known_5 : decode cX6_known 5 = .ok (.aload_n 0, 1) := by decide +kernel
theorem dX6_known_6 : decode cX6_known 6 = .ok (.getfield 19, 3) := by decide +kernel
theorem dX6_known_9 : decode cX6_known 9 = .ok (.getfield 215, 3) := by decide +kernel
theorem dX6_known_12 : decode cX6_known 12 = .ok (.if_icmp .ge 7, 3) := by decide +kernel
theorem dX6_known_15 : decode cX6_known 15 = .ok (.iconst 1, 1) := by decide +kernel
theorem dX6_known_16 : decode cX6_known 16 = .ok (.goto 4, 3) := by decide +kernel
theorem dX6_known_19 : decode cX6_known 19 = .ok (.iconst 0, 1) := by decide +kernel
theorem dX6_known_20 : decode cX6_known 20 = .ok (.ireturn, 1) := by decide +kernel
theorem dX6_knownPair_0 : decode cX6_knownPair 0 = .ok (.aload_n 0, 1) := by decide +kernel
theorem dX6_knownPair_1 : decode cX6_knownPair 1 = .ok (.iload_n 1, 1) := by decide +kernel
theorem dX6_knownPair_2 : decode cX6_knownPair 2 = .ok (.invokevirtual 92, 3) := by decide +kernel
theorem dX6_knownPair_5 : decode cX6_knownPair 5 = .ok (.ifCond .eq 20, 3) := by decide +kernel
theorem dX6_knownPair_8 : decode cX6_knownPair 8 = .ok (.aload_n 0, 1) := by decide +kernel
theorem dX6_knownPair_9 : decode cX6_knownPair 9 = .ok (.iload_n 2, 1) := by decide +kernel
theorem dX6_knownPair_10 : decode cX6_knownPair 10 = .ok (.invokevirtual 92, 3) := by decide +kernel
theorem dX6_knownPair_13 : decode cX6_knownPair 13 = .ok (.ifCond .eq 12, 3) := by decide +kernel
theorem dX6_knownPair_16 : decode cX6_knownPair 16 = .ok (.iload_n 1, 1) := by decide +kernel
theorem dX6_knownPair_17 : decode cX6_knownPair 17 = .ok (.iload_n 2, 1) := by decide +kernel
theorem dX6_knownPair_18 : decode cX6_knownPair 18 = .ok (.if_icmp .eq 7, 3) := by decide +kernel
theorem dX6_knownPair_21 : decode cX6_knownPair 21 = .ok (.iconst 1, 1) := by decide +kernel
theorem dX6_knownPair_22 : decode cX6_knownPair 22 = .ok (.goto 4, 3) := by decide +kernel
theorem dX6_knownPair_25 : decode cX6_knownPair 25 = .ok (.iconst 0, 1) := by decide +kernel
theorem dX6_knownPair_26 : decode cX6_knownPair 26 = .ok (.ireturn, 1) := by decide +kernel
theorem dX6_lossAt_0 : decode cX6_lossAt 0 = .ok (.aload_n 0, 1) := by decide +kernel
theorem dX6_lossAt_1 : decode cX6_lossAt 1 = .ok (.getfield 19, 3) := by decide +kernel
theorem dX6_lossAt_4 : decode cX6_lossAt 4 = .ok (.aload_n 0, 1) := by decide +kernel
theorem dX6_lossAt_5 : decode cX6_lossAt 5 = .ok (.getfield 31, 3) := by decide +kernel
theorem dX6_lossAt_8 : decode cX6_lossAt 8 = .ok (.iload_n 1, 1) := by decide +kernel
theorem dX6_lossAt_9 : decode cX6_lossAt 9 = .ok (.aload_n 0, 1) := by decide +kernel
theorem dX6_lossAt_10 : decode cX6_lossAt 10 = .ok (.getfield 31, 3) := by decide +kernel
theorem dX6_lossAt_13 : decode cX6_lossAt 13 = .ok (.getfield 142, 3) := by decide +kernel
theorem dX6_lossAt_16 : decode cX6_lossAt 16 = .ok (.invokevirtual 190, 3) := by decide +kernel
theorem dX6_lossAt_19 : decode cX6_lossAt 19 = .ok (.aload_n 0, 1) := by decide +kernel
theorem dX6_lossAt_20 : decode cX6_lossAt 20 = .ok (.getfield 31, 3) := by decide +kernel
theorem dX6_lossAt_23 : decode cX6_lossAt 23 = .ok (.getfield 126, 3) := by decide +kernel
theorem dX6_lossAt_26 : decode cX6_lossAt 26 = .ok (.invokevirtual 233, 3) := by decide +kernel
theorem dX6_lossAt_29 : decode cX6_lossAt 29 = .ok (.ireturn, 1) := by decide +kernel
theorem dX6_bit_0 : decode cX6_bit 0 = .ok (.iconst 1, 1) := by decide +kernel
theorem dX6_bit_1 : decode cX6_bit 1 = .ok (.iload_n 0, 1) := by decide +kernel
theorem dX6_bit_2 : decode cX6_bit 2 = .ok (.ishl, 1) := by decide +kernel
theorem dX6_bit_3 : decode cX6_bit 3 = .ok (.ireturn, 1) := by decide +kernel
theorem dX6_has_0 : decode cX6_has 0 = .ok (.iload_n 0, 1) := by decide +kernel
theorem dX6_has_1 : decode cX6_has 1 = .ok (.iload_n 1, 1) := by decide +kernel
theorem dX6_has_2 : decode cX6_has 2 = .ok (.ishr, 1) := by decide +kernel
theorem dX6_has_3 : decode cX6_has 3 = .ok (.iconst 1, 1) := by decide +kernel
theorem dX6_has_4 : decode cX6_has 4 = .ok (.iand, 1) := by decide +kernel
theorem dX6_has_5 : decode cX6_has 5 = .ok (.ifCond .eq 7, 3) := by decide +kernel
theorem dX6_has_8 : decode cX6_has 8 = .ok (.iconst 1, 1) := by decide +kernel
theorem dX6_has_9 : decode cX6_has 9 = .ok (.goto 4, 3) := by decide +kernel
theorem dX6_has_12 : decode cX6_has 12 = .ok (.iconst 0, 1) := by decide +kernel
theorem dX6_has_13 : decode cX6_has 13 = .ok (.ireturn, 1) := by decide +kernel
theorem dX6_bitsIn_0 : decode cX6_bitsIn 0 = .ok (.iconst 0, 1) := by decide +kernel
theorem dX6_bitsIn_1 : decode cX6_bitsIn 1 = .ok (.istore_n 1, 1) := by decide +kernel
theorem dX6_bitsIn_2 : decode cX6_bitsIn 2 = .ok (.aload_n 0, 1) := by decide +kernel
theorem dX6_bitsIn_3 : decode cX6_bitsIn 3 = .ok (.astore_n 2, 1) := by decide +kernel
theorem dX6_bitsIn_4 : decode cX6_bitsIn 4 = .ok (.aload_n 2, 1) := by decide +kernel
theorem dX6_bitsIn_5 : decode cX6_bitsIn 5 = .ok (.arraylength, 1) := by decide +kernel
theorem dX6_bitsIn_6 : decode cX6_bitsIn 6 = .ok (.istore_n 3, 1) := by decide +kernel
theorem dX6_bitsIn_7 : decode cX6_bitsIn 7 = .ok (.iconst 0, 1) := by decide +kernel
theorem dX6_bitsIn_8 : decode cX6_bitsIn 8 = .ok (.istore 4, 2) := by decide +kernel
theorem dX6_bitsIn_10 : decode cX6_bitsIn 10 = .ok (.iload 4, 2) := by decide +kernel
theorem dX6_bitsIn_12 : decode cX6_bitsIn 12 = .ok (.iload_n 3, 1) := by decide +kernel
theorem dX6_bitsIn_13 : decode cX6_bitsIn 13 = .ok (.if_icmp .ge 23, 3) := by decide +kernel
theorem dX6_bitsIn_16 : decode cX6_bitsIn 16 = .ok (.aload_n 2, 1) := by decide +kernel
theorem dX6_bitsIn_17 : decode cX6_bitsIn 17 = .ok (.iload 4, 2) := by decide +kernel
theorem dX6_bitsIn_19 : decode cX6_bitsIn 19 = .ok (.iaload, 1) := by decide +kernel
theorem dX6_bitsIn_20 : decode cX6_bitsIn 20 = .ok (.istore 5, 2) := by decide +kernel
theorem dX6_bitsIn_22 : decode cX6_bitsIn 22 = .ok (.iload_n 1, 1) := by decide +kernel
theorem dX6_bitsIn_23 : decode cX6_bitsIn 23 = .ok (.iload 5, 2) := by decide +kernel
theorem dX6_bitsIn_25 : decode cX6_bitsIn 25 = .ok (.invokestatic 155, 3) := by decide +kernel
theorem dX6_bitsIn_28 : decode cX6_bitsIn 28 = .ok (.iadd, 1) := by decide +kernel
theorem dX6_bitsIn_29 : decode cX6_bitsIn 29 = .ok (.istore_n 1, 1) := by decide +kernel
theorem dX6_bitsIn_30 : decode cX6_bitsIn 30 = .ok (.iinc 4 1, 3) := by decide +kernel
theorem dX6_bitsIn_33 : decode cX6_bitsIn 33 = .ok (.goto (-23), 3) := by decide +kernel
theorem dX6_bitsIn_36 : decode cX6_bitsIn 36 = .ok (.iload_n 1, 1) := by decide +kernel
theorem dX6_bitsIn_37 : decode cX6_bitsIn 37 = .ok (.ireturn, 1) := by decide +kernel
theorem dX6_lowest_0 : decode cX6_lowest 0 = .ok (.iload_n 1, 1) := by decide +kernel
theorem dX6_lowest_1 : decode cX6_lowest 1 = .ok (.istore_n 3, 1) := by decide +kernel
theorem dX6_lowest_2 : decode cX6_lowest 2 = .ok (.iload_n 3, 1) := by decide +kernel
theorem dX6_lowest_3 : decode cX6_lowest 3 = .ok (.iconst 1, 1) := by decide +kernel
theorem dX6_lowest_4 : decode cX6_lowest 4 = .ok (.if_icmp .le 35, 3) := by decide +kernel
theorem dX6_lowest_7 : decode cX6_lowest 7 = .ok (.iload_n 0, 1) := by decide +kernel
theorem dX6_lowest_8 : decode cX6_lowest 8 = .ok (.iload_n 3, 1) := by decide +kernel
theorem dX6_lowest_9 : decode cX6_lowest 9 = .ok (.irem, 1) := by decide +kernel
theorem dX6_lowest_10 : decode cX6_lowest 10 = .ok (.ifCond .ne 23, 3) := by decide +kernel
theorem dX6_lowest_13 : decode cX6_lowest 13 = .ok (.iload_n 1, 1) := by decide +kernel
theorem dX6_lowest_14 : decode cX6_lowest 14 = .ok (.iload_n 3, 1) := by decide +kernel
theorem dX6_lowest_15 : decode cX6_lowest 15 = .ok (.irem, 1) := by decide +kernel
theorem dX6_lowest_16 : decode cX6_lowest 16 = .ok (.ifCond .ne 17, 3) := by decide +kernel
theorem dX6_lowest_19 : decode cX6_lowest 19 = .ok (.iload_n 2, 1) := by decide +kernel
theorem dX6_lowest_20 : decode cX6_lowest 20 = .ok (.ifCond .ne 9, 3) := by decide +kernel
theorem dX6_lowest_23 : decode cX6_lowest 23 = .ok (.iload_n 0, 1) := by decide +kernel
theorem dX6_lowest_24 : decode cX6_lowest 24 = .ok (.iload_n 3, 1) := by decide +kernel
theorem dX6_lowest_25 : decode cX6_lowest 25 = .ok (.idiv, 1) := by decide +kernel
theorem dX6_lowest_26 : decode cX6_lowest 26 = .ok (.goto 6, 3) := by decide +kernel
theorem dX6_lowest_29 : decode cX6_lowest 29 = .ok (.iload_n 1, 1) := by decide +kernel
theorem dX6_lowest_30 : decode cX6_lowest 30 = .ok (.iload_n 3, 1) := by decide +kernel
theorem dX6_lowest_31 : decode cX6_lowest 31 = .ok (.idiv, 1) := by decide +kernel
theorem dX6_lowest_32 : decode cX6_lowest 32 = .ok (.ireturn, 1) := by decide +kernel
theorem dX6_lowest_33 : decode cX6_lowest 33 = .ok (.iinc 3 (-1), 3) := by decide +kernel
theorem dX6_lowest_36 : decode cX6_lowest 36 = .ok (.goto (-34), 3) := by decide +kernel
theorem dX6_lowest_39 : decode cX6_lowest 39 = .ok (.iload_n 2, 1) := by decide +kernel
theorem dX6_lowest_40 : decode cX6_lowest 40 = .ok (.ifCond .ne 7, 3) := by decide +kernel
theorem dX6_lowest_43 : decode cX6_lowest 43 = .ok (.iload_n 0, 1) := by decide +kernel
theorem dX6_lowest_44 : decode cX6_lowest 44 = .ok (.goto 4, 3) := by decide +kernel
theorem dX6_lowest_47 : decode cX6_lowest 47 = .ok (.iload_n 1, 1) := by decide +kernel
theorem dX6_lowest_48 : decode cX6_lowest 48 = .ok (.ireturn, 1) := by decide +kernel
theorem dX6_spread_0 : decode cX6_spread 0 = .ok (.iload_n 1, 1) := by decide +kernel
theorem dX6_spread_1 : decode cX6_spread 1 = .ok (.istore_n 3, 1) := by decide +kernel
theorem dX6_spread_2 : decode cX6_spread 2 = .ok (.iconst 0, 1) := by decide +kernel
theorem dX6_spread_3 : decode cX6_spread 3 = .ok (.istore 4, 2) := by decide +kernel
theorem dX6_spread_5 : decode cX6_spread 5 = .ok (.iload 4, 2) := by decide +kernel
theorem dX6_spread_7 : decode cX6_spread 7 = .ok (.bipush 8, 2) := by decide +kernel
theorem dX6_spread_9 : decode cX6_spread 9 = .ok (.if_icmp .ge 59, 3) := by decide +kernel
theorem dX6_spread_12 : decode cX6_spread 12 = .ok (.iload_n 3, 1) := by decide +kernel
theorem dX6_spread_13 : decode cX6_spread 13 = .ok (.istore 5, 2) := by decide +kernel
theorem dX6_spread_15 : decode cX6_spread 15 = .ok (.iconst 0, 1) := by decide +kernel
theorem dX6_spread_16 : decode cX6_spread 16 = .ok (.istore 6, 2) := by decide +kernel
theorem dX6_spread_18 : decode cX6_spread 18 = .ok (.iload 6, 2) := by decide +kernel
theorem dX6_spread_20 : decode cX6_spread 20 = .ok (.bipush 8, 2) := by decide +kernel
theorem dX6_spread_22 : decode cX6_spread 22 = .ok (.if_icmp .ge 29, 3) := by decide +kernel
theorem dX6_spread_25 : decode cX6_spread 25 = .ok (.iload_n 3, 1) := by decide +kernel
theorem dX6_spread_26 : decode cX6_spread 26 = .ok (.iload 6, 2) := by decide +kernel
theorem dX6_spread_28 : decode cX6_spread 28 = .ok (.invokestatic 163, 3) := by decide +kernel
theorem dX6_spread_31 : decode cX6_spread 31 = .ok (.ifCond .eq 14, 3) := by decide +kernel
theorem dX6_spread_34 : decode cX6_spread 34 = .ok (.iload 5, 2) := by decide +kernel
theorem dX6_spread_36 : decode cX6_spread 36 = .ok (.aload_n 0, 1) := by decide +kernel
theorem dX6_spread_37 : decode cX6_spread 37 = .ok (.iload 6, 2) := by decide +kernel
theorem dX6_spread_39 : decode cX6_spread 39 = .ok (.iaload, 1) := by decide +kernel
theorem dX6_spread_40 : decode cX6_spread 40 = .ok (.iload_n 2, 1) := by decide +kernel
theorem dX6_spread_41 : decode cX6_spread 41 = .ok (.iand, 1) := by decide +kernel
theorem dX6_spread_42 : decode cX6_spread 42 = .ok (.ior, 1) := by decide +kernel
theorem dX6_spread_43 : decode cX6_spread 43 = .ok (.istore 5, 2) := by decide +kernel
theorem dX6_spread_45 : decode cX6_spread 45 = .ok (.iinc 6 1, 3) := by decide +kernel
theorem dX6_spread_48 : decode cX6_spread 48 = .ok (.goto (-30), 3) := by decide +kernel
theorem dX6_spread_51 : decode cX6_spread 51 = .ok (.iload 5, 2) := by decide +kernel
theorem dX6_spread_53 : decode cX6_spread 53 = .ok (.iload_n 3, 1) := by decide +kernel
theorem dX6_spread_54 : decode cX6_spread 54 = .ok (.if_icmp .ne 5, 3) := by decide +kernel
theorem dX6_spread_57 : decode cX6_spread 57 = .ok (.iload_n 3, 1) := by decide +kernel
theorem dX6_spread_58 : decode cX6_spread 58 = .ok (.ireturn, 1) := by decide +kernel
theorem dX6_spread_59 : decode cX6_spread 59 = .ok (.iload 5, 2) := by decide +kernel
theorem dX6_spread_61 : decode cX6_spread 61 = .ok (.istore_n 3, 1) := by decide +kernel
theorem dX6_spread_62 : decode cX6_spread 62 = .ok (.iinc 4 1, 3) := by decide +kernel
theorem dX6_spread_65 : decode cX6_spread 65 = .ok (.goto (-60), 3) := by decide +kernel
theorem dX6_spread_68 : decode cX6_spread 68 = .ok (.iload_n 3, 1) := by decide +kernel
theorem dX6_spread_69 : decode cX6_spread 69 = .ok (.ireturn, 1) := by decide +kernel
theorem dX6_makesRing_0 : decode cX6_makesRing 0 = .ok (.aload_n 0, 1) := by decide +kernel
theorem dX6_makesRing_1 : decode cX6_makesRing 1 = .ok (.iload_n 1, 1) := by decide +kernel
theorem dX6_makesRing_2 : decode cX6_makesRing 2 = .ok (.invokestatic 170, 3) := by decide +kernel
theorem dX6_makesRing_5 : decode cX6_makesRing 5 = .ok (.iconst (-1), 1) := by decide +kernel
theorem dX6_makesRing_6 : decode cX6_makesRing 6 = .ok (.invokestatic 236, 3) := by decide +kernel
theorem dX6_makesRing_9 : decode cX6_makesRing 9 = .ok (.iload_n 2, 1) := by decide +kernel
theorem dX6_makesRing_10 : decode cX6_makesRing 10 = .ok (.invokestatic 163, 3) := by decide +kernel
theorem dX6_makesRing_13 : decode cX6_makesRing 13 = .ok (.ireturn, 1) := by decide +kernel
theorem dL_law_0 : decode cL_law 0 = .ok (.new 7, 3) := by decide +kernel
theorem dL_law_3 : decode cL_law 3 = .ok (.dup, 1) := by decide +kernel
theorem dL_law_4 : decode cL_law 4 = .ok (.invokespecial 9, 3) := by decide +kernel
theorem dL_law_7 : decode cL_law 7 = .ok (.astore_n 1, 1) := by decide +kernel
theorem dL_law_8 : decode cL_law 8 = .ok (.new 10, 3) := by decide +kernel
theorem dL_law_11 : decode cL_law 11 = .ok (.dup, 1) := by decide +kernel
theorem dL_law_12 : decode cL_law 12 = .ok (.invokespecial 12, 3) := by decide +kernel
theorem dL_law_15 : decode cL_law 15 = .ok (.astore_n 2, 1) := by decide +kernel
theorem dL_law_16 : decode cL_law 16 = .ok (.iconst 0, 1) := by decide +kernel
theorem dL_law_17 : decode cL_law 17 = .ok (.istore_n 3, 1) := by decide +kernel
theorem dL_law_18 : decode cL_law 18 = .ok (.iload_n 3, 1) := by decide +kernel
theorem dL_law_19 : decode cL_law 19 = .ok (.aload_n 0, 1) := by decide +kernel
theorem dL_law_20 : decode cL_law 20 = .ok (.arraylength, 1) := by decide +kernel
theorem dL_law_21 : decode cL_law 21 = .ok (.iconst 4, 1) := by decide +kernel
theorem dL_law_22 : decode cL_law 22 = .ok (.isub, 1) := by decide +kernel
theorem dL_law_23 : decode cL_law 23 = .ok (.if_icmp .gt 884, 3) := by decide +kernel
theorem dL_law_26 : decode cL_law 26 = .ok (.aload_n 0, 1) := by decide +kernel
theorem dL_law_27 : decode cL_law 27 = .ok (.iload_n 3, 1) := by decide +kernel
theorem dL_law_28 : decode cL_law 28 = .ok (.iaload, 1) := by decide +kernel
theorem dL_law_29 : decode cL_law 29 = .ok (.bipush 31, 2) := by decide +kernel
theorem dL_law_31 : decode cL_law 31 = .ok (.iand, 1) := by decide +kernel
theorem dL_law_32 : decode cL_law 32 = .ok (.tableswitch 869 0 28 #[132, 155, 168, 181, 194, 227, 260, 293, 316, 339, 372, 395, 438, 471, 494, 507, 530, 553, 576, 599, 632, 655, 678, 701, 744, 777, 800, 823, 846], 132) := by decide +kernel
theorem dL_law_164 : decode cL_law 164 = .ok (.aload_n 1, 1) := by decide +kernel
theorem dL_law_165 : decode cL_law 165 = .ok (.aload_n 0, 1) := by decide +kernel
theorem dL_law_166 : decode cL_law 166 = .ok (.iload_n 3, 1) := by decide +kernel
theorem dL_law_167 : decode cL_law 167 = .ok (.iconst 1, 1) := by decide +kernel
theorem dL_law_168 : decode cL_law 168 = .ok (.iadd, 1) := by decide +kernel
theorem dL_law_169 : decode cL_law 169 = .ok (.iaload, 1) := by decide +kernel
theorem dL_law_170 : decode cL_law 170 = .ok (.invokevirtual 13, 3) := by decide +kernel
theorem dL_law_173 : decode cL_law 173 = .ok (.aload_n 2, 1) := by decide +kernel
theorem dL_law_174 : decode cL_law 174 = .ok (.aload_n 0, 1) := by decide +kernel
theorem dL_law_175 : decode cL_law 175 = .ok (.iload_n 3, 1) := by decide +kernel
theorem dL_law_176 : decode cL_law 176 = .ok (.iconst 1, 1) := by decide +kernel
theorem dL_law_177 : decode cL_law 177 = .ok (.iadd, 1) := by decide +kernel
theorem dL_law_178 : decode cL_law 178 = .ok (.iaload, 1) := by decide +kernel
theorem dL_law_179 : decode cL_law 179 = .ok (.invokevirtual 17, 3) := by decide +kernel
theorem dL_law_182 : decode cL_law 182 = .ok (.if_icmp .eq 719, 3) := by decide +kernel
theorem dL_law_185 : decode cL_law 185 = .ok (.iconst 0, 1) := by decide +kernel
theorem dL_law_186 : decode cL_law 186 = .ok (.ireturn, 1) := by decide +kernel
theorem dL_law_187 : decode cL_law 187 = .ok (.aload_n 1, 1) := by decide +kernel
theorem dL_law_188 : decode cL_law 188 = .ok (.invokevirtual 18, 3) := by decide +kernel
theorem dL_law_191 : decode cL_law 191 = .ok (.aload_n 2, 1) := by decide +kernel
theorem dL_law_192 : decode cL_law 192 = .ok (.invokevirtual 22, 3) := by decide +kernel
theorem dL_law_195 : decode cL_law 195 = .ok (.if_icmp .eq 706, 3) := by decide +kernel
theorem dL_law_198 : decode cL_law 198 = .ok (.iconst 0, 1) := by decide +kernel
theorem dL_law_199 : decode cL_law 199 = .ok (.ireturn, 1) := by decide +kernel
theorem dL_law_200 : decode cL_law 200 = .ok (.aload_n 1, 1) := by decide +kernel
theorem dL_law_201 : decode cL_law 201 = .ok (.invokevirtual 23, 3) := by decide +kernel
theorem dL_law_204 : decode cL_law 204 = .ok (.aload_n 2, 1) := by decide +kernel
theorem dL_law_205 : decode cL_law 205 = .ok (.invokevirtual 26, 3) := by decide +kernel
theorem dL_law_208 : decode cL_law 208 = .ok (.if_icmp .eq 693, 3) := by decide +kernel
theorem dL_law_211 : decode cL_law 211 = .ok (.iconst 0, 1) := by decide +kernel
theorem dL_law_212 : decode cL_law 212 = .ok (.ireturn, 1) := by decide +kernel
theorem dL_law_213 : decode cL_law 213 = .ok (.aload_n 1, 1) := by decide +kernel
theorem dL_law_214 : decode cL_law 214 = .ok (.invokevirtual 27, 3) := by decide +kernel
theorem dL_law_217 : decode cL_law 217 = .ok (.aload_n 2, 1) := by decide +kernel
theorem dL_law_218 : decode cL_law 218 = .ok (.invokevirtual 30, 3) := by decide +kernel
theorem dL_law_221 : decode cL_law 221 = .ok (.if_icmp .eq 680, 3) := by decide +kernel
theorem dL_law_224 : decode cL_law 224 = .ok (.iconst 0, 1) := by decide +kernel
theorem dL_law_225 : decode cL_law 225 = .ok (.ireturn, 1) := by decide +kernel
theorem dL_law_226 : decode cL_law 226 = .ok (.aload_n 1, 1) := by decide +kernel
theorem dL_law_227 : decode cL_law 227 = .ok (.aload_n 0, 1) := by decide +kernel
theorem dL_law_228 : decode cL_law 228 = .ok (.iload_n 3, 1) := by decide +kernel
theorem dL_law_229 : decode cL_law 229 = .ok (.iconst 1, 1) := by decide +kernel
theorem dL_law_230 : decode cL_law 230 = .ok (.iadd, 1) := by decide +kernel
theorem dL_law_231 : decode cL_law 231 = .ok (.iaload, 1) := by decide +kernel
theorem dL_law_232 : decode cL_law 232 = .ok (.aload_n 0, 1) := by decide +kernel
theorem dL_law_233 : decode cL_law 233 = .ok (.iload_n 3, 1) := by decide +kernel
theorem dL_law_234 : decode cL_law 234 = .ok (.iconst 2, 1) := by decide +kernel
theorem dL_law_235 : decode cL_law 235 = .ok (.iadd, 1) := by decide +kernel
theorem dL_law_236 : decode cL_law 236 = .ok (.iaload, 1) := by decide +kernel
theorem dL_law_237 : decode cL_law 237 = .ok (.invokevirtual 31, 3) := by decide +kernel
theorem dL_law_240 : decode cL_law 240 = .ok (.aload_n 2, 1) := by decide +kernel
theorem dL_law_241 : decode cL_law 241 = .ok (.aload_n 0, 1) := by decide +kernel
theorem dL_law_242 : decode cL_law 242 = .ok (.iload_n 3, 1) := by decide +kernel
theorem dL_law_243 : decode cL_law 243 = .ok (.iconst 1, 1) := by decide +kernel
theorem dL_law_244 : decode cL_law 244 = .ok (.iadd, 1) := by decide +kernel
theorem dL_law_245 : decode cL_law 245 = .ok (.iaload, 1) := by decide +kernel
theorem dL_law_246 : decode cL_law 246 = .ok (.aload_n 0, 1) := by decide +kernel
theorem dL_law_247 : decode cL_law 247 = .ok (.iload_n 3, 1) := by decide +kernel
theorem dL_law_248 : decode cL_law 248 = .ok (.iconst 2, 1) := by decide +kernel
theorem dL_law_249 : decode cL_law 249 = .ok (.iadd, 1) := by decide +kernel
theorem dL_law_250 : decode cL_law 250 = .ok (.iaload, 1) := by decide +kernel
theorem dL_law_251 : decode cL_law 251 = .ok (.invokevirtual 35, 3) := by decide +kernel
theorem dL_law_254 : decode cL_law 254 = .ok (.if_icmp .eq 647, 3) := by decide +kernel
theorem dL_law_257 : decode cL_law 257 = .ok (.iconst 0, 1) := by decide +kernel
theorem dL_law_258 : decode cL_law 258 = .ok (.ireturn, 1) := by decide +kernel
theorem dL_law_259 : decode cL_law 259 = .ok (.aload_n 1, 1) := by decide +kernel
theorem dL_law_260 : decode cL_law 260 = .ok (.aload_n 0, 1) := by decide +kernel
theorem dL_law_261 : decode cL_law 261 = .ok (.iload_n 3, 1) := by decide +kernel
theorem dL_law_262 : decode cL_law 262 = .ok (.iconst 1, 1) := by decide +kernel
theorem dL_law_263 : decode cL_law 263 = .ok (.iadd, 1) := by decide +kernel
theorem dL_law_264 : decode cL_law 264 = .ok (.iaload, 1) := by decide +kernel
theorem dL_law_265 : decode cL_law 265 = .ok (.aload_n 0, 1) := by decide +kernel
theorem dL_law_266 : decode cL_law 266 = .ok (.iload_n 3, 1) := by decide +kernel
theorem dL_law_267 : decode cL_law 267 = .ok (.iconst 2, 1) := by decide +kernel
theorem dL_law_268 : decode cL_law 268 = .ok (.iadd, 1) := by decide +kernel
theorem dL_law_269 : decode cL_law 269 = .ok (.iaload, 1) := by decide +kernel
theorem dL_law_270 : decode cL_law 270 = .ok (.invokevirtual 36, 3) := by decide +kernel
theorem dL_law_273 : decode cL_law 273 = .ok (.aload_n 2, 1) := by decide +kernel
theorem dL_law_274 : decode cL_law 274 = .ok (.aload_n 0, 1) := by decide +kernel
theorem dL_law_275 : decode cL_law 275 = .ok (.iload_n 3, 1) := by decide +kernel
theorem dL_law_276 : decode cL_law 276 = .ok (.iconst 1, 1) := by decide +kernel
theorem dL_law_277 : decode cL_law 277 = .ok (.iadd, 1) := by decide +kernel
theorem dL_law_278 : decode cL_law 278 = .ok (.iaload, 1) := by decide +kernel
theorem dL_law_279 : decode cL_law 279 = .ok (.aload_n 0, 1) := by decide +kernel
theorem dL_law_280 : decode cL_law 280 = .ok (.iload_n 3, 1) := by decide +kernel
theorem dL_law_281 : decode cL_law 281 = .ok (.iconst 2, 1) := by decide +kernel
theorem dL_law_282 : decode cL_law 282 = .ok (.iadd, 1) := by decide +kernel
theorem dL_law_283 : decode cL_law 283 = .ok (.iaload, 1) := by decide +kernel
theorem dL_law_284 : decode cL_law 284 = .ok (.invokevirtual 39, 3) := by decide +kernel
theorem dL_law_287 : decode cL_law 287 = .ok (.if_icmp .eq 614, 3) := by decide +kernel
theorem dL_law_290 : decode cL_law 290 = .ok (.iconst 0, 1) := by decide +kernel
theorem dL_law_291 : decode cL_law 291 = .ok (.ireturn, 1) := by decide +kernel
theorem dL_law_292 : decode cL_law 292 = .ok (.aload_n 1, 1) := by decide +kernel
theorem dL_law_293 : decode cL_law 293 = .ok (.aload_n 0, 1) := by decide +kernel
theorem dL_law_294 : decode cL_law 294 = .ok (.iload_n 3, 1) := by decide +kernel
theorem dL_law_295 : decode cL_law 295 = .ok (.iconst 1, 1) := by decide +kernel
theorem dL_law_296 : decode cL_law 296 = .ok (.iadd, 1) := by decide +kernel
theorem dL_law_297 : decode cL_law 297 = .ok (.iaload, 1) := by decide +kernel
theorem dL_law_298 : decode cL_law 298 = .ok (.aload_n 0, 1) := by decide +kernel
theorem dL_law_299 : decode cL_law 299 = .ok (.iload_n 3, 1) := by decide +kernel
theorem dL_law_300 : decode cL_law 300 = .ok (.iconst 2, 1) := by decide +kernel
theorem dL_law_301 : decode cL_law 301 = .ok (.iadd, 1) := by decide +kernel
theorem dL_law_302 : decode cL_law 302 = .ok (.iaload, 1) := by decide +kernel
theorem dL_law_303 : decode cL_law 303 = .ok (.invokevirtual 40, 3) := by decide +kernel
theorem dL_law_306 : decode cL_law 306 = .ok (.aload_n 2, 1) := by decide +kernel
theorem dL_law_307 : decode cL_law 307 = .ok (.aload_n 0, 1) := by decide +kernel
theorem dL_law_308 : decode cL_law 308 = .ok (.iload_n 3, 1) := by decide +kernel
theorem dL_law_309 : decode cL_law 309 = .ok (.iconst 1, 1) := by decide +kernel
theorem dL_law_310 : decode cL_law 310 = .ok (.iadd, 1) := by decide +kernel
theorem dL_law_311 : decode cL_law 311 = .ok (.iaload, 1) := by decide +kernel
theorem dL_law_312 : decode cL_law 312 = .ok (.aload_n 0, 1) := by decide +kernel
theorem dL_law_313 : decode cL_law 313 = .ok (.iload_n 3, 1) := by decide +kernel
theorem dL_law_314 : decode cL_law 314 = .ok (.iconst 2, 1) := by decide +kernel
theorem dL_law_315 : decode cL_law 315 = .ok (.iadd, 1) := by decide +kernel
theorem dL_law_316 : decode cL_law 316 = .ok (.iaload, 1) := by decide +kernel
theorem dL_law_317 : decode cL_law 317 = .ok (.invokevirtual 43, 3) := by decide +kernel
theorem dL_law_320 : decode cL_law 320 = .ok (.if_icmp .eq 581, 3) := by decide +kernel
theorem dL_law_323 : decode cL_law 323 = .ok (.iconst 0, 1) := by decide +kernel
theorem dL_law_324 : decode cL_law 324 = .ok (.ireturn, 1) := by decide +kernel
theorem dL_law_325 : decode cL_law 325 = .ok (.aload_n 1, 1) := by decide +kernel
theorem dL_law_326 : decode cL_law 326 = .ok (.aload_n 0, 1) := by decide +kernel
theorem dL_law_327 : decode cL_law 327 = .ok (.iload_n 3, 1) := by decide +kernel
theorem dL_law_328 : decode cL_law 328 = .ok (.iconst 1, 1) := by decide +kernel
theorem dL_law_329 : decode cL_law 329 = .ok (.iadd, 1) := by decide +kernel
theorem dL_law_330 : decode cL_law 330 = .ok (.iaload, 1) := by decide +kernel
theorem dL_law_331 : decode cL_law 331 = .ok (.invokevirtual 44, 3) := by decide +kernel
theorem dL_law_334 : decode cL_law 334 = .ok (.aload_n 2, 1) := by decide +kernel
theorem dL_law_335 : decode cL_law 335 = .ok (.aload_n 0, 1) := by decide +kernel
theorem dL_law_336 : decode cL_law 336 = .ok (.iload_n 3, 1) := by decide +kernel
theorem dL_law_337 : decode cL_law 337 = .ok (.iconst 1, 1) := by decide +kernel
theorem dL_law_338 : decode cL_law 338 = .ok (.iadd, 1) := by decide +kernel
theorem dL_law_339 : decode cL_law 339 = .ok (.iaload, 1) := by decide +kernel
theorem dL_law_340 : decode cL_law 340 = .ok (.invokevirtual 47, 3) := by decide +kernel
theorem dL_law_343 : decode cL_law 343 = .ok (.if_icmp .eq 558, 3) := by decide +kernel
theorem dL_law_346 : decode cL_law 346 = .ok (.iconst 0, 1) := by decide +kernel
theorem dL_law_347 : decode cL_law 347 = .ok (.ireturn, 1) := by decide +kernel
theorem dL_law_348 : decode cL_law 348 = .ok (.aload_n 1, 1) := by decide +kernel
theorem dL_law_349 : decode cL_law 349 = .ok (.aload_n 0, 1) := by decide +kernel
theorem dL_law_350 : decode cL_law 350 = .ok (.iload_n 3, 1) := by decide +kernel
theorem dL_law_351 : decode cL_law 351 = .ok (.iconst 1, 1) := by decide +kernel
theorem dL_law_352 : decode cL_law 352 = .ok (.iadd, 1) := by decide +kernel
theorem dL_law_353 : decode cL_law 353 = .ok (.iaload, 1) := by decide +kernel
theorem dL_law_354 : decode cL_law 354 = .ok (.invokevirtual 48, 3) := by decide +kernel
theorem dL_law_357 : decode cL_law 357 = .ok (.aload_n 2, 1) := by decide +kernel
theorem dL_law_358 : decode cL_law 358 = .ok (.aload_n 0, 1) := by decide +kernel
theorem dL_law_359 : decode cL_law 359 = .ok (.iload_n 3, 1) := by decide +kernel
theorem dL_law_360 : decode cL_law 360 = .ok (.iconst 1, 1) := by decide +kernel
theorem dL_law_361 : decode cL_law 361 = .ok (.iadd, 1) := by decide +kernel
theorem dL_law_362 : decode cL_law 362 = .ok (.iaload, 1) := by decide +kernel
theorem dL_law_363 : decode cL_law 363 = .ok (.invokevirtual 51, 3) := by decide +kernel
theorem dL_law_366 : decode cL_law 366 = .ok (.if_icmp .eq 535, 3) := by decide +kernel
theorem dL_law_369 : decode cL_law 369 = .ok (.iconst 0, 1) := by decide +kernel
theorem dL_law_370 : decode cL_law 370 = .ok (.ireturn, 1) := by decide +kernel
theorem dL_law_371 : decode cL_law 371 = .ok (.aload_n 1, 1) := by decide +kernel
theorem dL_law_372 : decode cL_law 372 = .ok (.aload_n 0, 1) := by decide +kernel
theorem dL_law_373 : decode cL_law 373 = .ok (.iload_n 3, 1) := by decide +kernel
theorem dL_law_374 : decode cL_law 374 = .ok (.iconst 1, 1) := by decide +kernel
theorem dL_law_375 : decode cL_law 375 = .ok (.iadd, 1) := by decide +kernel
theorem dL_law_376 : decode cL_law 376 = .ok (.iaload, 1) := by decide +kernel
theorem dL_law_377 : decode cL_law 377 = .ok (.aload_n 0, 1) := by decide +kernel
theorem dL_law_378 : decode cL_law 378 = .ok (.iload_n 3, 1) := by decide +kernel
theorem dL_law_379 : decode cL_law 379 = .ok (.iconst 2, 1) := by decide +kernel
theorem dL_law_380 : decode cL_law 380 = .ok (.iadd, 1) := by decide +kernel
theorem dL_law_381 : decode cL_law 381 = .ok (.iaload, 1) := by decide +kernel
theorem dL_law_382 : decode cL_law 382 = .ok (.invokevirtual 52, 3) := by decide +kernel
theorem dL_law_385 : decode cL_law 385 = .ok (.aload_n 2, 1) := by decide +kernel
theorem dL_law_386 : decode cL_law 386 = .ok (.aload_n 0, 1) := by decide +kernel
theorem dL_law_387 : decode cL_law 387 = .ok (.iload_n 3, 1) := by decide +kernel
theorem dL_law_388 : decode cL_law 388 = .ok (.iconst 1, 1) := by decide +kernel
theorem dL_law_389 : decode cL_law 389 = .ok (.iadd, 1) := by decide +kernel
theorem dL_law_390 : decode cL_law 390 = .ok (.iaload, 1) := by decide +kernel
theorem dL_law_391 : decode cL_law 391 = .ok (.aload_n 0, 1) := by decide +kernel
theorem dL_law_392 : decode cL_law 392 = .ok (.iload_n 3, 1) := by decide +kernel
theorem dL_law_393 : decode cL_law 393 = .ok (.iconst 2, 1) := by decide +kernel
theorem dL_law_394 : decode cL_law 394 = .ok (.iadd, 1) := by decide +kernel
theorem dL_law_395 : decode cL_law 395 = .ok (.iaload, 1) := by decide +kernel
theorem dL_law_396 : decode cL_law 396 = .ok (.invokevirtual 55, 3) := by decide +kernel
theorem dL_law_399 : decode cL_law 399 = .ok (.if_icmp .eq 502, 3) := by decide +kernel
theorem dL_law_402 : decode cL_law 402 = .ok (.iconst 0, 1) := by decide +kernel
theorem dL_law_403 : decode cL_law 403 = .ok (.ireturn, 1) := by decide +kernel
theorem dL_law_404 : decode cL_law 404 = .ok (.aload_n 1, 1) := by decide +kernel
theorem dL_law_405 : decode cL_law 405 = .ok (.aload_n 0, 1) := by decide +kernel
theorem dL_law_406 : decode cL_law 406 = .ok (.iload_n 3, 1) := by decide +kernel
theorem dL_law_407 : decode cL_law 407 = .ok (.iconst 1, 1) := by decide +kernel
theorem dL_law_408 : decode cL_law 408 = .ok (.iadd, 1) := by decide +kernel
theorem dL_law_409 : decode cL_law 409 = .ok (.iaload, 1) := by decide +kernel
theorem dL_law_410 : decode cL_law 410 = .ok (.invokevirtual 56, 3) := by decide +kernel
theorem dL_law_413 : decode cL_law 413 = .ok (.aload_n 2, 1) := by decide +kernel
theorem dL_law_414 : decode cL_law 414 = .ok (.aload_n 0, 1) := by decide +kernel
theorem dL_law_415 : decode cL_law 415 = .ok (.iload_n 3, 1) := by decide +kernel
theorem dL_law_416 : decode cL_law 416 = .ok (.iconst 1, 1) := by decide +kernel
theorem dL_law_417 : decode cL_law 417 = .ok (.iadd, 1) := by decide +kernel
theorem dL_law_418 : decode cL_law 418 = .ok (.iaload, 1) := by decide +kernel
theorem dL_law_419 : decode cL_law 419 = .ok (.invokevirtual 59, 3) := by decide +kernel
theorem dL_law_422 : decode cL_law 422 = .ok (.if_icmp .eq 479, 3) := by decide +kernel
theorem dL_law_425 : decode cL_law 425 = .ok (.iconst 0, 1) := by decide +kernel
theorem dL_law_426 : decode cL_law 426 = .ok (.ireturn, 1) := by decide +kernel
theorem dL_law_427 : decode cL_law 427 = .ok (.aload_n 1, 1) := by decide +kernel
theorem dL_law_428 : decode cL_law 428 = .ok (.aload_n 0, 1) := by decide +kernel
theorem dL_law_429 : decode cL_law 429 = .ok (.iload_n 3, 1) := by decide +kernel
theorem dL_law_430 : decode cL_law 430 = .ok (.iconst 1, 1) := by decide +kernel
theorem dL_law_431 : decode cL_law 431 = .ok (.iadd, 1) := by decide +kernel
theorem dL_law_432 : decode cL_law 432 = .ok (.iaload, 1) := by decide +kernel
theorem dL_law_433 : decode cL_law 433 = .ok (.aload_n 0, 1) := by decide +kernel
theorem dL_law_434 : decode cL_law 434 = .ok (.iload_n 3, 1) := by decide +kernel
theorem dL_law_435 : decode cL_law 435 = .ok (.iconst 2, 1) := by decide +kernel
theorem dL_law_436 : decode cL_law 436 = .ok (.iadd, 1) := by decide +kernel
theorem dL_law_437 : decode cL_law 437 = .ok (.iaload, 1) := by decide +kernel
theorem dL_law_438 : decode cL_law 438 = .ok (.aload_n 0, 1) := by decide +kernel
theorem dL_law_439 : decode cL_law 439 = .ok (.iload_n 3, 1) := by decide +kernel
theorem dL_law_440 : decode cL_law 440 = .ok (.iconst 3, 1) := by decide +kernel
theorem dL_law_441 : decode cL_law 441 = .ok (.iadd, 1) := by decide +kernel
theorem dL_law_442 : decode cL_law 442 = .ok (.iaload, 1) := by decide +kernel
theorem dL_law_443 : decode cL_law 443 = .ok (.invokevirtual 60, 3) := by decide +kernel
theorem dL_law_446 : decode cL_law 446 = .ok (.aload_n 2, 1) := by decide +kernel
theorem dL_law_447 : decode cL_law 447 = .ok (.aload_n 0, 1) := by decide +kernel
theorem dL_law_448 : decode cL_law 448 = .ok (.iload_n 3, 1) := by decide +kernel
theorem dL_law_449 : decode cL_law 449 = .ok (.iconst 1, 1) := by decide +kernel
theorem dL_law_450 : decode cL_law 450 = .ok (.iadd, 1) := by decide +kernel
theorem dL_law_451 : decode cL_law 451 = .ok (.iaload, 1) := by decide +kernel
theorem dL_law_452 : decode cL_law 452 = .ok (.aload_n 0, 1) := by decide +kernel
theorem dL_law_453 : decode cL_law 453 = .ok (.iload_n 3, 1) := by decide +kernel
theorem dL_law_454 : decode cL_law 454 = .ok (.iconst 2, 1) := by decide +kernel
theorem dL_law_455 : decode cL_law 455 = .ok (.iadd, 1) := by decide +kernel
theorem dL_law_456 : decode cL_law 456 = .ok (.iaload, 1) := by decide +kernel
theorem dL_law_457 : decode cL_law 457 = .ok (.aload_n 0, 1) := by decide +kernel
theorem dL_law_458 : decode cL_law 458 = .ok (.iload_n 3, 1) := by decide +kernel
theorem dL_law_459 : decode cL_law 459 = .ok (.iconst 3, 1) := by decide +kernel
theorem dL_law_460 : decode cL_law 460 = .ok (.iadd, 1) := by decide +kernel
theorem dL_law_461 : decode cL_law 461 = .ok (.iaload, 1) := by decide +kernel
theorem dL_law_462 : decode cL_law 462 = .ok (.invokevirtual 64, 3) := by decide +kernel
theorem dL_law_465 : decode cL_law 465 = .ok (.if_icmp .eq 436, 3) := by decide +kernel
theorem dL_law_468 : decode cL_law 468 = .ok (.iconst 0, 1) := by decide +kernel
theorem dL_law_469 : decode cL_law 469 = .ok (.ireturn, 1) := by decide +kernel
theorem dL_law_470 : decode cL_law 470 = .ok (.aload_n 1, 1) := by decide +kernel
theorem dL_law_471 : decode cL_law 471 = .ok (.aload_n 0, 1) := by decide +kernel
theorem dL_law_472 : decode cL_law 472 = .ok (.iload_n 3, 1) := by decide +kernel
theorem dL_law_473 : decode cL_law 473 = .ok (.iconst 1, 1) := by decide +kernel
theorem dL_law_474 : decode cL_law 474 = .ok (.iadd, 1) := by decide +kernel
theorem dL_law_475 : decode cL_law 475 = .ok (.iaload, 1) := by decide +kernel
theorem dL_law_476 : decode cL_law 476 = .ok (.aload_n 0, 1) := by decide +kernel
theorem dL_law_477 : decode cL_law 477 = .ok (.iload_n 3, 1) := by decide +kernel
theorem dL_law_478 : decode cL_law 478 = .ok (.iconst 2, 1) := by decide +kernel
theorem dL_law_479 : decode cL_law 479 = .ok (.iadd, 1) := by decide +kernel
theorem dL_law_480 : decode cL_law 480 = .ok (.iaload, 1) := by decide +kernel
theorem dL_law_481 : decode cL_law 481 = .ok (.invokevirtual 65, 3) := by decide +kernel
theorem dL_law_484 : decode cL_law 484 = .ok (.aload_n 2, 1) := by decide +kernel
theorem dL_law_485 : decode cL_law 485 = .ok (.aload_n 0, 1) := by decide +kernel
theorem dL_law_486 : decode cL_law 486 = .ok (.iload_n 3, 1) := by decide +kernel
theorem dL_law_487 : decode cL_law 487 = .ok (.iconst 1, 1) := by decide +kernel
theorem dL_law_488 : decode cL_law 488 = .ok (.iadd, 1) := by decide +kernel
theorem dL_law_489 : decode cL_law 489 = .ok (.iaload, 1) := by decide +kernel
theorem dL_law_490 : decode cL_law 490 = .ok (.aload_n 0, 1) := by decide +kernel
theorem dL_law_491 : decode cL_law 491 = .ok (.iload_n 3, 1) := by decide +kernel
theorem dL_law_492 : decode cL_law 492 = .ok (.iconst 2, 1) := by decide +kernel
theorem dL_law_493 : decode cL_law 493 = .ok (.iadd, 1) := by decide +kernel
theorem dL_law_494 : decode cL_law 494 = .ok (.iaload, 1) := by decide +kernel
theorem dL_law_495 : decode cL_law 495 = .ok (.invokevirtual 68, 3) := by decide +kernel
theorem dL_law_498 : decode cL_law 498 = .ok (.if_icmp .eq 403, 3) := by decide +kernel
theorem dL_law_501 : decode cL_law 501 = .ok (.iconst 0, 1) := by decide +kernel
theorem dL_law_502 : decode cL_law 502 = .ok (.ireturn, 1) := by decide +kernel
theorem dL_law_503 : decode cL_law 503 = .ok (.aload_n 1, 1) := by decide +kernel
theorem dL_law_504 : decode cL_law 504 = .ok (.aload_n 0, 1) := by decide +kernel
theorem dL_law_505 : decode cL_law 505 = .ok (.iload_n 3, 1) := by decide +kernel
theorem dL_law_506 : decode cL_law 506 = .ok (.iconst 1, 1) := by decide +kernel
theorem dL_law_507 : decode cL_law 507 = .ok (.iadd, 1) := by decide +kernel
theorem dL_law_508 : decode cL_law 508 = .ok (.iaload, 1) := by decide +kernel
theorem dL_law_509 : decode cL_law 509 = .ok (.invokevirtual 69, 3) := by decide +kernel
theorem dL_law_512 : decode cL_law 512 = .ok (.aload_n 2, 1) := by decide +kernel
theorem dL_law_513 : decode cL_law 513 = .ok (.aload_n 0, 1) := by decide +kernel
theorem dL_law_514 : decode cL_law 514 = .ok (.iload_n 3, 1) := by decide +kernel
theorem dL_law_515 : decode cL_law 515 = .ok (.iconst 1, 1) := by decide +kernel
theorem dL_law_516 : decode cL_law 516 = .ok (.iadd, 1) := by decide +kernel
theorem dL_law_517 : decode cL_law 517 = .ok (.iaload, 1) := by decide +kernel
theorem dL_law_518 : decode cL_law 518 = .ok (.invokevirtual 72, 3) := by decide +kernel
theorem dL_law_521 : decode cL_law 521 = .ok (.if_icmp .eq 380, 3) := by decide +kernel
theorem dL_law_524 : decode cL_law 524 = .ok (.iconst 0, 1) := by decide +kernel
theorem dL_law_525 : decode cL_law 525 = .ok (.ireturn, 1) := by decide +kernel
theorem dL_law_526 : decode cL_law 526 = .ok (.aload_n 1, 1) := by decide +kernel
theorem dL_law_527 : decode cL_law 527 = .ok (.invokevirtual 73, 3) := by decide +kernel
theorem dL_law_530 : decode cL_law 530 = .ok (.aload_n 2, 1) := by decide +kernel
theorem dL_law_531 : decode cL_law 531 = .ok (.invokevirtual 76, 3) := by decide +kernel
theorem dL_law_534 : decode cL_law 534 = .ok (.if_icmp .eq 367, 3) := by decide +kernel
theorem dL_law_537 : decode cL_law 537 = .ok (.iconst 0, 1) := by decide +kernel
theorem dL_law_538 : decode cL_law 538 = .ok (.ireturn, 1) := by decide +kernel
theorem dL_law_539 : decode cL_law 539 = .ok (.aload_n 1, 1) := by decide +kernel
theorem dL_law_540 : decode cL_law 540 = .ok (.aload_n 0, 1) := by decide +kernel
theorem dL_law_541 : decode cL_law 541 = .ok (.iload_n 3, 1) := by decide +kernel
theorem dL_law_542 : decode cL_law 542 = .ok (.iconst 1, 1) := by decide +kernel
theorem dL_law_543 : decode cL_law 543 = .ok (.iadd, 1) := by decide +kernel
theorem dL_law_544 : decode cL_law 544 = .ok (.iaload, 1) := by decide +kernel
theorem dL_law_545 : decode cL_law 545 = .ok (.invokevirtual 77, 3) := by decide +kernel
theorem dL_law_548 : decode cL_law 548 = .ok (.aload_n 2, 1) := by decide +kernel
theorem dL_law_549 : decode cL_law 549 = .ok (.aload_n 0, 1) := by decide +kernel
theorem dL_law_550 : decode cL_law 550 = .ok (.iload_n 3, 1) := by decide +kernel
theorem dL_law_551 : decode cL_law 551 = .ok (.iconst 1, 1) := by decide +kernel
theorem dL_law_552 : decode cL_law 552 = .ok (.iadd, 1) := by decide +kernel
theorem dL_law_553 : decode cL_law 553 = .ok (.iaload, 1) := by decide +kernel
theorem dL_law_554 : decode cL_law 554 = .ok (.invokevirtual 80, 3) := by decide +kernel
theorem dL_law_557 : decode cL_law 557 = .ok (.if_icmp .eq 344, 3) := by decide +kernel
theorem dL_law_560 : decode cL_law 560 = .ok (.iconst 0, 1) := by decide +kernel
theorem dL_law_561 : decode cL_law 561 = .ok (.ireturn, 1) := by decide +kernel
theorem dL_law_562 : decode cL_law 562 = .ok (.aload_n 1, 1) := by decide +kernel
theorem dL_law_563 : decode cL_law 563 = .ok (.aload_n 0, 1) := by decide +kernel
theorem dL_law_564 : decode cL_law 564 = .ok (.iload_n 3, 1) := by decide +kernel
theorem dL_law_565 : decode cL_law 565 = .ok (.iconst 1, 1) := by decide +kernel
theorem dL_law_566 : decode cL_law 566 = .ok (.iadd, 1) := by decide +kernel
theorem dL_law_567 : decode cL_law 567 = .ok (.iaload, 1) := by decide +kernel
theorem dL_law_568 : decode cL_law 568 = .ok (.invokevirtual 81, 3) := by decide +kernel
theorem dL_law_571 : decode cL_law 571 = .ok (.aload_n 2, 1) := by decide +kernel
theorem dL_law_572 : decode cL_law 572 = .ok (.aload_n 0, 1) := by decide +kernel
theorem dL_law_573 : decode cL_law 573 = .ok (.iload_n 3, 1) := by decide +kernel
theorem dL_law_574 : decode cL_law 574 = .ok (.iconst 1, 1) := by decide +kernel
theorem dL_law_575 : decode cL_law 575 = .ok (.iadd, 1) := by decide +kernel
theorem dL_law_576 : decode cL_law 576 = .ok (.iaload, 1) := by decide +kernel
theorem dL_law_577 : decode cL_law 577 = .ok (.invokevirtual 84, 3) := by decide +kernel
theorem dL_law_580 : decode cL_law 580 = .ok (.if_icmp .eq 321, 3) := by decide +kernel
theorem dL_law_583 : decode cL_law 583 = .ok (.iconst 0, 1) := by decide +kernel
theorem dL_law_584 : decode cL_law 584 = .ok (.ireturn, 1) := by decide +kernel
theorem dL_law_585 : decode cL_law 585 = .ok (.aload_n 1, 1) := by decide +kernel
theorem dL_law_586 : decode cL_law 586 = .ok (.aload_n 0, 1) := by decide +kernel
theorem dL_law_587 : decode cL_law 587 = .ok (.iload_n 3, 1) := by decide +kernel
theorem dL_law_588 : decode cL_law 588 = .ok (.iconst 1, 1) := by decide +kernel
theorem dL_law_589 : decode cL_law 589 = .ok (.iadd, 1) := by decide +kernel
theorem dL_law_590 : decode cL_law 590 = .ok (.iaload, 1) := by decide +kernel
theorem dL_law_591 : decode cL_law 591 = .ok (.invokevirtual 85, 3) := by decide +kernel
theorem dL_law_594 : decode cL_law 594 = .ok (.aload_n 2, 1) := by decide +kernel
theorem dL_law_595 : decode cL_law 595 = .ok (.aload_n 0, 1) := by decide +kernel
theorem dL_law_596 : decode cL_law 596 = .ok (.iload_n 3, 1) := by decide +kernel
theorem dL_law_597 : decode cL_law 597 = .ok (.iconst 1, 1) := by decide +kernel
theorem dL_law_598 : decode cL_law 598 = .ok (.iadd, 1) := by decide +kernel
theorem dL_law_599 : decode cL_law 599 = .ok (.iaload, 1) := by decide +kernel
theorem dL_law_600 : decode cL_law 600 = .ok (.invokevirtual 88, 3) := by decide +kernel
theorem dL_law_603 : decode cL_law 603 = .ok (.if_icmp .eq 298, 3) := by decide +kernel
theorem dL_law_606 : decode cL_law 606 = .ok (.iconst 0, 1) := by decide +kernel
theorem dL_law_607 : decode cL_law 607 = .ok (.ireturn, 1) := by decide +kernel
theorem dL_law_608 : decode cL_law 608 = .ok (.aload_n 1, 1) := by decide +kernel
theorem dL_law_609 : decode cL_law 609 = .ok (.aload_n 0, 1) := by decide +kernel
theorem dL_law_610 : decode cL_law 610 = .ok (.iload_n 3, 1) := by decide +kernel
theorem dL_law_611 : decode cL_law 611 = .ok (.iconst 1, 1) := by decide +kernel
theorem dL_law_612 : decode cL_law 612 = .ok (.iadd, 1) := by decide +kernel
theorem dL_law_613 : decode cL_law 613 = .ok (.iaload, 1) := by decide +kernel
theorem dL_law_614 : decode cL_law 614 = .ok (.invokevirtual 89, 3) := by decide +kernel
theorem dL_law_617 : decode cL_law 617 = .ok (.aload_n 2, 1) := by decide +kernel
theorem dL_law_618 : decode cL_law 618 = .ok (.aload_n 0, 1) := by decide +kernel
theorem dL_law_619 : decode cL_law 619 = .ok (.iload_n 3, 1) := by decide +kernel
theorem dL_law_620 : decode cL_law 620 = .ok (.iconst 1, 1) := by decide +kernel
theorem dL_law_621 : decode cL_law 621 = .ok (.iadd, 1) := by decide +kernel
theorem dL_law_622 : decode cL_law 622 = .ok (.iaload, 1) := by decide +kernel
theorem dL_law_623 : decode cL_law 623 = .ok (.invokevirtual 92, 3) := by decide +kernel
theorem dL_law_626 : decode cL_law 626 = .ok (.if_icmp .eq 275, 3) := by decide +kernel
theorem dL_law_629 : decode cL_law 629 = .ok (.iconst 0, 1) := by decide +kernel
theorem dL_law_630 : decode cL_law 630 = .ok (.ireturn, 1) := by decide +kernel
theorem dL_law_631 : decode cL_law 631 = .ok (.aload_n 1, 1) := by decide +kernel
theorem dL_law_632 : decode cL_law 632 = .ok (.aload_n 0, 1) := by decide +kernel
theorem dL_law_633 : decode cL_law 633 = .ok (.iload_n 3, 1) := by decide +kernel
theorem dL_law_634 : decode cL_law 634 = .ok (.iconst 1, 1) := by decide +kernel
theorem dL_law_635 : decode cL_law 635 = .ok (.iadd, 1) := by decide +kernel
theorem dL_law_636 : decode cL_law 636 = .ok (.iaload, 1) := by decide +kernel
theorem dL_law_637 : decode cL_law 637 = .ok (.aload_n 0, 1) := by decide +kernel
theorem dL_law_638 : decode cL_law 638 = .ok (.iload_n 3, 1) := by decide +kernel
theorem dL_law_639 : decode cL_law 639 = .ok (.iconst 2, 1) := by decide +kernel
theorem dL_law_640 : decode cL_law 640 = .ok (.iadd, 1) := by decide +kernel
theorem dL_law_641 : decode cL_law 641 = .ok (.iaload, 1) := by decide +kernel
theorem dL_law_642 : decode cL_law 642 = .ok (.invokevirtual 93, 3) := by decide +kernel
theorem dL_law_645 : decode cL_law 645 = .ok (.aload_n 2, 1) := by decide +kernel
theorem dL_law_646 : decode cL_law 646 = .ok (.aload_n 0, 1) := by decide +kernel
theorem dL_law_647 : decode cL_law 647 = .ok (.iload_n 3, 1) := by decide +kernel
theorem dL_law_648 : decode cL_law 648 = .ok (.iconst 1, 1) := by decide +kernel
theorem dL_law_649 : decode cL_law 649 = .ok (.iadd, 1) := by decide +kernel
theorem dL_law_650 : decode cL_law 650 = .ok (.iaload, 1) := by decide +kernel
theorem dL_law_651 : decode cL_law 651 = .ok (.aload_n 0, 1) := by decide +kernel
theorem dL_law_652 : decode cL_law 652 = .ok (.iload_n 3, 1) := by decide +kernel
theorem dL_law_653 : decode cL_law 653 = .ok (.iconst 2, 1) := by decide +kernel
theorem dL_law_654 : decode cL_law 654 = .ok (.iadd, 1) := by decide +kernel
theorem dL_law_655 : decode cL_law 655 = .ok (.iaload, 1) := by decide +kernel
theorem dL_law_656 : decode cL_law 656 = .ok (.invokevirtual 96, 3) := by decide +kernel
theorem dL_law_659 : decode cL_law 659 = .ok (.if_icmp .eq 242, 3) := by decide +kernel
theorem dL_law_662 : decode cL_law 662 = .ok (.iconst 0, 1) := by decide +kernel
theorem dL_law_663 : decode cL_law 663 = .ok (.ireturn, 1) := by decide +kernel
theorem dL_law_664 : decode cL_law 664 = .ok (.aload_n 1, 1) := by decide +kernel
theorem dL_law_665 : decode cL_law 665 = .ok (.aload_n 0, 1) := by decide +kernel
theorem dL_law_666 : decode cL_law 666 = .ok (.iload_n 3, 1) := by decide +kernel
theorem dL_law_667 : decode cL_law 667 = .ok (.iconst 1, 1) := by decide +kernel
theorem dL_law_668 : decode cL_law 668 = .ok (.iadd, 1) := by decide +kernel
theorem dL_law_669 : decode cL_law 669 = .ok (.iaload, 1) := by decide +kernel
theorem dL_law_670 : decode cL_law 670 = .ok (.invokevirtual 97, 3) := by decide +kernel
theorem dL_law_673 : decode cL_law 673 = .ok (.aload_n 2, 1) := by decide +kernel
theorem dL_law_674 : decode cL_law 674 = .ok (.aload_n 0, 1) := by decide +kernel
theorem dL_law_675 : decode cL_law 675 = .ok (.iload_n 3, 1) := by decide +kernel
theorem dL_law_676 : decode cL_law 676 = .ok (.iconst 1, 1) := by decide +kernel
theorem dL_law_677 : decode cL_law 677 = .ok (.iadd, 1) := by decide +kernel
theorem dL_law_678 : decode cL_law 678 = .ok (.iaload, 1) := by decide +kernel
theorem dL_law_679 : decode cL_law 679 = .ok (.invokevirtual 100, 3) := by decide +kernel
theorem dL_law_682 : decode cL_law 682 = .ok (.if_icmp .eq 219, 3) := by decide +kernel
theorem dL_law_685 : decode cL_law 685 = .ok (.iconst 0, 1) := by decide +kernel
theorem dL_law_686 : decode cL_law 686 = .ok (.ireturn, 1) := by decide +kernel
theorem dL_law_687 : decode cL_law 687 = .ok (.aload_n 1, 1) := by decide +kernel
theorem dL_law_688 : decode cL_law 688 = .ok (.aload_n 0, 1) := by decide +kernel
theorem dL_law_689 : decode cL_law 689 = .ok (.iload_n 3, 1) := by decide +kernel
theorem dL_law_690 : decode cL_law 690 = .ok (.iconst 1, 1) := by decide +kernel
theorem dL_law_691 : decode cL_law 691 = .ok (.iadd, 1) := by decide +kernel
theorem dL_law_692 : decode cL_law 692 = .ok (.iaload, 1) := by decide +kernel
theorem dL_law_693 : decode cL_law 693 = .ok (.invokevirtual 101, 3) := by decide +kernel
theorem dL_law_696 : decode cL_law 696 = .ok (.aload_n 2, 1) := by decide +kernel
theorem dL_law_697 : decode cL_law 697 = .ok (.aload_n 0, 1) := by decide +kernel
theorem dL_law_698 : decode cL_law 698 = .ok (.iload_n 3, 1) := by decide +kernel
theorem dL_law_699 : decode cL_law 699 = .ok (.iconst 1, 1) := by decide +kernel
theorem dL_law_700 : decode cL_law 700 = .ok (.iadd, 1) := by decide +kernel
theorem dL_law_701 : decode cL_law 701 = .ok (.iaload, 1) := by decide +kernel
theorem dL_law_702 : decode cL_law 702 = .ok (.invokevirtual 104, 3) := by decide +kernel
theorem dL_law_705 : decode cL_law 705 = .ok (.if_icmp .eq 196, 3) := by decide +kernel
theorem dL_law_708 : decode cL_law 708 = .ok (.iconst 0, 1) := by decide +kernel
theorem dL_law_709 : decode cL_law 709 = .ok (.ireturn, 1) := by decide +kernel
theorem dL_law_710 : decode cL_law 710 = .ok (.aload_n 1, 1) := by decide +kernel
theorem dL_law_711 : decode cL_law 711 = .ok (.aload_n 0, 1) := by decide +kernel
theorem dL_law_712 : decode cL_law 712 = .ok (.iload_n 3, 1) := by decide +kernel
theorem dL_law_713 : decode cL_law 713 = .ok (.iconst 1, 1) := by decide +kernel
theorem dL_law_714 : decode cL_law 714 = .ok (.iadd, 1) := by decide +kernel
theorem dL_law_715 : decode cL_law 715 = .ok (.iaload, 1) := by decide +kernel
theorem dL_law_716 : decode cL_law 716 = .ok (.invokevirtual 105, 3) := by decide +kernel
theorem dL_law_719 : decode cL_law 719 = .ok (.aload_n 2, 1) := by decide +kernel
theorem dL_law_720 : decode cL_law 720 = .ok (.aload_n 0, 1) := by decide +kernel
theorem dL_law_721 : decode cL_law 721 = .ok (.iload_n 3, 1) := by decide +kernel
theorem dL_law_722 : decode cL_law 722 = .ok (.iconst 1, 1) := by decide +kernel
theorem dL_law_723 : decode cL_law 723 = .ok (.iadd, 1) := by decide +kernel
theorem dL_law_724 : decode cL_law 724 = .ok (.iaload, 1) := by decide +kernel
theorem dL_law_725 : decode cL_law 725 = .ok (.invokevirtual 108, 3) := by decide +kernel
theorem dL_law_728 : decode cL_law 728 = .ok (.if_icmp .eq 173, 3) := by decide +kernel
theorem dL_law_731 : decode cL_law 731 = .ok (.iconst 0, 1) := by decide +kernel
theorem dL_law_732 : decode cL_law 732 = .ok (.ireturn, 1) := by decide +kernel
theorem dL_law_733 : decode cL_law 733 = .ok (.aload_n 1, 1) := by decide +kernel
theorem dL_law_734 : decode cL_law 734 = .ok (.aload_n 0, 1) := by decide +kernel
theorem dL_law_735 : decode cL_law 735 = .ok (.iload_n 3, 1) := by decide +kernel
theorem dL_law_736 : decode cL_law 736 = .ok (.iconst 1, 1) := by decide +kernel
theorem dL_law_737 : decode cL_law 737 = .ok (.iadd, 1) := by decide +kernel
theorem dL_law_738 : decode cL_law 738 = .ok (.iaload, 1) := by decide +kernel
theorem dL_law_739 : decode cL_law 739 = .ok (.aload_n 0, 1) := by decide +kernel
theorem dL_law_740 : decode cL_law 740 = .ok (.iload_n 3, 1) := by decide +kernel
theorem dL_law_741 : decode cL_law 741 = .ok (.iconst 2, 1) := by decide +kernel
theorem dL_law_742 : decode cL_law 742 = .ok (.iadd, 1) := by decide +kernel
theorem dL_law_743 : decode cL_law 743 = .ok (.iaload, 1) := by decide +kernel
theorem dL_law_744 : decode cL_law 744 = .ok (.aload_n 0, 1) := by decide +kernel
theorem dL_law_745 : decode cL_law 745 = .ok (.iload_n 3, 1) := by decide +kernel
theorem dL_law_746 : decode cL_law 746 = .ok (.iconst 3, 1) := by decide +kernel
theorem dL_law_747 : decode cL_law 747 = .ok (.iadd, 1) := by decide +kernel
theorem dL_law_748 : decode cL_law 748 = .ok (.iaload, 1) := by decide +kernel
theorem dL_law_749 : decode cL_law 749 = .ok (.invokevirtual 109, 3) := by decide +kernel
theorem dL_law_752 : decode cL_law 752 = .ok (.aload_n 2, 1) := by decide +kernel
theorem dL_law_753 : decode cL_law 753 = .ok (.aload_n 0, 1) := by decide +kernel
theorem dL_law_754 : decode cL_law 754 = .ok (.iload_n 3, 1) := by decide +kernel
theorem dL_law_755 : decode cL_law 755 = .ok (.iconst 1, 1) := by decide +kernel
theorem dL_law_756 : decode cL_law 756 = .ok (.iadd, 1) := by decide +kernel
theorem dL_law_757 : decode cL_law 757 = .ok (.iaload, 1) := by decide +kernel
theorem dL_law_758 : decode cL_law 758 = .ok (.aload_n 0, 1) := by decide +kernel
theorem dL_law_759 : decode cL_law 759 = .ok (.iload_n 3, 1) := by decide +kernel
theorem dL_law_760 : decode cL_law 760 = .ok (.iconst 2, 1) := by decide +kernel
theorem dL_law_761 : decode cL_law 761 = .ok (.iadd, 1) := by decide +kernel
theorem dL_law_762 : decode cL_law 762 = .ok (.iaload, 1) := by decide +kernel
theorem dL_law_763 : decode cL_law 763 = .ok (.aload_n 0, 1) := by decide +kernel
theorem dL_law_764 : decode cL_law 764 = .ok (.iload_n 3, 1) := by decide +kernel
theorem dL_law_765 : decode cL_law 765 = .ok (.iconst 3, 1) := by decide +kernel
theorem dL_law_766 : decode cL_law 766 = .ok (.iadd, 1) := by decide +kernel
theorem dL_law_767 : decode cL_law 767 = .ok (.iaload, 1) := by decide +kernel
theorem dL_law_768 : decode cL_law 768 = .ok (.invokevirtual 112, 3) := by decide +kernel
theorem dL_law_771 : decode cL_law 771 = .ok (.if_icmp .eq 130, 3) := by decide +kernel
theorem dL_law_774 : decode cL_law 774 = .ok (.iconst 0, 1) := by decide +kernel
theorem dL_law_775 : decode cL_law 775 = .ok (.ireturn, 1) := by decide +kernel
theorem dL_law_776 : decode cL_law 776 = .ok (.aload_n 1, 1) := by decide +kernel
theorem dL_law_777 : decode cL_law 777 = .ok (.aload_n 0, 1) := by decide +kernel
theorem dL_law_778 : decode cL_law 778 = .ok (.iload_n 3, 1) := by decide +kernel
theorem dL_law_779 : decode cL_law 779 = .ok (.iconst 1, 1) := by decide +kernel
theorem dL_law_780 : decode cL_law 780 = .ok (.iadd, 1) := by decide +kernel
theorem dL_law_781 : decode cL_law 781 = .ok (.iaload, 1) := by decide +kernel
theorem dL_law_782 : decode cL_law 782 = .ok (.aload_n 0, 1) := by decide +kernel
theorem dL_law_783 : decode cL_law 783 = .ok (.iload_n 3, 1) := by decide +kernel
theorem dL_law_784 : decode cL_law 784 = .ok (.iconst 2, 1) := by decide +kernel
theorem dL_law_785 : decode cL_law 785 = .ok (.iadd, 1) := by decide +kernel
theorem dL_law_786 : decode cL_law 786 = .ok (.iaload, 1) := by decide +kernel
theorem dL_law_787 : decode cL_law 787 = .ok (.invokevirtual 113, 3) := by decide +kernel
theorem dL_law_790 : decode cL_law 790 = .ok (.aload_n 2, 1) := by decide +kernel
theorem dL_law_791 : decode cL_law 791 = .ok (.aload_n 0, 1) := by decide +kernel
theorem dL_law_792 : decode cL_law 792 = .ok (.iload_n 3, 1) := by decide +kernel
theorem dL_law_793 : decode cL_law 793 = .ok (.iconst 1, 1) := by decide +kernel
theorem dL_law_794 : decode cL_law 794 = .ok (.iadd, 1) := by decide +kernel
theorem dL_law_795 : decode cL_law 795 = .ok (.iaload, 1) := by decide +kernel
theorem dL_law_796 : decode cL_law 796 = .ok (.aload_n 0, 1) := by decide +kernel
theorem dL_law_797 : decode cL_law 797 = .ok (.iload_n 3, 1) := by decide +kernel
theorem dL_law_798 : decode cL_law 798 = .ok (.iconst 2, 1) := by decide +kernel
theorem dL_law_799 : decode cL_law 799 = .ok (.iadd, 1) := by decide +kernel
theorem dL_law_800 : decode cL_law 800 = .ok (.iaload, 1) := by decide +kernel
theorem dL_law_801 : decode cL_law 801 = .ok (.invokevirtual 116, 3) := by decide +kernel
theorem dL_law_804 : decode cL_law 804 = .ok (.if_icmp .eq 97, 3) := by decide +kernel
theorem dL_law_807 : decode cL_law 807 = .ok (.iconst 0, 1) := by decide +kernel
theorem dL_law_808 : decode cL_law 808 = .ok (.ireturn, 1) := by decide +kernel
theorem dL_law_809 : decode cL_law 809 = .ok (.aload_n 1, 1) := by decide +kernel
theorem dL_law_810 : decode cL_law 810 = .ok (.aload_n 0, 1) := by decide +kernel
theorem dL_law_811 : decode cL_law 811 = .ok (.iload_n 3, 1) := by decide +kernel
theorem dL_law_812 : decode cL_law 812 = .ok (.iconst 1, 1) := by decide +kernel
theorem dL_law_813 : decode cL_law 813 = .ok (.iadd, 1) := by decide +kernel
theorem dL_law_814 : decode cL_law 814 = .ok (.iaload, 1) := by decide +kernel
theorem dL_law_815 : decode cL_law 815 = .ok (.invokevirtual 117, 3) := by decide +kernel
theorem dL_law_818 : decode cL_law 818 = .ok (.aload_n 2, 1) := by decide +kernel
theorem dL_law_819 : decode cL_law 819 = .ok (.aload_n 0, 1) := by decide +kernel
theorem dL_law_820 : decode cL_law 820 = .ok (.iload_n 3, 1) := by decide +kernel
theorem dL_law_821 : decode cL_law 821 = .ok (.iconst 1, 1) := by decide +kernel
theorem dL_law_822 : decode cL_law 822 = .ok (.iadd, 1) := by decide +kernel
theorem dL_law_823 : decode cL_law 823 = .ok (.iaload, 1) := by decide +kernel
theorem dL_law_824 : decode cL_law 824 = .ok (.invokevirtual 120, 3) := by decide +kernel
theorem dL_law_827 : decode cL_law 827 = .ok (.if_icmp .eq 74, 3) := by decide +kernel
theorem dL_law_830 : decode cL_law 830 = .ok (.iconst 0, 1) := by decide +kernel
theorem dL_law_831 : decode cL_law 831 = .ok (.ireturn, 1) := by decide +kernel
theorem dL_law_832 : decode cL_law 832 = .ok (.aload_n 1, 1) := by decide +kernel
theorem dL_law_833 : decode cL_law 833 = .ok (.aload_n 0, 1) := by decide +kernel
theorem dL_law_834 : decode cL_law 834 = .ok (.iload_n 3, 1) := by decide +kernel
theorem dL_law_835 : decode cL_law 835 = .ok (.iconst 1, 1) := by decide +kernel
theorem dL_law_836 : decode cL_law 836 = .ok (.iadd, 1) := by decide +kernel
theorem dL_law_837 : decode cL_law 837 = .ok (.iaload, 1) := by decide +kernel
theorem dL_law_838 : decode cL_law 838 = .ok (.invokevirtual 121, 3) := by decide +kernel
theorem dL_law_841 : decode cL_law 841 = .ok (.aload_n 2, 1) := by decide +kernel
theorem dL_law_842 : decode cL_law 842 = .ok (.aload_n 0, 1) := by decide +kernel
theorem dL_law_843 : decode cL_law 843 = .ok (.iload_n 3, 1) := by decide +kernel
theorem dL_law_844 : decode cL_law 844 = .ok (.iconst 1, 1) := by decide +kernel
theorem dL_law_845 : decode cL_law 845 = .ok (.iadd, 1) := by decide +kernel
theorem dL_law_846 : decode cL_law 846 = .ok (.iaload, 1) := by decide +kernel
theorem dL_law_847 : decode cL_law 847 = .ok (.invokevirtual 124, 3) := by decide +kernel
theorem dL_law_850 : decode cL_law 850 = .ok (.if_icmp .eq 51, 3) := by decide +kernel
theorem dL_law_853 : decode cL_law 853 = .ok (.iconst 0, 1) := by decide +kernel
theorem dL_law_854 : decode cL_law 854 = .ok (.ireturn, 1) := by decide +kernel
theorem dL_law_855 : decode cL_law 855 = .ok (.aload_n 1, 1) := by decide +kernel
theorem dL_law_856 : decode cL_law 856 = .ok (.aload_n 0, 1) := by decide +kernel
theorem dL_law_857 : decode cL_law 857 = .ok (.iload_n 3, 1) := by decide +kernel
theorem dL_law_858 : decode cL_law 858 = .ok (.iconst 1, 1) := by decide +kernel
theorem dL_law_859 : decode cL_law 859 = .ok (.iadd, 1) := by decide +kernel
theorem dL_law_860 : decode cL_law 860 = .ok (.iaload, 1) := by decide +kernel
theorem dL_law_861 : decode cL_law 861 = .ok (.invokevirtual 125, 3) := by decide +kernel
theorem dL_law_864 : decode cL_law 864 = .ok (.aload_n 2, 1) := by decide +kernel
theorem dL_law_865 : decode cL_law 865 = .ok (.aload_n 0, 1) := by decide +kernel
theorem dL_law_866 : decode cL_law 866 = .ok (.iload_n 3, 1) := by decide +kernel
theorem dL_law_867 : decode cL_law 867 = .ok (.iconst 1, 1) := by decide +kernel
theorem dL_law_868 : decode cL_law 868 = .ok (.iadd, 1) := by decide +kernel
theorem dL_law_869 : decode cL_law 869 = .ok (.iaload, 1) := by decide +kernel
theorem dL_law_870 : decode cL_law 870 = .ok (.invokevirtual 128, 3) := by decide +kernel
theorem dL_law_873 : decode cL_law 873 = .ok (.if_icmp .eq 28, 3) := by decide +kernel
theorem dL_law_876 : decode cL_law 876 = .ok (.iconst 0, 1) := by decide +kernel
theorem dL_law_877 : decode cL_law 877 = .ok (.ireturn, 1) := by decide +kernel
theorem dL_law_878 : decode cL_law 878 = .ok (.aload_n 1, 1) := by decide +kernel
theorem dL_law_879 : decode cL_law 879 = .ok (.aload_n 0, 1) := by decide +kernel
theorem dL_law_880 : decode cL_law 880 = .ok (.iload_n 3, 1) := by decide +kernel
theorem dL_law_881 : decode cL_law 881 = .ok (.iconst 1, 1) := by decide +kernel
theorem dL_law_882 : decode cL_law 882 = .ok (.iadd, 1) := by decide +kernel
theorem dL_law_883 : decode cL_law 883 = .ok (.iaload, 1) := by decide +kernel
theorem dL_law_884 : decode cL_law 884 = .ok (.invokevirtual 129, 3) := by decide +kernel
theorem dL_law_887 : decode cL_law 887 = .ok (.aload_n 2, 1) := by decide +kernel
theorem dL_law_888 : decode cL_law 888 = .ok (.aload_n 0, 1) := by decide +kernel
theorem dL_law_889 : decode cL_law 889 = .ok (.iload_n 3, 1) := by decide +kernel
theorem dL_law_890 : decode cL_law 890 = .ok (.iconst 1, 1) := by decide +kernel
theorem dL_law_891 : decode cL_law 891 = .ok (.iadd, 1) := by decide +kernel
theorem dL_law_892 : decode cL_law 892 = .ok (.iaload, 1) := by decide +kernel
theorem dL_law_893 : decode cL_law 893 = .ok (.invokevirtual 132, 3) := by decide +kernel
theorem dL_law_896 : decode cL_law 896 = .ok (.if_icmp .eq 5, 3) := by decide +kernel
theorem dL_law_899 : decode cL_law 899 = .ok (.iconst 0, 1) := by decide +kernel
theorem dL_law_900 : decode cL_law 900 = .ok (.ireturn, 1) := by decide +kernel
theorem dL_law_901 : decode cL_law 901 = .ok (.iinc 3 4, 3) := by decide +kernel
theorem dL_law_904 : decode cL_law 904 = .ok (.goto (-886), 3) := by decide +kernel
theorem dL_law_907 : decode cL_law 907 = .ok (.iconst 1, 1) := by decide +kernel
theorem dL_law_908 : decode cL_law 908 = .ok (.ireturn, 1) := by decide +kernel
end
section
theorem dX7_init_0 : decode cX7_init 0 = .ok (.aload_n 0, 1) := by decide +kernel
theorem dX7_init_1 : decode cX7_init 1 = .ok (.invokespecial 1, 3) := by decide +kernel
theorem dX7_init_4 : decode cX7_init 4 = .ok (.aload_n 0, 1) := by decide +kernel
theorem dX7_init_5 : decode cX7_init 5 = .ok (.bipush 8, 2) := by decide +kernel
theorem dX7_init_7 : decode cX7_init 7 = .ok (.newarray .int, 2) := by decide +kernel
theorem dX7_init_9 : decode cX7_init 9 = .ok (.putfield 7, 3) := by decide +kernel
theorem dX7_init_12 : decode cX7_init 12 = .ok (.aload_n 0, 1) := by decide +kernel
theorem dX7_init_13 : decode cX7_init 13 = .ok (.bipush 8, 2) := by decide +kernel
theorem dX7_init_15 : decode cX7_init 15 = .ok (.newarray .int, 2) := by decide +kernel
theorem dX7_init_17 : decode cX7_init 17 = .ok (.putfield 13, 3) := by decide +kernel
theorem dX7_init_20 : decode cX7_init 20 = .ok (.aload_n 0, 1) := by decide +kernel
theorem dX7_init_21 : decode cX7_init 21 = .ok (.bipush 6, 2) := by decide +kernel
theorem dX7_init_23 : decode cX7_init 23 = .ok (.newarray .int, 2) := by decide +kernel
theorem dX7_init_25 : decode cX7_init 25 = .ok (.putfield 16, 3) := by decide +kernel
theorem dX7_init_28 : decode cX7_init 28 = .ok (.aload_n 0, 1) := by decide +kernel
theorem dX7_init_29 : decode cX7_init 29 = .ok (.bipush 6, 2) := by decide +kernel
theorem dX7_init_31 : decode cX7_init 31 = .ok (.newarray .int, 2) := by decide +kernel
theorem dX7_init_33 : decode cX7_init 33 = .ok (.putfield 19, 3) := by decide +kernel
theorem dX7_init_36 : decode cX7_init 36 = .ok (.aload_n 0, 1) := by decide +kernel
theorem dX7_init_37 : decode cX7_init 37 = .ok (.bipush 24, 2) := by decide +kernel
theorem dX7_init_39 : decode cX7_init 39 = .ok (.newarray .int, 2) := by decide +kernel
theorem dX7_init_41 : decode cX7_init 41 = .ok (.putfield 22, 3) := by decide +kernel
theorem dX7_init_44 : decode cX7_init 44 = .ok (.aload_n 0, 1) := by decide +kernel
theorem dX7_init_45 : decode cX7_init 45 = .ok (.bipush 42, 2) := by decide +kernel
theorem dX7_init_47 : decode cX7_init 47 = .ok (.newarray .int, 2) := by decide +kernel
theorem dX7_init_49 : decode cX7_init 49 = .ok (.putfield 25, 3) := by decide +kernel
theorem dX7_init_52 : decode cX7_init 52 = .ok (.aload_n 0, 1) := by decide +kernel
theorem dX7_init_53 : decode cX7_init 53 = .ok (.sipush 160, 3) := by decide +kernel
theorem dX7_init_56 : decode cX7_init 56 = .ok (.newarray .int, 2) := by decide +kernel
theorem dX7_init_58 : decode cX7_init 58 = .ok (.putfield 28, 3) := by decide +kernel
theorem dX7_init_61 : decode cX7_init 61 = .ok (.aload_n 0, 1) := by decide +kernel
theorem dX7_init_62 : decode cX7_init 62 = .ok (.bipush 24, 2) := by decide +kernel
theorem dX7_init_64 : decode cX7_init 64 = .ok (.newarray .int, 2) := by decide +kernel
theorem dX7_init_66 : decode cX7_init 66 = .ok (.putfield 31, 3) := by decide +kernel
theorem dX7_init_69 : decode cX7_init 69 = .ok (.aload_n 0, 1) := by decide +kernel
theorem dX7_init_70 : decode cX7_init 70 = .ok (.bipush 8, 2) := by decide +kernel
theorem dX7_init_72 : decode cX7_init 72 = .ok (.newarray .int, 2) := by decide +kernel
theorem dX7_init_74 : decode cX7_init 74 = .ok (.putfield 34, 3) := by decide +kernel
theorem dX7_init_77 : decode cX7_init 77 = .ok (.aload_n 0, 1) := by decide +kernel
theorem dX7_init_78 : decode cX7_init 78 = .ok (.bipush 8, 2) := by decide +kernel
theorem dX7_init_80 : decode cX7_init 80 = .ok (.newarray .int, 2) := by decide +kernel
theorem dX7_init_82 : decode cX7_init 82 = .ok (.putfield 37, 3) := by decide +kernel
theorem dX7_init_85 : decode cX7_init 85 = .ok (.aload_n 0, 1) := by decide +kernel
theorem dX7_init_86 : decode cX7_init 86 = .ok (.bipush 6, 2) := by decide +kernel
theorem dX7_init_88 : decode cX7_init 88 = .ok (.newarray .int, 2) := by decide +kernel
theorem dX7_init_90 : decode cX7_init 90 = .ok (.putfield 40, 3) := by decide +kernel
theorem dX7_init_93 : decode cX7_init 93 = .ok (.aload_n 0, 1) := by decide +kernel
theorem dX7_init_94 : decode cX7_init 94 = .ok (.bipush 6, 2) := by decide +kernel
theorem dX7_init_96 : decode cX7_init 96 = .ok (.newarray .int, 2) := by decide +kernel
theorem dX7_init_98 : decode cX7_init 98 = .ok (.putfield 43, 3) := by decide +kernel
theorem dX7_init_101 : decode cX7_init 101 = .ok (.aload_n 0, 1) := by decide +kernel
theorem dX7_init_102 : decode cX7_init 102 = .ok (.sipush 336, 3) := by decide +kernel
theorem dX7_init_105 : decode cX7_init 105 = .ok (.newarray .int, 2) := by decide +kernel
theorem dX7_init_107 : decode cX7_init 107 = .ok (.putfield 46, 3) := by decide +kernel
theorem dX7_init_110 : decode cX7_init 110 = .ok (.aload_n 0, 1) := by decide +kernel
theorem dX7_init_111 : decode cX7_init 111 = .ok (.bipush 8, 2) := by decide +kernel
theorem dX7_init_113 : decode cX7_init 113 = .ok (.newarray .int, 2) := by decide +kernel
theorem dX7_init_115 : decode cX7_init 115 = .ok (.putfield 49, 3) := by decide +kernel
theorem dX7_init_118 : decode cX7_init 118 = .ok (.aload_n 0, 1) := by decide +kernel
theorem dX7_init_119 : decode cX7_init 119 = .ok (.bipush 6, 2) := by decide +kernel
theorem dX7_init_121 : decode cX7_init 121 = .ok (.newarray .int, 2) := by decide +kernel
theorem dX7_init_123 : decode cX7_init 123 = .ok (.putfield 52, 3) := by decide +kernel
theorem dX7_init_126 : decode cX7_init 126 = .ok (.aload_n 0, 1) := by decide +kernel
theorem dX7_init_127 : decode cX7_init 127 = .ok (.iconst 2, 1) := by decide +kernel
theorem dX7_init_128 : decode cX7_init 128 = .ok (.newarray .boolean, 2) := by decide +kernel
theorem dX7_init_130 : decode cX7_init 130 = .ok (.putfield 55, 3) := by decide +kernel
theorem dX7_init_133 : decode cX7_init 133 = .ok (.aload_n 0, 1) := by decide +kernel
theorem dX7_init_134 : decode cX7_init 134 = .ok (.bipush 84, 2) := by decide +kernel
theorem dX7_init_136 : decode cX7_init 136 = .ok (.newarray .int, 2) := by decide +kernel
theorem dX7_init_138 : decode cX7_init 138 = .ok (.putfield 59, 3) := by decide +kernel
theorem dX7_init_141 : decode cX7_init 141 = .ok (.aload_n 0, 1) := by decide +kernel
theorem dX7_init_142 : decode cX7_init 142 = .ok (.bipush 42, 2) := by decide +kernel
theorem dX7_init_144 : decode cX7_init 144 = .ok (.newarray .int, 2) := by decide +kernel
theorem dX7_init_146 : decode cX7_init 146 = .ok (.putfield 62, 3) := by decide +kernel
theorem dX7_init_149 : decode cX7_init 149 = .ok (.aload_n 0, 1) := by decide +kernel
theorem dX7_init_150 : decode cX7_init 150 = .ok (.bipush 6, 2) := by decide +kernel
theorem dX7_init_152 : decode cX7_init 152 = .ok (.newarray .int, 2) := by decide +kernel
theorem dX7_init_154 : decode cX7_init 154 = .ok (.putfield 65, 3) := by decide +kernel
theorem dX7_init_157 : decode cX7_init 157 = .ok (.aload_n 0, 1) := by decide +kernel
theorem dX7_init_158 : decode cX7_init 158 = .ok (.bipush 6, 2) := by decide +kernel
theorem dX7_init_160 : decode cX7_init 160 = .ok (.newarray .int, 2) := by decide +kernel
theorem dX7_init_162 : decode cX7_init 162 = .ok (.putfield 68, 3) := by decide +kernel
theorem dX7_init_165 : decode cX7_init 165 = .ok (.aload_n 0, 1) := by decide +kernel
theorem dX7_init_166 : decode cX7_init 166 = .ok (.sipush 2304, 3) := by decide +kernel
theorem dX7_init_169 : decode cX7_init 169 = .ok (.newarray .int, 2) := by decide +kernel
theorem dX7_init_171 : decode cX7_init 171 = .ok (.putfield 71, 3) := by decide +kernel
theorem dX7_init_174 : decode cX7_init 174 = .ok (.return_, 1) := by decide +kernel
theorem dX7_in_0 : decode cX7_in 0 = .ok (.lload_n 0, 1) := by decide +kernel
theorem dX7_in_1 : decode cX7_in 1 = .ok (.lload_n 2, 1) := by decide +kernel
theorem dX7_in_2 : decode cX7_in 2 = .ok (.lcmp, 1) := by decide +kernel
theorem dX7_in_3 : decode cX7_in 3 = .ok (.ifCond .lt 14, 3) := by decide +kernel
theorem dX7_in_6 : decode cX7_in 6 = .ok (.lload_n 0, 1) := by decide +kernel
theorem dX7_in_7 : decode cX7_in 7 = .ok (.lload 4, 2) := by decide +kernel
theorem dX7_in_9 : decode cX7_in 9 = .ok (.lcmp, 1) := by decide +kernel
theorem dX7_in_10 : decode cX7_in 10 = .ok (.ifCond .gt 7, 3) := by decide +kernel
theorem dX7_in_13 : decode cX7_in 13 = .ok (.iconst 1, 1) := by decide +kernel
theorem dX7_in_14 : decode cX7_in 14 = .ok (.goto 4, 3) := by decide +kernel
theorem dX7_in_17 : decode cX7_in 17 = .ok (.iconst 0, 1) := by decide +kernel
theorem dX7_in_18 : decode cX7_in 18 = .ok (.ireturn, 1) := by decide +kernel
theorem dX7_has_0 : decode cX7_has 0 = .ok (.iload_n 0, 1) := by decide +kernel
theorem dX7_has_1 : decode cX7_has 1 = .ok (.iload_n 1, 1) := by decide +kernel
theorem dX7_has_2 : decode cX7_has 2 = .ok (.ishr, 1) := by decide +kernel
theorem dX7_has_3 : decode cX7_has 3 = .ok (.iconst 1, 1) := by decide +kernel
theorem dX7_has_4 : decode cX7_has 4 = .ok (.iand, 1) := by decide +kernel
theorem dX7_has_5 : decode cX7_has 5 = .ok (.iconst 1, 1) := by decide +kernel
theorem dX7_has_6 : decode cX7_has 6 = .ok (.if_icmp .ne 7, 3) := by decide +kernel
theorem dX7_has_9 : decode cX7_has 9 = .ok (.iconst 1, 1) := by decide +kernel
theorem dX7_has_10 : decode cX7_has 10 = .ok (.goto 4, 3) := by decide +kernel
theorem dX7_has_13 : decode cX7_has 13 = .ok (.iconst 0, 1) := by decide +kernel
theorem dX7_has_14 : decode cX7_has 14 = .ok (.ireturn, 1) := by decide +kernel
theorem dX7_ones_0 : decode cX7_ones 0 = .ok (.iconst 0, 1) := by decide +kernel
theorem dX7_ones_1 : decode cX7_ones 1 = .ok (.istore_n 1, 1) := by decide +kernel
theorem dX7_ones_2 : decode cX7_ones 2 = .ok (.iload_n 0, 1) := by decide +kernel
theorem dX7_ones_3 : decode cX7_ones 3 = .ok (.istore_n 2, 1) := by decide +kernel
theorem dX7_ones_4 : decode cX7_ones 4 = .ok (.iload_n 2, 1) := by decide +kernel
theorem dX7_ones_5 : decode cX7_ones 5 = .ok (.ifCond .eq 15, 3) := by decide +kernel
theorem dX7_ones_8 : decode cX7_ones 8 = .ok (.iinc 1 1, 3) := by decide +kernel
theorem dX7_ones_11 : decode cX7_ones 11 = .ok (.iload_n 2, 1) := by decide +kernel
theorem dX7_ones_12 : decode cX7_ones 12 = .ok (.iload_n 2, 1) := by decide +kernel
theorem dX7_ones_13 : decode cX7_ones 13 = .ok (.iconst 1, 1) := by decide +kernel
theorem dX7_ones_14 : decode cX7_ones 14 = .ok (.isub, 1) := by decide +kernel
theorem dX7_ones_15 : decode cX7_ones 15 = .ok (.iand, 1) := by decide +kernel
theorem dX7_ones_16 : decode cX7_ones 16 = .ok (.istore_n 2, 1) := by decide +kernel
theorem dX7_ones_17 : decode cX7_ones 17 = .ok (.goto (-13), 3) := by decide +kernel
theorem dX7_ones_20 : decode cX7_ones 20 = .ok (.iload_n 1, 1) := by decide +kernel
theorem dX7_ones_21 : decode cX7_ones 21 = .ok (.ireturn, 1) := by decide +kernel
theorem dX7_isThread_0 : decode cX7_isThread 0 = .ok (.iload_n 1, 1) := by decide +kernel
theorem dX7_isThread_1 : decode cX7_isThread 1 = .ok (.i2l, 1) := by decide +kernel
theorem dX7_isThread_2 : decode cX7_isThread 2 = .ok (.lconst 0, 1) := by decide +kernel
theorem dX7_isThread_3 : decode cX7_isThread 3 = .ok (.aload_n 0, 1) := by decide +kernel
theorem dX7_isThread_4 : decode cX7_isThread 4 = .ok (.getfield 74, 3) := by decide +kernel
theorem dX7_isThread_7 : decode cX7_isThread 7 = .ok (.iconst 1, 1) := by decide +kernel
theorem dX7_isThread_8 : decode cX7_isThread 8 = .ok (.isub, 1) := by decide +kernel
theorem dX7_isThread_9 : decode cX7_isThread 9 = .ok (.i2l, 1) := by decide +kernel
theorem dX7_isThread_10 : decode cX7_isThread 10 = .ok (.invokestatic 78, 3) := by decide +kernel
theorem dX7_isThread_13 : decode cX7_isThread 13 = .ok (.ireturn, 1) := by decide +kernel
theorem dX7_write_0 : decode cX7_write 0 = .ok (.iload_n 1, 1) := by decide +kernel
theorem dX7_write_1 : decode cX7_write 1 = .ok (.i2l, 1) := by decide +kernel
theorem dX7_write_2 : decode cX7_write 2 = .ok (.lconst 0, 1) := by decide +kernel
theorem dX7_write_3 : decode cX7_write 3 = .ok (.ldc2_w 82, 3) := by decide +kernel
theorem dX7_write_6 : decode cX7_write 6 = .ok (.invokestatic 78, 3) := by decide +kernel
theorem dX7_write_9 : decode cX7_write 9 = .ok (.ifCond .ne 6, 3) := by decide +kernel
theorem dX7_write_12 : decode cX7_write 12 = .ok (.bipush (-3), 2) := by decide +kernel
theorem dX7_write_14 : decode cX7_write 14 = .ok (.ireturn, 1) := by decide +kernel
theorem dX7_write_15 : decode cX7_write 15 = .ok (.aload_n 0, 1) := by decide +kernel
theorem dX7_write_16 : decode cX7_write 16 = .ok (.getfield 84, 3) := by decide +kernel
theorem dX7_write_19 : decode cX7_write 19 = .ok (.sipush 160, 3) := by decide +kernel
theorem dX7_write_22 : decode cX7_write 22 = .ok (.if_icmp .ne 6, 3) := by decide +kernel
theorem dX7_write_25 : decode cX7_write 25 = .ok (.bipush (-5), 2) := by decide +kernel
theorem dX7_write_27 : decode cX7_write 27 = .ok (.ireturn, 1) := by decide +kernel
theorem dX7_write_28 : decode cX7_write 28 = .ok (.aload_n 0, 1) := by decide +kernel
theorem dX7_write_29 : decode cX7_write 29 = .ok (.getfield 28, 3) := by decide +kernel
theorem dX7_write_32 : decode cX7_write 32 = .ok (.aload_n 0, 1) := by decide +kernel
theorem dX7_write_33 : decode cX7_write 33 = .ok (.getfield 84, 3) := by decide +kernel
theorem dX7_write_36 : decode cX7_write 36 = .ok (.iload_n 1, 1) := by decide +kernel
theorem dX7_write_37 : decode cX7_write 37 = .ok (.iastore, 1) := by decide +kernel
theorem dX7_write_38 : decode cX7_write 38 = .ok (.aload_n 0, 1) := by decide +kernel
theorem dX7_write_39 : decode cX7_write 39 = .ok (.dup, 1) := by decide +kernel
theorem dX7_write_40 : decode cX7_write 40 = .ok (.getfield 84, 3) := by decide +kernel
theorem dX7_write_43 : decode cX7_write 43 = .ok (.iconst 1, 1) := by decide +kernel
theorem dX7_write_44 : decode cX7_write 44 = .ok (.iadd, 1) := by decide +kernel
theorem dX7_write_45 : decode cX7_write 45 = .ok (.putfield 84, 3) := by decide +kernel
theorem dX7_write_48 : decode cX7_write 48 = .ok (.aload_n 0, 1) := by decide +kernel
theorem dX7_write_49 : decode cX7_write 49 = .ok (.getfield 84, 3) := by decide +kernel
theorem dX7_write_52 : decode cX7_write 52 = .ok (.ireturn, 1) := by decide +kernel
theorem dX7_erase_0 : decode cX7_erase 0 = .ok (.aload_n 0, 1) := by decide +kernel
theorem dX7_erase_1 : decode cX7_erase 1 = .ok (.getfield 84, 3) := by decide +kernel
theorem dX7_erase_4 : decode cX7_erase 4 = .ok (.istore_n 1, 1) := by decide +kernel
theorem dX7_erase_5 : decode cX7_erase 5 = .ok (.aload_n 0, 1) := by decide +kernel
theorem dX7_erase_6 : decode cX7_erase 6 = .ok (.iconst 0, 1) := by decide +kernel
theorem dX7_erase_7 : decode cX7_erase 7 = .ok (.putfield 84, 3) := by decide +kernel
theorem dX7_erase_10 : decode cX7_erase 10 = .ok (.iload_n 1, 1) := by decide +kernel
theorem dX7_erase_11 : decode cX7_erase 11 = .ok (.ireturn, 1) := by decide +kernel
theorem dX7_letterAt_0 : decode cX7_letterAt 0 = .ok (.iload_n 1, 1) := by decide +kernel
theorem dX7_letterAt_1 : decode cX7_letterAt 1 = .ok (.aload_n 0, 1) := by decide +kernel
theorem dX7_letterAt_2 : decode cX7_letterAt 2 = .ok (.getfield 84, 3) := by decide +kernel
theorem dX7_letterAt_5 : decode cX7_letterAt 5 = .ok (.if_icmp .ge 12, 3) := by decide +kernel
theorem dX7_letterAt_8 : decode cX7_letterAt 8 = .ok (.aload_n 0, 1) := by decide +kernel
theorem dX7_letterAt_9 : decode cX7_letterAt 9 = .ok (.getfield 28, 3) := by decide +kernel
theorem dX7_letterAt_12 : decode cX7_letterAt 12 = .ok (.iload_n 1, 1) := by decide +kernel
theorem dX7_letterAt_13 : decode cX7_letterAt 13 = .ok (.iaload, 1) := by decide +kernel
theorem dX7_letterAt_14 : decode cX7_letterAt 14 = .ok (.goto 4, 3) := by decide +kernel
theorem dX7_letterAt_17 : decode cX7_letterAt 17 = .ok (.iconst 0, 1) := by decide +kernel
theorem dX7_letterAt_18 : decode cX7_letterAt 18 = .ok (.ireturn, 1) := by decide +kernel
theorem dX7_nextToken_0 : decode cX7_nextToken 0 = .ok (.aload_n 0, 1) := by decide +kernel
theorem dX7_nextToken_1 : decode cX7_nextToken 1 = .ok (.aload_n 0, 1) := by decide +kernel
theorem dX7_nextToken_2 : decode cX7_nextToken 2 = .ok (.getfield 87, 3) := by decide +kernel
theorem dX7_nextToken_5 : decode cX7_nextToken 5 = .ok (.invokevirtual 90, 3) := by decide +kernel
theorem dX7_nextToken_8 : decode cX7_nextToken 8 = .ok (.bipush 32, 2) := by decide +kernel
theorem dX7_nextToken_10 : decode cX7_nextToken 10 = .ok (.if_icmp .ne 16, 3) := by decide +kernel
theorem dX7_nextToken_13 : decode cX7_nextToken 13 = .ok (.aload_n 0, 1) := by decide +kernel
theorem dX7_nextToken_14 : decode cX7_nextToken 14 = .ok (.dup, 1) := by decide +kernel
theorem dX7_nextToken_15 : decode cX7_nextToken 15 = .ok (.getfield 87, 3) := by decide +kernel
theorem dX7_nextToken_18 : decode cX7_nextToken 18 = .ok (.iconst 1, 1) := by decide +kernel
theorem dX7_nextToken_19 : decode cX7_nextToken 19 = .ok (.iadd, 1) := by decide +kernel
theorem dX7_nextToken_20 : decode cX7_nextToken 20 = .ok (.putfield 87, 3) := by decide +kernel
theorem dX7_nextToken_23 : decode cX7_nextToken 23 = .ok (.goto (-23), 3) := by decide +kernel
theorem dX7_nextToken_26 : decode cX7_nextToken 26 = .ok (.aload_n 0, 1) := by decide +kernel
theorem dX7_nextToken_27 : decode cX7_nextToken 27 = .ok (.aload_n 0, 1) := by decide +kernel
theorem dX7_nextToken_28 : decode cX7_nextToken 28 = .ok (.getfield 87, 3) := by decide +kernel
theorem dX7_nextToken_31 : decode cX7_nextToken 31 = .ok (.putfield 94, 3) := by decide +kernel
theorem dX7_nextToken_34 : decode cX7_nextToken 34 = .ok (.aload_n 0, 1) := by decide +kernel
theorem dX7_nextToken_35 : decode cX7_nextToken 35 = .ok (.iconst 0, 1) := by decide +kernel
theorem dX7_nextToken_36 : decode cX7_nextToken 36 = .ok (.putfield 97, 3) := by decide +kernel
theorem dX7_nextToken_39 : decode cX7_nextToken 39 = .ok (.aload_n 0, 1) := by decide +kernel
theorem dX7_nextToken_40 : decode cX7_nextToken 40 = .ok (.aload_n 0, 1) := by decide +kernel
theorem dX7_nextToken_41 : decode cX7_nextToken 41 = .ok (.getfield 87, 3) := by decide +kernel
theorem dX7_nextToken_44 : decode cX7_nextToken 44 = .ok (.aload_n 0, 1) := by decide +kernel
theorem dX7_nextToken_45 : decode cX7_nextToken 45 = .ok (.getfield 84, 3) := by decide +kernel
theorem dX7_nextToken_48 : decode cX7_nextToken 48 = .ok (.if_icmp .ne 7, 3) := by decide +kernel
theorem dX7_nextToken_51 : decode cX7_nextToken 51 = .ok (.iconst 3, 1) := by decide +kernel
theorem dX7_nextToken_52 : decode cX7_nextToken 52 = .ok (.goto 4, 3) := by decide +kernel
theorem dX7_nextToken_55 : decode cX7_nextToken 55 = .ok (.iconst 0, 1) := by decide +kernel
theorem dX7_nextToken_56 : decode cX7_nextToken 56 = .ok (.putfield 100, 3) := by decide +kernel
theorem dX7_nextToken_59 : decode cX7_nextToken 59 = .ok (.aload_n 0, 1) := by decide +kernel
theorem dX7_nextToken_60 : decode cX7_nextToken 60 = .ok (.getfield 100, 3) := by decide +kernel
theorem dX7_nextToken_63 : decode cX7_nextToken 63 = .ok (.iconst 2, 1) := by decide +kernel
theorem dX7_nextToken_64 : decode cX7_nextToken 64 = .ok (.if_icmp .ge 42, 3) := by decide +kernel
theorem dX7_nextToken_67 : decode cX7_nextToken 67 = .ok (.aload_n 0, 1) := by decide +kernel
theorem dX7_nextToken_68 : decode cX7_nextToken 68 = .ok (.aload_n 0, 1) := by decide +kernel
theorem dX7_nextToken_69 : decode cX7_nextToken 69 = .ok (.getfield 87, 3) := by decide +kernel
theorem dX7_nextToken_72 : decode cX7_nextToken 72 = .ok (.invokevirtual 90, 3) := by decide +kernel
theorem dX7_nextToken_75 : decode cX7_nextToken 75 = .ok (.i2l, 1) := by decide +kernel
theorem dX7_nextToken_76 : decode cX7_nextToken 76 = .ok (.ldc2_w 103, 3) := by decide +kernel
theorem dX7_nextToken_79 : decode cX7_nextToken 79 = .ok (.ldc2_w 105, 3) := by decide +kernel
theorem dX7_nextToken_82 : decode cX7_nextToken 82 = .ok (.invokestatic 78, 3) := by decide +kernel
theorem dX7_nextToken_85 : decode cX7_nextToken 85 = .ok (.ifCond .eq 21, 3) := by decide +kernel
theorem dX7_nextToken_88 : decode cX7_nextToken 88 = .ok (.aload_n 0, 1) := by decide +kernel
theorem dX7_nextToken_89 : decode cX7_nextToken 89 = .ok (.iconst 1, 1) := by decide +kernel
theorem dX7_nextToken_90 : decode cX7_nextToken 90 = .ok (.putfield 100, 3) := by decide +kernel
theorem dX7_nextToken_93 : decode cX7_nextToken 93 = .ok (.aload_n 0, 1) := by decide +kernel
theorem dX7_nextToken_94 : decode cX7_nextToken 94 = .ok (.dup, 1) := by decide +kernel
theorem dX7_nextToken_95 : decode cX7_nextToken 95 = .ok (.getfield 87, 3) := by decide +kernel
theorem dX7_nextToken_98 : decode cX7_nextToken 98 = .ok (.iconst 1, 1) := by decide +kernel
theorem dX7_nextToken_99 : decode cX7_nextToken 99 = .ok (.iadd, 1) := by decide +kernel
theorem dX7_nextToken_100 : decode cX7_nextToken 100 = .ok (.putfield 87, 3) := by decide +kernel
theorem dX7_nextToken_103 : decode cX7_nextToken 103 = .ok (.goto (-44), 3) := by decide +kernel
theorem dX7_nextToken_106 : decode cX7_nextToken 106 = .ok (.aload_n 0, 1) := by decide +kernel
theorem dX7_nextToken_107 : decode cX7_nextToken 107 = .ok (.getfield 100, 3) := by decide +kernel
theorem dX7_nextToken_110 : decode cX7_nextToken 110 = .ok (.iconst 1, 1) := by decide +kernel
theorem dX7_nextToken_111 : decode cX7_nextToken 111 = .ok (.if_icmp .eq 82, 3) := by decide +kernel
theorem dX7_nextToken_114 : decode cX7_nextToken 114 = .ok (.aload_n 0, 1) := by decide +kernel
theorem dX7_nextToken_115 : decode cX7_nextToken 115 = .ok (.aload_n 0, 1) := by decide +kernel
theorem dX7_nextToken_116 : decode cX7_nextToken 116 = .ok (.getfield 87, 3) := by decide +kernel
theorem dX7_nextToken_119 : decode cX7_nextToken 119 = .ok (.invokevirtual 90, 3) := by decide +kernel
theorem dX7_nextToken_122 : decode cX7_nextToken 122 = .ok (.i2l, 1) := by decide +kernel
theorem dX7_nextToken_123 : decode cX7_nextToken 123 = .ok (.ldc2_w 107, 3) := by decide +kernel
theorem dX7_nextToken_126 : decode cX7_nextToken 126 = .ok (.ldc2_w 109, 3) := by decide +kernel
theorem dX7_nextToken_129 : decode cX7_nextToken 129 = .ok (.invokestatic 78, 3) := by decide +kernel
theorem dX7_nextToken_132 : decode cX7_nextToken 132 = .ok (.ifCond .eq 61, 3) := by decide +kernel
theorem dX7_nextToken_135 : decode cX7_nextToken 135 = .ok (.aload_n 0, 1) := by decide +kernel
theorem dX7_nextToken_136 : decode cX7_nextToken 136 = .ok (.aload_n 0, 1) := by decide +kernel
theorem dX7_nextToken_137 : decode cX7_nextToken 137 = .ok (.getfield 97, 3) := by decide +kernel
theorem dX7_nextToken_140 : decode cX7_nextToken 140 = .ok (.bipush 99, 2) := by decide +kernel
theorem dX7_nextToken_142 : decode cX7_nextToken 142 = .ok (.if_icmp .le 10, 3) := by decide +kernel
theorem dX7_nextToken_145 : decode cX7_nextToken 145 = .ok (.aload_n 0, 1) := by decide +kernel
theorem dX7_nextToken_146 : decode cX7_nextToken 146 = .ok (.getfield 97, 3) := by decide +kernel
theorem dX7_nextToken_149 : decode cX7_nextToken 149 = .ok (.goto 23, 3) := by decide +kernel
theorem dX7_nextToken_152 : decode cX7_nextToken 152 = .ok (.bipush 10, 2) := by decide +kernel
theorem dX7_nextToken_154 : decode cX7_nextToken 154 = .ok (.aload_n 0, 1) := by decide +kernel
theorem dX7_nextToken_155 : decode cX7_nextToken 155 = .ok (.getfield 97, 3) := by decide +kernel
theorem dX7_nextToken_158 : decode cX7_nextToken 158 = .ok (.imul, 1) := by decide +kernel
theorem dX7_nextToken_159 : decode cX7_nextToken 159 = .ok (.aload_n 0, 1) := by decide +kernel
theorem dX7_nextToken_160 : decode cX7_nextToken 160 = .ok (.getfield 28, 3) := by decide +kernel
theorem dX7_nextToken_163 : decode cX7_nextToken 163 = .ok (.aload_n 0, 1) := by decide +kernel
theorem dX7_nextToken_164 : decode cX7_nextToken 164 = .ok (.getfield 87, 3) := by decide +kernel
theorem dX7_nextToken_167 : decode cX7_nextToken 167 = .ok (.iaload, 1) := by decide +kernel
theorem dX7_nextToken_168 : decode cX7_nextToken 168 = .ok (.iadd, 1) := by decide +kernel
theorem dX7_nextToken_169 : decode cX7_nextToken 169 = .ok (.bipush 48, 2) := by decide +kernel
theorem dX7_nextToken_171 : decode cX7_nextToken 171 = .ok (.isub, 1) := by decide +kernel
theorem dX7_nextToken_172 : decode cX7_nextToken 172 = .ok (.putfield 97, 3) := by decide +kernel
theorem dX7_nextToken_175 : decode cX7_nextToken 175 = .ok (.aload_n 0, 1) := by decide +kernel
theorem dX7_nextToken_176 : decode cX7_nextToken 176 = .ok (.iconst 2, 1) := by decide +kernel
theorem dX7_nextToken_177 : decode cX7_nextToken 177 = .ok (.putfield 100, 3) := by decide +kernel
theorem dX7_nextToken_180 : decode cX7_nextToken 180 = .ok (.aload_n 0, 1) := by decide +kernel
theorem dX7_nextToken_181 : decode cX7_nextToken 181 = .ok (.dup, 1) := by decide +kernel
theorem dX7_nextToken_182 : decode cX7_nextToken 182 = .ok (.getfield 87, 3) := by decide +kernel
theorem dX7_nextToken_185 : decode cX7_nextToken 185 = .ok (.iconst 1, 1) := by decide +kernel
theorem dX7_nextToken_186 : decode cX7_nextToken 186 = .ok (.iadd, 1) := by decide +kernel
theorem dX7_nextToken_187 : decode cX7_nextToken 187 = .ok (.putfield 87, 3) := by decide +kernel
theorem dX7_nextToken_190 : decode cX7_nextToken 190 = .ok (.goto (-84), 3) := by decide +kernel
theorem dX7_nextToken_193 : decode cX7_nextToken 193 = .ok (.aload_n 0, 1) := by decide +kernel
theorem dX7_nextToken_194 : decode cX7_nextToken 194 = .ok (.getfield 100, 3) := by decide +kernel
theorem dX7_nextToken_197 : decode cX7_nextToken 197 = .ok (.iconst 2, 1) := by decide +kernel
theorem dX7_nextToken_198 : decode cX7_nextToken 198 = .ok (.if_icmp .ne 23, 3) := by decide +kernel
theorem dX7_nextToken_201 : decode cX7_nextToken 201 = .ok (.aload_n 0, 1) := by decide +kernel
theorem dX7_nextToken_202 : decode cX7_nextToken 202 = .ok (.getfield 87, 3) := by decide +kernel
theorem dX7_nextToken_205 : decode cX7_nextToken 205 = .ok (.aload_n 0, 1) := by decide +kernel
theorem dX7_nextToken_206 : decode cX7_nextToken 206 = .ok (.getfield 94, 3) := by decide +kernel
theorem dX7_nextToken_209 : decode cX7_nextToken 209 = .ok (.isub, 1) := by decide +kernel
theorem dX7_nextToken_210 : decode cX7_nextToken 210 = .ok (.iconst 2, 1) := by decide +kernel
theorem dX7_nextToken_211 : decode cX7_nextToken 211 = .ok (.if_icmp .le 10, 3) := by decide +kernel
theorem dX7_nextToken_214 : decode cX7_nextToken 214 = .ok (.aload_n 0, 1) := by decide +kernel
theorem dX7_nextToken_215 : decode cX7_nextToken 215 = .ok (.sipush 999, 3) := by decide +kernel
theorem dX7_nextToken_218 : decode cX7_nextToken 218 = .ok (.putfield 97, 3) := by decide +kernel
theorem dX7_nextToken_221 : decode cX7_nextToken 221 = .ok (.aload_n 0, 1) := by decide +kernel
theorem dX7_nextToken_222 : decode cX7_nextToken 222 = .ok (.getfield 100, 3) := by decide +kernel
theorem dX7_nextToken_225 : decode cX7_nextToken 225 = .ok (.ifCond .ne 26, 3) := by decide +kernel
theorem dX7_nextToken_228 : decode cX7_nextToken 228 = .ok (.aload_n 0, 1) := by decide +kernel
theorem dX7_nextToken_229 : decode cX7_nextToken 229 = .ok (.aload_n 0, 1) := by decide +kernel
theorem dX7_nextToken_230 : decode cX7_nextToken 230 = .ok (.getfield 28, 3) := by decide +kernel
theorem dX7_nextToken_233 : decode cX7_nextToken 233 = .ok (.aload_n 0, 1) := by decide +kernel
theorem dX7_nextToken_234 : decode cX7_nextToken 234 = .ok (.getfield 87, 3) := by decide +kernel
theorem dX7_nextToken_237 : decode cX7_nextToken 237 = .ok (.iaload, 1) := by decide +kernel
theorem dX7_nextToken_238 : decode cX7_nextToken 238 = .ok (.putfield 97, 3) := by decide +kernel
theorem dX7_nextToken_241 : decode cX7_nextToken 241 = .ok (.aload_n 0, 1) := by decide +kernel
theorem dX7_nextToken_242 : decode cX7_nextToken 242 = .ok (.dup, 1) := by decide +kernel
theorem dX7_nextToken_243 : decode cX7_nextToken 243 = .ok (.getfield 87, 3) := by decide +kernel
theorem dX7_nextToken_246 : decode cX7_nextToken 246 = .ok (.iconst 1, 1) := by decide +kernel
theorem dX7_nextToken_247 : decode cX7_nextToken 247 = .ok (.iadd, 1) := by decide +kernel
theorem dX7_nextToken_248 : decode cX7_nextToken 248 = .ok (.putfield 87, 3) := by decide +kernel
theorem dX7_nextToken_251 : decode cX7_nextToken 251 = .ok (.return_, 1) := by decide +kernel
theorem dX7_wordOf_0 : decode cX7_wordOf 0 = .ok (.lconst 0, 1) := by decide +kernel
theorem dX7_wordOf_1 : decode cX7_wordOf 1 = .ok (.lstore_n 1, 1) := by decide +kernel
theorem dX7_wordOf_2 : decode cX7_wordOf 2 = .ok (.aload_n 0, 1) := by decide +kernel
theorem dX7_wordOf_3 : decode cX7_wordOf 3 = .ok (.getfield 94, 3) := by decide +kernel
theorem dX7_wordOf_6 : decode cX7_wordOf 6 = .ok (.istore_n 3, 1) := by decide +kernel
theorem dX7_wordOf_7 : decode cX7_wordOf 7 = .ok (.iload_n 3, 1) := by decide +kernel
theorem dX7_wordOf_8 : decode cX7_wordOf 8 = .ok (.aload_n 0, 1) := by decide +kernel
theorem dX7_wordOf_9 : decode cX7_wordOf 9 = .ok (.getfield 87, 3) := by decide +kernel
theorem dX7_wordOf_12 : decode cX7_wordOf 12 = .ok (.if_icmp .ge 40, 3) := by decide +kernel
theorem dX7_wordOf_15 : decode cX7_wordOf 15 = .ok (.iload_n 3, 1) := by decide +kernel
theorem dX7_wordOf_16 : decode cX7_wordOf 16 = .ok (.aload_n 0, 1) := by decide +kernel
theorem dX7_wordOf_17 : decode cX7_wordOf 17 = .ok (.getfield 94, 3) := by decide +kernel
theorem dX7_wordOf_20 : decode cX7_wordOf 20 = .ok (.bipush 9, 2) := by decide +kernel
theorem dX7_wordOf_22 : decode cX7_wordOf 22 = .ok (.iadd, 1) := by decide +kernel
theorem dX7_wordOf_23 : decode cX7_wordOf 23 = .ok (.if_icmp .ge 29, 3) := by decide +kernel
theorem dX7_wordOf_26 : decode cX7_wordOf 26 = .ok (.ldc2_w 111, 3) := by decide +kernel
theorem dX7_wordOf_29 : decode cX7_wordOf 29 = .ok (.lload_n 1, 1) := by decide +kernel
theorem dX7_wordOf_30 : decode cX7_wordOf 30 = .ok (.lmul, 1) := by decide +kernel
theorem dX7_wordOf_31 : decode cX7_wordOf 31 = .ok (.aload_n 0, 1) := by decide +kernel
theorem dX7_wordOf_32 : decode cX7_wordOf 32 = .ok (.getfield 28, 3) := by decide +kernel
theorem dX7_wordOf_35 : decode cX7_wordOf 35 = .ok (.iload_n 3, 1) := by decide +kernel
theorem dX7_wordOf_36 : decode cX7_wordOf 36 = .ok (.iaload, 1) := by decide +kernel
theorem dX7_wordOf_37 : decode cX7_wordOf 37 = .ok (.i2l, 1) := by decide +kernel
theorem dX7_wordOf_38 : decode cX7_wordOf 38 = .ok (.ladd, 1) := by decide +kernel
theorem dX7_wordOf_39 : decode cX7_wordOf 39 = .ok (.ldc2_w 103, 3) := by decide +kernel
theorem dX7_wordOf_42 : decode cX7_wordOf 42 = .ok (.lsub, 1) := by decide +kernel
theorem dX7_wordOf_43 : decode cX7_wordOf 43 = .ok (.lconst 1, 1) := by decide +kernel
theorem dX7_wordOf_44 : decode cX7_wordOf 44 = .ok (.ladd, 1) := by decide +kernel
theorem dX7_wordOf_45 : decode cX7_wordOf 45 = .ok (.lstore_n 1, 1) := by decide +kernel
theorem dX7_wordOf_46 : decode cX7_wordOf 46 = .ok (.iinc 3 1, 3) := by decide +kernel
theorem dX7_wordOf_49 : decode cX7_wordOf 49 = .ok (.goto (-42), 3) := by decide +kernel
theorem dX7_wordOf_52 : decode cX7_wordOf 52 = .ok (.aload_n 0, 1) := by decide +kernel
theorem dX7_wordOf_53 : decode cX7_wordOf 53 = .ok (.getfield 100, 3) := by decide +kernel
theorem dX7_wordOf_56 : decode cX7_wordOf 56 = .ok (.iconst 1, 1) := by decide +kernel
theorem dX7_wordOf_57 : decode cX7_wordOf 57 = .ok (.if_icmp .ne 7, 3) := by decide +kernel
theorem dX7_wordOf_60 : decode cX7_wordOf 60 = .ok (.lload_n 1, 1) := by decide +kernel
theorem dX7_wordOf_61 : decode cX7_wordOf 61 = .ok (.goto 4, 3) := by decide +kernel
theorem dX7_wordOf_64 : decode cX7_wordOf 64 = .ok (.lconst 0, 1) := by decide +kernel
theorem dX7_wordOf_65 : decode cX7_wordOf 65 = .ok (.lreturn, 1) := by decide +kernel
theorem dX7_spelt_0 : decode cX7_spelt 0 = .ok (.lconst 0, 1) := by decide +kernel
theorem dX7_spelt_1 : decode cX7_spelt 1 = .ok (.lstore 7, 2) := by decide +kernel
theorem dX7_spelt_3 : decode cX7_spelt 3 = .ok (.lload 7, 2) := by decide +kernel
theorem dX7_spelt_5 : decode cX7_spelt 5 = .ok (.ldc2_w 111, 3) := by decide +kernel
theorem dX7_spelt_8 : decode cX7_spelt 8 = .ok (.lmul, 1) := by decide +kernel
theorem dX7_spelt_9 : decode cX7_spelt 9 = .ok (.iload_n 0, 1) := by decide +kernel
theorem dX7_spelt_10 : decode cX7_spelt 10 = .ok (.ifCond .ne 7, 3) := by decide +kernel
theorem dX7_spelt_13 : decode cX7_spelt 13 = .ok (.iconst 0, 1) := by decide +kernel
theorem dX7_spelt_14 : decode cX7_spelt 14 = .ok (.goto 9, 3) := by decide +kernel
theorem dX7_spelt_17 : decode cX7_spelt 17 = .ok (.iload_n 0, 1) := by decide +kernel
theorem dX7_spelt_18 : decode cX7_spelt 18 = .ok (.bipush 97, 2) := by decide +kernel
theorem dX7_spelt_20 : decode cX7_spelt 20 = .ok (.isub, 1) := by decide +kernel
theorem dX7_spelt_21 : decode cX7_spelt 21 = .ok (.iconst 1, 1) := by decide +kernel
theorem dX7_spelt_22 : decode cX7_spelt 22 = .ok (.iadd, 1) := by decide +kernel
theorem dX7_spelt_23 : decode cX7_spelt 23 = .ok (.i2l, 1) := by decide +kernel
theorem dX7_spelt_24 : decode cX7_spelt 24 = .ok (.ladd, 1) := by decide +kernel
theorem dX7_spelt_25 : decode cX7_spelt 25 = .ok (.lstore 7, 2) := by decide +kernel
theorem dX7_spelt_27 : decode cX7_spelt 27 = .ok (.iload_n 1, 1) := by decide +kernel
theorem dX7_spelt_28 : decode cX7_spelt 28 = .ok (.ifCond .ne 8, 3) := by decide +kernel
theorem dX7_spelt_31 : decode cX7_spelt 31 = .ok (.lload 7, 2) := by decide +kernel
theorem dX7_spelt_33 : decode cX7_spelt 33 = .ok (.goto 18, 3) := by decide +kernel
theorem dX7_spelt_36 : decode cX7_spelt 36 = .ok (.lload 7, 2) := by decide +kernel
theorem dX7_spelt_38 : decode cX7_spelt 38 = .ok (.ldc2_w 111, 3) := by decide +kernel
theorem dX7_spelt_41 : decode cX7_spelt 41 = .ok (.lmul, 1) := by decide +kernel
theorem dX7_spelt_42 : decode cX7_spelt 42 = .ok (.iload_n 1, 1) := by decide +kernel
theorem dX7_spelt_43 : decode cX7_spelt 43 = .ok (.i2l, 1) := by decide +kernel
theorem dX7_spelt_44 : decode cX7_spelt 44 = .ok (.ladd, 1) := by decide +kernel
theorem dX7_spelt_45 : decode cX7_spelt 45 = .ok (.ldc2_w 103, 3) := by decide +kernel
theorem dX7_spelt_48 : decode cX7_spelt 48 = .ok (.lsub, 1) := by decide +kernel
theorem dX7_spelt_49 : decode cX7_spelt 49 = .ok (.lconst 1, 1) := by decide +kernel
theorem dX7_spelt_50 : decode cX7_spelt 50 = .ok (.ladd, 1) := by decide +kernel
theorem dX7_spelt_51 : decode cX7_spelt 51 = .ok (.lstore 7, 2) := by decide +kernel
theorem dX7_spelt_53 : decode cX7_spelt 53 = .ok (.iload_n 2, 1) := by decide +kernel
theorem dX7_spelt_54 : decode cX7_spelt 54 = .ok (.ifCond .ne 8, 3) := by decide +kernel
theorem dX7_spelt_57 : decode cX7_spelt 57 = .ok (.lload 7, 2) := by decide +kernel
theorem dX7_spelt_59 : decode cX7_spelt 59 = .ok (.goto 18, 3) := by decide +kernel
theorem dX7_spelt_62 : decode cX7_spelt 62 = .ok (.lload 7, 2) := by decide +kernel
theorem dX7_spelt_64 : decode cX7_spelt 64 = .ok (.ldc2_w 111, 3) := by decide +kernel
theorem dX7_spelt_67 : decode cX7_spelt 67 = .ok (.lmul, 1) := by decide +kernel
theorem dX7_spelt_68 : decode cX7_spelt 68 = .ok (.iload_n 2, 1) := by decide +kernel
theorem dX7_spelt_69 : decode cX7_spelt 69 = .ok (.i2l, 1) := by decide +kernel
theorem dX7_spelt_70 : decode cX7_spelt 70 = .ok (.ladd, 1) := by decide +kernel
theorem dX7_spelt_71 : decode cX7_spelt 71 = .ok (.ldc2_w 103, 3) := by decide +kernel
theorem dX7_spelt_74 : decode cX7_spelt 74 = .ok (.lsub, 1) := by decide +kernel
theorem dX7_spelt_75 : decode cX7_spelt 75 = .ok (.lconst 1, 1) := by decide +kernel
theorem dX7_spelt_76 : decode cX7_spelt 76 = .ok (.ladd, 1) := by decide +kernel
theorem dX7_spelt_77 : decode cX7_spelt 77 = .ok (.lstore 7, 2) := by decide +kernel
theorem dX7_spelt_79 : decode cX7_spelt 79 = .ok (.iload_n 3, 1) := by decide +kernel
theorem dX7_spelt_80 : decode cX7_spelt 80 = .ok (.ifCond .ne 8, 3) := by decide +kernel
theorem dX7_spelt_83 : decode cX7_spelt 83 = .ok (.lload 7, 2) := by decide +kernel
theorem dX7_spelt_85 : decode cX7_spelt 85 = .ok (.goto 18, 3) := by decide +kernel
theorem dX7_spelt_88 : decode cX7_spelt 88 = .ok (.lload 7, 2) := by decide +kernel
theorem dX7_spelt_90 : decode cX7_spelt 90 = .ok (.ldc2_w 111, 3) := by decide +kernel
theorem dX7_spelt_93 : decode cX7_spelt 93 = .ok (.lmul, 1) := by decide +kernel
theorem dX7_spelt_94 : decode cX7_spelt 94 = .ok (.iload_n 3, 1) := by decide +kernel
theorem dX7_spelt_95 : decode cX7_spelt 95 = .ok (.i2l, 1) := by decide +kernel
theorem dX7_spelt_96 : decode cX7_spelt 96 = .ok (.ladd, 1) := by decide +kernel
theorem dX7_spelt_97 : decode cX7_spelt 97 = .ok (.ldc2_w 103, 3) := by decide +kernel
theorem dX7_spelt_100 : decode cX7_spelt 100 = .ok (.lsub, 1) := by decide +kernel
theorem dX7_spelt_101 : decode cX7_spelt 101 = .ok (.lconst 1, 1) := by decide +kernel
theorem dX7_spelt_102 : decode cX7_spelt 102 = .ok (.ladd, 1) := by decide +kernel
theorem dX7_spelt_103 : decode cX7_spelt 103 = .ok (.lstore 7, 2) := by decide +kernel
theorem dX7_spelt_105 : decode cX7_spelt 105 = .ok (.iload 4, 2) := by decide +kernel
theorem dX7_spelt_107 : decode cX7_spelt 107 = .ok (.ifCond .ne 8, 3) := by decide +kernel
theorem dX7_spelt_110 : decode cX7_spelt 110 = .ok (.lload 7, 2) := by decide +kernel
theorem dX7_spelt_112 : decode cX7_spelt 112 = .ok (.goto 19, 3) := by decide +kernel
theorem dX7_spelt_115 : decode cX7_spelt 115 = .ok (.lload 7, 2) := by decide +kernel
theorem dX7_spelt_117 : decode cX7_spelt 117 = .ok (.ldc2_w 111, 3) := by decide +kernel
theorem dX7_spelt_120 : decode cX7_spelt 120 = .ok (.lmul, 1) := by decide +kernel
theorem dX7_spelt_121 : decode cX7_spelt 121 = .ok (.iload 4, 2) := by decide +kernel
theorem dX7_spelt_123 : decode cX7_spelt 123 = .ok (.i2l, 1) := by decide +kernel
theorem dX7_spelt_124 : decode cX7_spelt 124 = .ok (.ladd, 1) := by decide +kernel
theorem dX7_spelt_125 : decode cX7_spelt 125 = .ok (.ldc2_w 103, 3) := by decide +kernel
theorem dX7_spelt_128 : decode cX7_spelt 128 = .ok (.lsub, 1) := by decide +kernel
theorem dX7_spelt_129 : decode cX7_spelt 129 = .ok (.lconst 1, 1) := by decide +kernel
theorem dX7_spelt_130 : decode cX7_spelt 130 = .ok (.ladd, 1) := by decide +kernel
theorem dX7_spelt_131 : decode cX7_spelt 131 = .ok (.lstore 7, 2) := by decide +kernel
theorem dX7_spelt_133 : decode cX7_spelt 133 = .ok (.iload 5, 2) := by decide +kernel
theorem dX7_spelt_135 : decode cX7_spelt 135 = .ok (.ifCond .ne 8, 3) := by decide +kernel
theorem dX7_spelt_138 : decode cX7_spelt 138 = .ok (.lload 7, 2) := by decide +kernel
theorem dX7_spelt_140 : decode cX7_spelt 140 = .ok (.goto 19, 3) := by decide +kernel
theorem dX7_spelt_143 : decode cX7_spelt 143 = .ok (.lload 7, 2) := by decide +kernel
theorem dX7_spelt_145 : decode cX7_spelt 145 = .ok (.ldc2_w 111, 3) := by decide +kernel
theorem dX7_spelt_148 : decode cX7_spelt 148 = .ok (.lmul, 1) := by decide +kernel
theorem dX7_spelt_149 : decode cX7_spelt 149 = .ok (.iload 5, 2) := by decide +kernel
theorem dX7_spelt_151 : decode cX7_spelt 151 = .ok (.i2l, 1) := by decide +kernel
theorem dX7_spelt_152 : decode cX7_spelt 152 = .ok (.ladd, 1) := by decide +kernel
theorem dX7_spelt_153 : decode cX7_spelt 153 = .ok (.ldc2_w 103, 3) := by decide +kernel
theorem dX7_spelt_156 : decode cX7_spelt 156 = .ok (.lsub, 1) := by decide +kernel
theorem dX7_spelt_157 : decode cX7_spelt 157 = .ok (.lconst 1, 1) := by decide +kernel
theorem dX7_spelt_158 : decode cX7_spelt 158 = .ok (.ladd, 1) := by decide +kernel
theorem dX7_spelt_159 : decode cX7_spelt 159 = .ok (.lstore 7, 2) := by decide +kernel
theorem dX7_spelt_161 : decode cX7_spelt 161 = .ok (.iload 6, 2) := by decide +kernel
theorem dX7_spelt_163 : decode cX7_spelt 163 = .ok (.ifCond .ne 8, 3) := by decide +kernel
theorem dX7_spelt_166 : decode cX7_spelt 166 = .ok (.lload 7, 2) := by decide +kernel
theorem dX7_spelt_168 : decode cX7_spelt 168 = .ok (.goto 19, 3) := by decide +kernel
theorem dX7_spelt_171 : decode cX7_spelt 171 = .ok (.lload 7, 2) := by decide +kernel
theorem dX7_spelt_173 : decode cX7_spelt 173 = .ok (.ldc2_w 111, 3) := by decide +kernel
theorem dX7_spelt_176 : decode cX7_spelt 176 = .ok (.lmul, 1) := by decide +kernel
theorem dX7_spelt_177 : decode cX7_spelt 177 = .ok (.iload 6, 2) := by decide +kernel
theorem dX7_spelt_179 : decode cX7_spelt 179 = .ok (.i2l, 1) := by decide +kernel
theorem dX7_spelt_180 : decode cX7_spelt 180 = .ok (.ladd, 1) := by decide +kernel
theorem dX7_spelt_181 : decode cX7_spelt 181 = .ok (.ldc2_w 103, 3) := by decide +kernel
theorem dX7_spelt_184 : decode cX7_spelt 184 = .ok (.lsub, 1) := by decide +kernel
theorem dX7_spelt_185 : decode cX7_spelt 185 = .ok (.lconst 1, 1) := by decide +kernel
theorem dX7_spelt_186 : decode cX7_spelt 186 = .ok (.ladd, 1) := by decide +kernel
theorem dX7_spelt_187 : decode cX7_spelt 187 = .ok (.lreturn, 1) := by decide +kernel
theorem dX7_verb_0 : decode cX7_verb 0 = .ok (.aload_n 0, 1) := by decide +kernel
theorem dX7_verb_1 : decode cX7_verb 1 = .ok (.invokevirtual 113, 3) := by decide +kernel
theorem dX7_verb_4 : decode cX7_verb 4 = .ok (.lstore_n 1, 1) := by decide +kernel
theorem dX7_verb_5 : decode cX7_verb 5 = .ok (.lload_n 1, 1) := by decide +kernel
theorem dX7_verb_6 : decode cX7_verb 6 = .ok (.bipush 112, 2) := by decide +kernel
theorem dX7_verb_8 : decode cX7_verb 8 = .ok (.bipush 108, 2) := by decide +kernel
theorem dX7_verb_10 : decode cX7_verb 10 = .ok (.bipush 97, 2) := by decide +kernel
theorem dX7_verb_12 : decode cX7_verb 12 = .ok (.bipush 105, 2) := by decide +kernel
theorem dX7_verb_14 : decode cX7_verb 14 = .ok (.bipush 110, 2) := by decide +kernel
theorem dX7_verb_16 : decode cX7_verb 16 = .ok (.iconst 0, 1) := by decide +kernel
theorem dX7_verb_17 : decode cX7_verb 17 = .ok (.iconst 0, 1) := by decide +kernel
theorem dX7_verb_18 : decode cX7_verb 18 = .ok (.invokestatic 117, 3) := by decide +kernel
theorem dX7_verb_21 : decode cX7_verb 21 = .ok (.lcmp, 1) := by decide +kernel
theorem dX7_verb_22 : decode cX7_verb 22 = .ok (.ifCond .ne 5, 3) := by decide +kernel
theorem dX7_verb_25 : decode cX7_verb 25 = .ok (.iconst 0, 1) := by decide +kernel
theorem dX7_verb_26 : decode cX7_verb 26 = .ok (.ireturn, 1) := by decide +kernel
theorem dX7_verb_27 : decode cX7_verb 27 = .ok (.lload_n 1, 1) := by decide +kernel
theorem dX7_verb_28 : decode cX7_verb 28 = .ok (.bipush 98, 2) := by decide +kernel
theorem dX7_verb_30 : decode cX7_verb 30 = .ok (.bipush 114, 2) := by decide +kernel
theorem dX7_verb_32 : decode cX7_verb 32 = .ok (.bipush 97, 2) := by decide +kernel
theorem dX7_verb_34 : decode cX7_verb 34 = .ok (.bipush 118, 2) := by decide +kernel
theorem dX7_verb_36 : decode cX7_verb 36 = .ok (.bipush 101, 2) := by decide +kernel
theorem dX7_verb_38 : decode cX7_verb 38 = .ok (.iconst 0, 1) := by decide +kernel
theorem dX7_verb_39 : decode cX7_verb 39 = .ok (.iconst 0, 1) := by decide +kernel
theorem dX7_verb_40 : decode cX7_verb 40 = .ok (.invokestatic 117, 3) := by decide +kernel
theorem dX7_verb_43 : decode cX7_verb 43 = .ok (.lcmp, 1) := by decide +kernel
theorem dX7_verb_44 : decode cX7_verb 44 = .ok (.ifCond .ne 5, 3) := by decide +kernel
theorem dX7_verb_47 : decode cX7_verb 47 = .ok (.iconst 1, 1) := by decide +kernel
theorem dX7_verb_48 : decode cX7_verb 48 = .ok (.ireturn, 1) := by decide +kernel
theorem dX7_verb_49 : decode cX7_verb 49 = .ok (.lload_n 1, 1) := by decide +kernel
theorem dX7_verb_50 : decode cX7_verb 50 = .ok (.bipush 115, 2) := by decide +kernel
theorem dX7_verb_52 : decode cX7_verb 52 = .ok (.bipush 105, 2) := by decide +kernel
theorem dX7_verb_54 : decode cX7_verb 54 = .ok (.bipush 108, 2) := by decide +kernel
theorem dX7_verb_56 : decode cX7_verb 56 = .ok (.bipush 107, 2) := by decide +kernel
theorem dX7_verb_58 : decode cX7_verb 58 = .ok (.iconst 0, 1) := by decide +kernel
theorem dX7_verb_59 : decode cX7_verb 59 = .ok (.iconst 0, 1) := by decide +kernel
theorem dX7_verb_60 : decode cX7_verb 60 = .ok (.iconst 0, 1) := by decide +kernel
theorem dX7_verb_61 : decode cX7_verb 61 = .ok (.invokestatic 117, 3) := by decide +kernel
theorem dX7_verb_64 : decode cX7_verb 64 = .ok (.lcmp, 1) := by decide +kernel
theorem dX7_verb_65 : decode cX7_verb 65 = .ok (.ifCond .ne 5, 3) := by decide +kernel
theorem dX7_verb_68 : decode cX7_verb 68 = .ok (.iconst 2, 1) := by decide +kernel
theorem dX7_verb_69 : decode cX7_verb 69 = .ok (.ireturn, 1) := by decide +kernel
theorem dX7_verb_70 : decode cX7_verb 70 = .ok (.lload_n 1, 1) := by decide +kernel
theorem dX7_verb_71 : decode cX7_verb 71 = .ok (.bipush 101, 2) := by decide +kernel
theorem dX7_verb_73 : decode cX7_verb 73 = .ok (.bipush 110, 2) := by decide +kernel
theorem dX7_verb_75 : decode cX7_verb 75 = .ok (.bipush 100, 2) := by decide +kernel
theorem dX7_verb_77 : decode cX7_verb 77 = .ok (.bipush 108, 2) := by decide +kernel
theorem dX7_verb_79 : decode cX7_verb 79 = .ok (.bipush 101, 2) := by decide +kernel
theorem dX7_verb_81 : decode cX7_verb 81 = .ok (.bipush 115, 2) := by decide +kernel
theorem dX7_verb_83 : decode cX7_verb 83 = .ok (.bipush 115, 2) := by decide +kernel
theorem dX7_verb_85 : decode cX7_verb 85 = .ok (.invokestatic 117, 3) := by decide +kernel
theorem dX7_verb_88 : decode cX7_verb 88 = .ok (.lcmp, 1) := by decide +kernel
theorem dX7_verb_89 : decode cX7_verb 89 = .ok (.ifCond .ne 5, 3) := by decide +kernel
theorem dX7_verb_92 : decode cX7_verb 92 = .ok (.iconst 3, 1) := by decide +kernel
theorem dX7_verb_93 : decode cX7_verb 93 = .ok (.ireturn, 1) := by decide +kernel
theorem dX7_verb_94 : decode cX7_verb 94 = .ok (.lload_n 1, 1) := by decide +kernel
theorem dX7_verb_95 : decode cX7_verb 95 = .ok (.bipush 108, 2) := by decide +kernel
theorem dX7_verb_97 : decode cX7_verb 97 = .ok (.bipush 111, 2) := by decide +kernel
theorem dX7_verb_99 : decode cX7_verb 99 = .ok (.bipush 111, 2) := by decide +kernel
theorem dX7_verb_101 : decode cX7_verb 101 = .ok (.bipush 109, 2) := by decide +kernel
theorem dX7_verb_103 : decode cX7_verb 103 = .ok (.iconst 0, 1) := by decide +kernel
theorem dX7_verb_104 : decode cX7_verb 104 = .ok (.iconst 0, 1) := by decide +kernel
theorem dX7_verb_105 : decode cX7_verb 105 = .ok (.iconst 0, 1) := by decide +kernel
theorem dX7_verb_106 : decode cX7_verb 106 = .ok (.invokestatic 117, 3) := by decide +kernel
theorem dX7_verb_109 : decode cX7_verb 109 = .ok (.lcmp, 1) := by decide +kernel
theorem dX7_verb_110 : decode cX7_verb 110 = .ok (.ifCond .ne 5, 3) := by decide +kernel
theorem dX7_verb_113 : decode cX7_verb 113 = .ok (.iconst 4, 1) := by decide +kernel
theorem dX7_verb_114 : decode cX7_verb 114 = .ok (.ireturn, 1) := by decide +kernel
theorem dX7_verb_115 : decode cX7_verb 115 = .ok (.lload_n 1, 1) := by decide +kernel
theorem dX7_verb_116 : decode cX7_verb 116 = .ok (.bipush 111, 2) := by decide +kernel
theorem dX7_verb_118 : decode cX7_verb 118 = .ok (.bipush 118, 2) := by decide +kernel
theorem dX7_verb_120 : decode cX7_verb 120 = .ok (.bipush 101, 2) := by decide +kernel
theorem dX7_verb_122 : decode cX7_verb 122 = .ok (.bipush 114, 2) := by decide +kernel
theorem dX7_verb_124 : decode cX7_verb 124 = .ok (.iconst 0, 1) := by decide +kernel
theorem dX7_verb_125 : decode cX7_verb 125 = .ok (.iconst 0, 1) := by decide +kernel
theorem dX7_verb_126 : decode cX7_verb 126 = .ok (.iconst 0, 1) := by decide +kernel
theorem dX7_verb_127 : decode cX7_verb 127 = .ok (.invokestatic 117, 3) := by decide +kernel
theorem dX7_verb_130 : decode cX7_verb 130 = .ok (.lcmp, 1) := by decide +kernel
theorem dX7_verb_131 : decode cX7_verb 131 = .ok (.ifCond .ne 5, 3) := by decide +kernel
theorem dX7_verb_134 : decode cX7_verb 134 = .ok (.iconst 5, 1) := by decide +kernel
theorem dX7_verb_135 : decode cX7_verb 135 = .ok (.ireturn, 1) := by decide +kernel
theorem dX7_verb_136 : decode cX7_verb 136 = .ok (.lload_n 1, 1) := by decide +kernel
theorem dX7_verb_137 : decode cX7_verb 137 = .ok (.bipush 107, 2) := by decide +kernel
theorem dX7_verb_139 : decode cX7_verb 139 = .ok (.bipush 110, 2) := by decide +kernel
theorem dX7_verb_141 : decode cX7_verb 141 = .ok (.bipush 111, 2) := by decide +kernel
theorem dX7_verb_143 : decode cX7_verb 143 = .ok (.bipush 116, 2) := by decide +kernel
theorem dX7_verb_145 : decode cX7_verb 145 = .ok (.iconst 0, 1) := by decide +kernel
theorem dX7_verb_146 : decode cX7_verb 146 = .ok (.iconst 0, 1) := by decide +kernel
theorem dX7_verb_147 : decode cX7_verb 147 = .ok (.iconst 0, 1) := by decide +kernel
theorem dX7_verb_148 : decode cX7_verb 148 = .ok (.invokestatic 117, 3) := by decide +kernel
theorem dX7_verb_151 : decode cX7_verb 151 = .ok (.lcmp, 1) := by decide +kernel
theorem dX7_verb_152 : decode cX7_verb 152 = .ok (.ifCond .ne 6, 3) := by decide +kernel
theorem dX7_verb_155 : decode cX7_verb 155 = .ok (.bipush 6, 2) := by decide +kernel
theorem dX7_verb_157 : decode cX7_verb 157 = .ok (.ireturn, 1) := by decide +kernel
theorem dX7_verb_158 : decode cX7_verb 158 = .ok (.lload_n 1, 1) := by decide +kernel
theorem dX7_verb_159 : decode cX7_verb 159 = .ok (.bipush 99, 2) := by decide +kernel
theorem dX7_verb_161 : decode cX7_verb 161 = .ok (.bipush 117, 2) := by decide +kernel
theorem dX7_verb_163 : decode cX7_verb 163 = .ok (.bipush 116, 2) := by decide +kernel
theorem dX7_verb_165 : decode cX7_verb 165 = .ok (.iconst 0, 1) := by decide +kernel
theorem dX7_verb_166 : decode cX7_verb 166 = .ok (.iconst 0, 1) := by decide +kernel
theorem dX7_verb_167 : decode cX7_verb 167 = .ok (.iconst 0, 1) := by decide +kernel
theorem dX7_verb_168 : decode cX7_verb 168 = .ok (.iconst 0, 1) := by decide +kernel
theorem dX7_verb_169 : decode cX7_verb 169 = .ok (.invokestatic 117, 3) := by decide +kernel
theorem dX7_verb_172 : decode cX7_verb 172 = .ok (.lcmp, 1) := by decide +kernel
theorem dX7_verb_173 : decode cX7_verb 173 = .ok (.ifCond .ne 6, 3) := by decide +kernel
theorem dX7_verb_176 : decode cX7_verb 176 = .ok (.bipush 7, 2) := by decide +kernel
theorem dX7_verb_178 : decode cX7_verb 178 = .ok (.ireturn, 1) := by decide +kernel
theorem dX7_verb_179 : decode cX7_verb 179 = .ok (.lload_n 1, 1) := by decide +kernel
theorem dX7_verb_180 : decode cX7_verb 180 = .ok (.bipush 99, 2) := by decide +kernel
theorem dX7_verb_182 : decode cX7_verb 182 = .ok (.bipush 97, 2) := by decide +kernel
theorem dX7_verb_184 : decode cX7_verb 184 = .ok (.bipush 108, 2) := by decide +kernel
theorem dX7_verb_186 : decode cX7_verb 186 = .ok (.bipush 109, 2) := by decide +kernel
theorem dX7_verb_188 : decode cX7_verb 188 = .ok (.iconst 0, 1) := by decide +kernel
theorem dX7_verb_189 : decode cX7_verb 189 = .ok (.iconst 0, 1) := by decide +kernel
theorem dX7_verb_190 : decode cX7_verb 190 = .ok (.iconst 0, 1) := by decide +kernel
theorem dX7_verb_191 : decode cX7_verb 191 = .ok (.invokestatic 117, 3) := by decide +kernel
theorem dX7_verb_194 : decode cX7_verb 194 = .ok (.lcmp, 1) := by decide +kernel
theorem dX7_verb_195 : decode cX7_verb 195 = .ok (.ifCond .ne 8, 3) := by decide +kernel
theorem dX7_verb_198 : decode cX7_verb 198 = .ok (.bipush 8, 2) := by decide +kernel
theorem dX7_verb_200 : decode cX7_verb 200 = .ok (.goto 28, 3) := by decide +kernel
theorem dX7_verb_203 : decode cX7_verb 203 = .ok (.lload_n 1, 1) := by decide +kernel
theorem dX7_verb_204 : decode cX7_verb 204 = .ok (.bipush 102, 2) := by decide +kernel
theorem dX7_verb_206 : decode cX7_verb 206 = .ok (.bipush 114, 2) := by decide +kernel
theorem dX7_verb_208 : decode cX7_verb 208 = .ok (.bipush 101, 2) := by decide +kernel
theorem dX7_verb_210 : decode cX7_verb 210 = .ok (.bipush 101, 2) := by decide +kernel
theorem dX7_verb_212 : decode cX7_verb 212 = .ok (.iconst 0, 1) := by decide +kernel
theorem dX7_verb_213 : decode cX7_verb 213 = .ok (.iconst 0, 1) := by decide +kernel
theorem dX7_verb_214 : decode cX7_verb 214 = .ok (.iconst 0, 1) := by decide +kernel
theorem dX7_verb_215 : decode cX7_verb 215 = .ok (.invokestatic 117, 3) := by decide +kernel
theorem dX7_verb_218 : decode cX7_verb 218 = .ok (.lcmp, 1) := by decide +kernel
theorem dX7_verb_219 : decode cX7_verb 219 = .ok (.ifCond .ne 8, 3) := by decide +kernel
theorem dX7_verb_222 : decode cX7_verb 222 = .ok (.bipush 9, 2) := by decide +kernel
theorem dX7_verb_224 : decode cX7_verb 224 = .ok (.goto 4, 3) := by decide +kernel
theorem dX7_verb_227 : decode cX7_verb 227 = .ok (.iconst (-1), 1) := by decide +kernel
theorem dX7_verb_228 : decode cX7_verb 228 = .ok (.ireturn, 1) := by decide +kernel
theorem dX7_number_0 : decode cX7_number 0 = .ok (.aload_n 0, 1) := by decide +kernel
theorem dX7_number_1 : decode cX7_number 1 = .ok (.invokevirtual 121, 3) := by decide +kernel
theorem dX7_number_4 : decode cX7_number 4 = .ok (.aload_n 0, 1) := by decide +kernel
theorem dX7_number_5 : decode cX7_number 5 = .ok (.getfield 100, 3) := by decide +kernel
theorem dX7_number_8 : decode cX7_number 8 = .ok (.iconst 2, 1) := by decide +kernel
theorem dX7_number_9 : decode cX7_number 9 = .ok (.if_icmp .ne 25, 3) := by decide +kernel
theorem dX7_number_12 : decode cX7_number 12 = .ok (.aload_n 0, 1) := by decide +kernel
theorem dX7_number_13 : decode cX7_number 13 = .ok (.getfield 97, 3) := by decide +kernel
theorem dX7_number_16 : decode cX7_number 16 = .ok (.i2l, 1) := by decide +kernel
theorem dX7_number_17 : decode cX7_number 17 = .ok (.iload_n 1, 1) := by decide +kernel
theorem dX7_number_18 : decode cX7_number 18 = .ok (.i2l, 1) := by decide +kernel
theorem dX7_number_19 : decode cX7_number 19 = .ok (.iload_n 2, 1) := by decide +kernel
theorem dX7_number_20 : decode cX7_number 20 = .ok (.i2l, 1) := by decide +kernel
theorem dX7_number_21 : decode cX7_number 21 = .ok (.invokestatic 78, 3) := by decide +kernel
theorem dX7_number_24 : decode cX7_number 24 = .ok (.ifCond .eq 10, 3) := by decide +kernel
theorem dX7_number_27 : decode cX7_number 27 = .ok (.aload_n 0, 1) := by decide +kernel
theorem dX7_number_28 : decode cX7_number 28 = .ok (.getfield 97, 3) := by decide +kernel
theorem dX7_number_31 : decode cX7_number 31 = .ok (.goto 4, 3) := by decide +kernel
theorem dX7_number_34 : decode cX7_number 34 = .ok (.iconst (-1), 1) := by decide +kernel
theorem dX7_number_35 : decode cX7_number 35 = .ok (.ireturn, 1) := by decide +kernel
theorem dX7_isAbove_0 : decode cX7_isAbove 0 = .ok (.aload_n 0, 1) := by decide +kernel
theorem dX7_isAbove_1 : decode cX7_isAbove 1 = .ok (.iload_n 2, 1) := by decide +kernel
theorem dX7_isAbove_2 : decode cX7_isAbove 2 = .ok (.iaload, 1) := by decide +kernel
theorem dX7_isAbove_3 : decode cX7_isAbove 3 = .ok (.istore_n 3, 1) := by decide +kernel
theorem dX7_isAbove_4 : decode cX7_isAbove 4 = .ok (.iconst 0, 1) := by decide +kernel
theorem dX7_isAbove_5 : decode cX7_isAbove 5 = .ok (.istore 4, 2) := by decide +kernel
theorem dX7_isAbove_7 : decode cX7_isAbove 7 = .ok (.iload 4, 2) := by decide +kernel
theorem dX7_isAbove_9 : decode cX7_isAbove 9 = .ok (.bipush 8, 2) := by decide +kernel
theorem dX7_isAbove_11 : decode cX7_isAbove 11 = .ok (.if_icmp .ge 45, 3) := by decide +kernel
theorem dX7_isAbove_14 : decode cX7_isAbove 14 = .ok (.iconst 0, 1) := by decide +kernel
theorem dX7_isAbove_15 : decode cX7_isAbove 15 = .ok (.istore 5, 2) := by decide +kernel
theorem dX7_isAbove_17 : decode cX7_isAbove 17 = .ok (.iload 5, 2) := by decide +kernel
theorem dX7_isAbove_19 : decode cX7_isAbove 19 = .ok (.bipush 8, 2) := by decide +kernel
theorem dX7_isAbove_21 : decode cX7_isAbove 21 = .ok (.if_icmp .ge 29, 3) := by decide +kernel
theorem dX7_isAbove_24 : decode cX7_isAbove 24 = .ok (.iload_n 3, 1) := by decide +kernel
theorem dX7_isAbove_25 : decode cX7_isAbove 25 = .ok (.iload_n 3, 1) := by decide +kernel
theorem dX7_isAbove_26 : decode cX7_isAbove 26 = .ok (.iload 5, 2) := by decide +kernel
theorem dX7_isAbove_28 : decode cX7_isAbove 28 = .ok (.invokestatic 124, 3) := by decide +kernel
theorem dX7_isAbove_31 : decode cX7_isAbove 31 = .ok (.ifCond .eq 10, 3) := by decide +kernel
theorem dX7_isAbove_34 : decode cX7_isAbove 34 = .ok (.aload_n 0, 1) := by decide +kernel
theorem dX7_isAbove_35 : decode cX7_isAbove 35 = .ok (.iload 5, 2) := by decide +kernel
theorem dX7_isAbove_37 : decode cX7_isAbove 37 = .ok (.iaload, 1) := by decide +kernel
theorem dX7_isAbove_38 : decode cX7_isAbove 38 = .ok (.goto 4, 3) := by decide +kernel
theorem dX7_isAbove_41 : decode cX7_isAbove 41 = .ok (.iconst 0, 1) := by decide +kernel
theorem dX7_isAbove_42 : decode cX7_isAbove 42 = .ok (.ior, 1) := by decide +kernel
theorem dX7_isAbove_43 : decode cX7_isAbove 43 = .ok (.istore_n 3, 1) := by decide +kernel
theorem dX7_isAbove_44 : decode cX7_isAbove 44 = .ok (.iinc 5 1, 3) := by decide +kernel
theorem dX7_isAbove_47 : decode cX7_isAbove 47 = .ok (.goto (-30), 3) := by decide +kernel
theorem dX7_isAbove_50 : decode cX7_isAbove 50 = .ok (.iinc 4 1, 3) := by decide +kernel
theorem dX7_isAbove_53 : decode cX7_isAbove 53 = .ok (.goto (-46), 3) := by decide +kernel
theorem dX7_isAbove_56 : decode cX7_isAbove 56 = .ok (.iload_n 3, 1) := by decide +kernel
theorem dX7_isAbove_57 : decode cX7_isAbove 57 = .ok (.iload_n 1, 1) := by decide +kernel
theorem dX7_isAbove_58 : decode cX7_isAbove 58 = .ok (.invokestatic 124, 3) := by decide +kernel
theorem dX7_isAbove_61 : decode cX7_isAbove 61 = .ok (.ireturn, 1) := by decide +kernel
theorem dX7_readThread_0 : decode cX7_readThread 0 = .ok (.aload_n 0, 1) := by decide +kernel
theorem dX7_readThread_1 : decode cX7_readThread 1 = .ok (.getfield 128, 3) := by decide +kernel
theorem dX7_readThread_4 : decode cX7_readThread 4 = .ok (.bipush 8, 2) := by decide +kernel
theorem dX7_readThread_6 : decode cX7_readThread 6 = .ok (.if_icmp .ne 5, 3) := by decide +kernel
theorem dX7_readThread_9 : decode cX7_readThread 9 = .ok (.iconst 0, 1) := by decide +kernel
theorem dX7_readThread_10 : decode cX7_readThread 10 = .ok (.ireturn, 1) := by decide +kernel
theorem dX7_readThread_11 : decode cX7_readThread 11 = .ok (.aload_n 0, 1) := by decide +kernel
theorem dX7_readThread_12 : decode cX7_readThread 12 = .ok (.iconst 1, 1) := by decide +kernel
theorem dX7_readThread_13 : decode cX7_readThread 13 = .ok (.bipush 60, 2) := by decide +kernel
theorem dX7_readThread_15 : decode cX7_readThread 15 = .ok (.invokevirtual 131, 3) := by decide +kernel
theorem dX7_readThread_18 : decode cX7_readThread 18 = .ok (.istore_n 2, 1) := by decide +kernel
theorem dX7_readThread_19 : decode cX7_readThread 19 = .ok (.iload_n 2, 1) := by decide +kernel
theorem dX7_readThread_20 : decode cX7_readThread 20 = .ok (.ifCond .ge 7, 3) := by decide +kernel
theorem dX7_readThread_23 : decode cX7_readThread 23 = .ok (.iconst (-1), 1) := by decide +kernel
theorem dX7_readThread_24 : decode cX7_readThread 24 = .ok (.goto 9, 3) := by decide +kernel
theorem dX7_readThread_27 : decode cX7_readThread 27 = .ok (.aload_n 0, 1) := by decide +kernel
theorem dX7_readThread_28 : decode cX7_readThread 28 = .ok (.iconst 0, 1) := by decide +kernel
theorem dX7_readThread_29 : decode cX7_readThread 29 = .ok (.iconst 3, 1) := by decide +kernel
theorem dX7_readThread_30 : decode cX7_readThread 30 = .ok (.invokevirtual 131, 3) := by decide +kernel
theorem dX7_readThread_33 : decode cX7_readThread 33 = .ok (.istore_n 3, 1) := by decide +kernel
theorem dX7_readThread_34 : decode cX7_readThread 34 = .ok (.iload_n 3, 1) := by decide +kernel
theorem dX7_readThread_35 : decode cX7_readThread 35 = .ok (.ifCond .ge 5, 3) := by decide +kernel
theorem dX7_readThread_38 : decode cX7_readThread 38 = .ok (.iconst 0, 1) := by decide +kernel
theorem dX7_readThread_39 : decode cX7_readThread 39 = .ok (.ireturn, 1) := by decide +kernel
theorem dX7_readThread_40 : decode cX7_readThread 40 = .ok (.aload_n 0, 1) := by decide +kernel
theorem dX7_readThread_41 : decode cX7_readThread 41 = .ok (.getfield 31, 3) := by decide +kernel
theorem dX7_readThread_44 : decode cX7_readThread 44 = .ok (.iconst 3, 1) := by decide +kernel
theorem dX7_readThread_45 : decode cX7_readThread 45 = .ok (.aload_n 0, 1) := by decide +kernel
theorem dX7_readThread_46 : decode cX7_readThread 46 = .ok (.getfield 128, 3) := by decide +kernel
theorem dX7_readThread_49 : decode cX7_readThread 49 = .ok (.imul, 1) := by decide +kernel
theorem dX7_readThread_50 : decode cX7_readThread 50 = .ok (.iload_n 1, 1) := by decide +kernel
theorem dX7_readThread_51 : decode cX7_readThread 51 = .ok (.iastore, 1) := by decide +kernel
theorem dX7_readThread_52 : decode cX7_readThread 52 = .ok (.aload_n 0, 1) := by decide +kernel
theorem dX7_readThread_53 : decode cX7_readThread 53 = .ok (.getfield 31, 3) := by decide +kernel
theorem dX7_readThread_56 : decode cX7_readThread 56 = .ok (.iconst 3, 1) := by decide +kernel
theorem dX7_readThread_57 : decode cX7_readThread 57 = .ok (.aload_n 0, 1) := by decide +kernel
theorem dX7_readThread_58 : decode cX7_readThread 58 = .ok (.getfield 128, 3) := by decide +kernel
theorem dX7_readThread_61 : decode cX7_readThread 61 = .ok (.imul, 1) := by decide +kernel
theorem dX7_readThread_62 : decode cX7_readThread 62 = .ok (.iconst 1, 1) := by decide +kernel
theorem dX7_readThread_63 : decode cX7_readThread 63 = .ok (.iadd, 1) := by decide +kernel
theorem dX7_readThread_64 : decode cX7_readThread 64 = .ok (.iload_n 2, 1) := by decide +kernel
theorem dX7_readThread_65 : decode cX7_readThread 65 = .ok (.iastore, 1) := by decide +kernel
theorem dX7_readThread_66 : decode cX7_readThread 66 = .ok (.aload_n 0, 1) := by decide +kernel
theorem dX7_readThread_67 : decode cX7_readThread 67 = .ok (.getfield 31, 3) := by decide +kernel
theorem dX7_readThread_70 : decode cX7_readThread 70 = .ok (.iconst 3, 1) := by decide +kernel
theorem dX7_readThread_71 : decode cX7_readThread 71 = .ok (.aload_n 0, 1) := by decide +kernel
theorem dX7_readThread_72 : decode cX7_readThread 72 = .ok (.getfield 128, 3) := by decide +kernel
theorem dX7_readThread_75 : decode cX7_readThread 75 = .ok (.imul, 1) := by decide +kernel
theorem dX7_readThread_76 : decode cX7_readThread 76 = .ok (.iconst 2, 1) := by decide +kernel
theorem dX7_readThread_77 : decode cX7_readThread 77 = .ok (.iadd, 1) := by decide +kernel
theorem dX7_readThread_78 : decode cX7_readThread 78 = .ok (.iload_n 3, 1) := by decide +kernel
theorem dX7_readThread_79 : decode cX7_readThread 79 = .ok (.iastore, 1) := by decide +kernel
theorem dX7_readThread_80 : decode cX7_readThread 80 = .ok (.aload_n 0, 1) := by decide +kernel
theorem dX7_readThread_81 : decode cX7_readThread 81 = .ok (.getfield 34, 3) := by decide +kernel
theorem dX7_readThread_84 : decode cX7_readThread 84 = .ok (.aload_n 0, 1) := by decide +kernel
theorem dX7_readThread_85 : decode cX7_readThread 85 = .ok (.getfield 128, 3) := by decide +kernel
theorem dX7_readThread_88 : decode cX7_readThread 88 = .ok (.iconst 0, 1) := by decide +kernel
theorem dX7_readThread_89 : decode cX7_readThread 89 = .ok (.iastore, 1) := by decide +kernel
theorem dX7_readThread_90 : decode cX7_readThread 90 = .ok (.aload_n 0, 1) := by decide +kernel
theorem dX7_readThread_91 : decode cX7_readThread 91 = .ok (.getfield 37, 3) := by decide +kernel
theorem dX7_readThread_94 : decode cX7_readThread 94 = .ok (.aload_n 0, 1) := by decide +kernel
theorem dX7_readThread_95 : decode cX7_readThread 95 = .ok (.getfield 128, 3) := by decide +kernel
theorem dX7_readThread_98 : decode cX7_readThread 98 = .ok (.iconst 0, 1) := by decide +kernel
theorem dX7_readThread_99 : decode cX7_readThread 99 = .ok (.iastore, 1) := by decide +kernel
theorem dX7_readThread_100 : decode cX7_readThread 100 = .ok (.aload_n 0, 1) := by decide +kernel
theorem dX7_readThread_101 : decode cX7_readThread 101 = .ok (.dup, 1) := by decide +kernel
theorem dX7_readThread_102 : decode cX7_readThread 102 = .ok (.getfield 128, 3) := by decide +kernel
theorem dX7_readThread_105 : decode cX7_readThread 105 = .ok (.iconst 1, 1) := by decide +kernel
theorem dX7_readThread_106 : decode cX7_readThread 106 = .ok (.iadd, 1) := by decide +kernel
theorem dX7_readThread_107 : decode cX7_readThread 107 = .ok (.putfield 128, 3) := by decide +kernel
theorem dX7_readThread_110 : decode cX7_readThread 110 = .ok (.iconst 1, 1) := by decide +kernel
theorem dX7_readThread_111 : decode cX7_readThread 111 = .ok (.ireturn, 1) := by decide +kernel
theorem dX7_readTwo_0 : decode cX7_readTwo 0 = .ok (.iload_n 1, 1) := by decide +kernel
theorem dX7_readTwo_1 : decode cX7_readTwo 1 = .ok (.bipush 7, 2) := by decide +kernel
theorem dX7_readTwo_3 : decode cX7_readTwo 3 = .ok (.if_icmp .ne 14, 3) := by decide +kernel
theorem dX7_readTwo_6 : decode cX7_readTwo 6 = .ok (.aload_n 0, 1) := by decide +kernel
theorem dX7_readTwo_7 : decode cX7_readTwo 7 = .ok (.getfield 135, 3) := by decide +kernel
theorem dX7_readTwo_10 : decode cX7_readTwo 10 = .ok (.bipush 6, 2) := by decide +kernel
theorem dX7_readTwo_12 : decode cX7_readTwo 12 = .ok (.if_icmp .ne 5, 3) := by decide +kernel
theorem dX7_readTwo_15 : decode cX7_readTwo 15 = .ok (.iconst 0, 1) := by decide +kernel
theorem dX7_readTwo_16 : decode cX7_readTwo 16 = .ok (.ireturn, 1) := by decide +kernel
theorem dX7_readTwo_17 : decode cX7_readTwo 17 = .ok (.aload_n 0, 1) := by decide +kernel
theorem dX7_readTwo_18 : decode cX7_readTwo 18 = .ok (.iconst 0, 1) := by decide +kernel
theorem dX7_readTwo_19 : decode cX7_readTwo 19 = .ok (.aload_n 0, 1) := by decide +kernel
theorem dX7_readTwo_20 : decode cX7_readTwo 20 = .ok (.getfield 128, 3) := by decide +kernel
theorem dX7_readTwo_23 : decode cX7_readTwo 23 = .ok (.iconst 1, 1) := by decide +kernel
theorem dX7_readTwo_24 : decode cX7_readTwo 24 = .ok (.isub, 1) := by decide +kernel
theorem dX7_readTwo_25 : decode cX7_readTwo 25 = .ok (.invokevirtual 131, 3) := by decide +kernel
theorem dX7_readTwo_28 : decode cX7_readTwo 28 = .ok (.istore_n 2, 1) := by decide +kernel
theorem dX7_readTwo_29 : decode cX7_readTwo 29 = .ok (.iload_n 2, 1) := by decide +kernel
theorem dX7_readTwo_30 : decode cX7_readTwo 30 = .ok (.ifCond .ge 7, 3) := by decide +kernel
theorem dX7_readTwo_33 : decode cX7_readTwo 33 = .ok (.iconst (-1), 1) := by decide +kernel
theorem dX7_readTwo_34 : decode cX7_readTwo 34 = .ok (.goto 25, 3) := by decide +kernel
theorem dX7_readTwo_37 : decode cX7_readTwo 37 = .ok (.aload_n 0, 1) := by decide +kernel
theorem dX7_readTwo_38 : decode cX7_readTwo 38 = .ok (.iconst 0, 1) := by decide +kernel
theorem dX7_readTwo_39 : decode cX7_readTwo 39 = .ok (.iload_n 1, 1) := by decide +kernel
theorem dX7_readTwo_40 : decode cX7_readTwo 40 = .ok (.bipush 7, 2) := by decide +kernel
theorem dX7_readTwo_42 : decode cX7_readTwo 42 = .ok (.if_icmp .ne 8, 3) := by decide +kernel
theorem dX7_readTwo_45 : decode cX7_readTwo 45 = .ok (.bipush 99, 2) := by decide +kernel
theorem dX7_readTwo_47 : decode cX7_readTwo 47 = .ok (.goto 9, 3) := by decide +kernel
theorem dX7_readTwo_50 : decode cX7_readTwo 50 = .ok (.aload_n 0, 1) := by decide +kernel
theorem dX7_readTwo_51 : decode cX7_readTwo 51 = .ok (.getfield 128, 3) := by decide +kernel
theorem dX7_readTwo_54 : decode cX7_readTwo 54 = .ok (.iconst 1, 1) := by decide +kernel
theorem dX7_readTwo_55 : decode cX7_readTwo 55 = .ok (.isub, 1) := by decide +kernel
theorem dX7_readTwo_56 : decode cX7_readTwo 56 = .ok (.invokevirtual 131, 3) := by decide +kernel
theorem dX7_readTwo_59 : decode cX7_readTwo 59 = .ok (.istore_n 3, 1) := by decide +kernel
theorem dX7_readTwo_60 : decode cX7_readTwo 60 = .ok (.iload_n 3, 1) := by decide +kernel
theorem dX7_readTwo_61 : decode cX7_readTwo 61 = .ok (.ifCond .lt 31, 3) := by decide +kernel
theorem dX7_readTwo_64 : decode cX7_readTwo 64 = .ok (.iload_n 1, 1) := by decide +kernel
theorem dX7_readTwo_65 : decode cX7_readTwo 65 = .ok (.bipush 7, 2) := by decide +kernel
theorem dX7_readTwo_67 : decode cX7_readTwo 67 = .ok (.if_icmp .ge 8, 3) := by decide +kernel
theorem dX7_readTwo_70 : decode cX7_readTwo 70 = .ok (.iload_n 2, 1) := by decide +kernel
theorem dX7_readTwo_71 : decode cX7_readTwo 71 = .ok (.iload_n 3, 1) := by decide +kernel
theorem dX7_readTwo_72 : decode cX7_readTwo 72 = .ok (.if_icmp .eq 20, 3) := by decide +kernel
theorem dX7_readTwo_75 : decode cX7_readTwo 75 = .ok (.iload_n 1, 1) := by decide +kernel
theorem dX7_readTwo_76 : decode cX7_readTwo 76 = .ok (.iconst 5, 1) := by decide +kernel
theorem dX7_readTwo_77 : decode cX7_readTwo 77 = .ok (.if_icmp .ne 17, 3) := by decide +kernel
theorem dX7_readTwo_80 : decode cX7_readTwo 80 = .ok (.aload_n 0, 1) := by decide +kernel
theorem dX7_readTwo_81 : decode cX7_readTwo 81 = .ok (.getfield 34, 3) := by decide +kernel
theorem dX7_readTwo_84 : decode cX7_readTwo 84 = .ok (.iload_n 3, 1) := by decide +kernel
theorem dX7_readTwo_85 : decode cX7_readTwo 85 = .ok (.iload_n 2, 1) := by decide +kernel
theorem dX7_readTwo_86 : decode cX7_readTwo 86 = .ok (.invokestatic 138, 3) := by decide +kernel
theorem dX7_readTwo_89 : decode cX7_readTwo 89 = .ok (.ifCond .eq 5, 3) := by decide +kernel
theorem dX7_readTwo_92 : decode cX7_readTwo 92 = .ok (.iconst 0, 1) := by decide +kernel
theorem dX7_readTwo_93 : decode cX7_readTwo 93 = .ok (.ireturn, 1) := by decide +kernel
theorem dX7_readTwo_94 : decode cX7_readTwo 94 = .ok (.iload_n 1, 1) := by decide +kernel
theorem dX7_readTwo_95 : decode cX7_readTwo 95 = .ok (.iconst 5, 1) := by decide +kernel
theorem dX7_readTwo_96 : decode cX7_readTwo 96 = .ok (.if_icmp .ne 18, 3) := by decide +kernel
theorem dX7_readTwo_99 : decode cX7_readTwo 99 = .ok (.aload_n 0, 1) := by decide +kernel
theorem dX7_readTwo_100 : decode cX7_readTwo 100 = .ok (.getfield 34, 3) := by decide +kernel
theorem dX7_readTwo_103 : decode cX7_readTwo 103 = .ok (.iload_n 3, 1) := by decide +kernel
theorem dX7_readTwo_104 : decode cX7_readTwo 104 = .ok (.dup2, 1) := by decide +kernel
theorem dX7_readTwo_105 : decode cX7_readTwo 105 = .ok (.iaload, 1) := by decide +kernel
theorem dX7_readTwo_106 : decode cX7_readTwo 106 = .ok (.iconst 1, 1) := by decide +kernel
theorem dX7_readTwo_107 : decode cX7_readTwo 107 = .ok (.iload_n 2, 1) := by decide +kernel
theorem dX7_readTwo_108 : decode cX7_readTwo 108 = .ok (.ishl, 1) := by decide +kernel
theorem dX7_readTwo_109 : decode cX7_readTwo 109 = .ok (.ior, 1) := by decide +kernel
theorem dX7_readTwo_110 : decode cX7_readTwo 110 = .ok (.iastore, 1) := by decide +kernel
theorem dX7_readTwo_111 : decode cX7_readTwo 111 = .ok (.goto 66, 3) := by decide +kernel
theorem dX7_readTwo_114 : decode cX7_readTwo 114 = .ok (.iload_n 1, 1) := by decide +kernel
theorem dX7_readTwo_115 : decode cX7_readTwo 115 = .ok (.bipush 6, 2) := by decide +kernel
theorem dX7_readTwo_117 : decode cX7_readTwo 117 = .ok (.if_icmp .ne 30, 3) := by decide +kernel
theorem dX7_readTwo_120 : decode cX7_readTwo 120 = .ok (.aload_n 0, 1) := by decide +kernel
theorem dX7_readTwo_121 : decode cX7_readTwo 121 = .ok (.getfield 37, 3) := by decide +kernel
theorem dX7_readTwo_124 : decode cX7_readTwo 124 = .ok (.iload_n 2, 1) := by decide +kernel
theorem dX7_readTwo_125 : decode cX7_readTwo 125 = .ok (.dup2, 1) := by decide +kernel
theorem dX7_readTwo_126 : decode cX7_readTwo 126 = .ok (.iaload, 1) := by decide +kernel
theorem dX7_readTwo_127 : decode cX7_readTwo 127 = .ok (.iconst 1, 1) := by decide +kernel
theorem dX7_readTwo_128 : decode cX7_readTwo 128 = .ok (.iload_n 3, 1) := by decide +kernel
theorem dX7_readTwo_129 : decode cX7_readTwo 129 = .ok (.ishl, 1) := by decide +kernel
theorem dX7_readTwo_130 : decode cX7_readTwo 130 = .ok (.ior, 1) := by decide +kernel
theorem dX7_readTwo_131 : decode cX7_readTwo 131 = .ok (.iastore, 1) := by decide +kernel
theorem dX7_readTwo_132 : decode cX7_readTwo 132 = .ok (.aload_n 0, 1) := by decide +kernel
theorem dX7_readTwo_133 : decode cX7_readTwo 133 = .ok (.getfield 37, 3) := by decide +kernel
theorem dX7_readTwo_136 : decode cX7_readTwo 136 = .ok (.iload_n 3, 1) := by decide +kernel
theorem dX7_readTwo_137 : decode cX7_readTwo 137 = .ok (.dup2, 1) := by decide +kernel
theorem dX7_readTwo_138 : decode cX7_readTwo 138 = .ok (.iaload, 1) := by decide +kernel
theorem dX7_readTwo_139 : decode cX7_readTwo 139 = .ok (.iconst 1, 1) := by decide +kernel
theorem dX7_readTwo_140 : decode cX7_readTwo 140 = .ok (.iload_n 2, 1) := by decide +kernel
theorem dX7_readTwo_141 : decode cX7_readTwo 141 = .ok (.ishl, 1) := by decide +kernel
theorem dX7_readTwo_142 : decode cX7_readTwo 142 = .ok (.ior, 1) := by decide +kernel
theorem dX7_readTwo_143 : decode cX7_readTwo 143 = .ok (.iastore, 1) := by decide +kernel
theorem dX7_readTwo_144 : decode cX7_readTwo 144 = .ok (.goto 33, 3) := by decide +kernel
theorem dX7_readTwo_147 : decode cX7_readTwo 147 = .ok (.aload_n 0, 1) := by decide +kernel
theorem dX7_readTwo_148 : decode cX7_readTwo 148 = .ok (.getfield 40, 3) := by decide +kernel
theorem dX7_readTwo_151 : decode cX7_readTwo 151 = .ok (.aload_n 0, 1) := by decide +kernel
theorem dX7_readTwo_152 : decode cX7_readTwo 152 = .ok (.getfield 135, 3) := by decide +kernel
theorem dX7_readTwo_155 : decode cX7_readTwo 155 = .ok (.iload_n 2, 1) := by decide +kernel
theorem dX7_readTwo_156 : decode cX7_readTwo 156 = .ok (.iastore, 1) := by decide +kernel
theorem dX7_readTwo_157 : decode cX7_readTwo 157 = .ok (.aload_n 0, 1) := by decide +kernel
theorem dX7_readTwo_158 : decode cX7_readTwo 158 = .ok (.getfield 43, 3) := by decide +kernel
theorem dX7_readTwo_161 : decode cX7_readTwo 161 = .ok (.aload_n 0, 1) := by decide +kernel
theorem dX7_readTwo_162 : decode cX7_readTwo 162 = .ok (.getfield 135, 3) := by decide +kernel
theorem dX7_readTwo_165 : decode cX7_readTwo 165 = .ok (.iload_n 3, 1) := by decide +kernel
theorem dX7_readTwo_166 : decode cX7_readTwo 166 = .ok (.iastore, 1) := by decide +kernel
theorem dX7_readTwo_167 : decode cX7_readTwo 167 = .ok (.aload_n 0, 1) := by decide +kernel
theorem dX7_readTwo_168 : decode cX7_readTwo 168 = .ok (.dup, 1) := by decide +kernel
theorem dX7_readTwo_169 : decode cX7_readTwo 169 = .ok (.getfield 135, 3) := by decide +kernel
theorem dX7_readTwo_172 : decode cX7_readTwo 172 = .ok (.iconst 1, 1) := by decide +kernel
theorem dX7_readTwo_173 : decode cX7_readTwo 173 = .ok (.iadd, 1) := by decide +kernel
theorem dX7_readTwo_174 : decode cX7_readTwo 174 = .ok (.putfield 135, 3) := by decide +kernel
theorem dX7_readTwo_177 : decode cX7_readTwo 177 = .ok (.iconst 1, 1) := by decide +kernel
theorem dX7_readTwo_178 : decode cX7_readTwo 178 = .ok (.ireturn, 1) := by decide +kernel
theorem dX7_readClause_0 : decode cX7_readClause 0 = .ok (.aload_n 0, 1) := by decide +kernel
theorem dX7_readClause_1 : decode cX7_readClause 1 = .ok (.invokevirtual 142, 3) := by decide +kernel
theorem dX7_readClause_4 : decode cX7_readClause 4 = .ok (.istore_n 1, 1) := by decide +kernel
theorem dX7_readClause_5 : decode cX7_readClause 5 = .ok (.iload_n 1, 1) := by decide +kernel
theorem dX7_readClause_6 : decode cX7_readClause 6 = .ok (.ifCond .ge 5, 3) := by decide +kernel
theorem dX7_readClause_9 : decode cX7_readClause 9 = .ok (.iconst 0, 1) := by decide +kernel
theorem dX7_readClause_10 : decode cX7_readClause 10 = .ok (.ireturn, 1) := by decide +kernel
theorem dX7_readClause_11 : decode cX7_readClause 11 = .ok (.iload_n 1, 1) := by decide +kernel
theorem dX7_readClause_12 : decode cX7_readClause 12 = .ok (.iconst 4, 1) := by decide +kernel
theorem dX7_readClause_13 : decode cX7_readClause 13 = .ok (.if_icmp .ge 9, 3) := by decide +kernel
theorem dX7_readClause_16 : decode cX7_readClause 16 = .ok (.aload_n 0, 1) := by decide +kernel
theorem dX7_readClause_17 : decode cX7_readClause 17 = .ok (.iload_n 1, 1) := by decide +kernel
theorem dX7_readClause_18 : decode cX7_readClause 18 = .ok (.invokevirtual 146, 3) := by decide +kernel
theorem dX7_readClause_21 : decode cX7_readClause 21 = .ok (.ireturn, 1) := by decide +kernel
theorem dX7_readClause_22 : decode cX7_readClause 22 = .ok (.iload_n 1, 1) := by decide +kernel
theorem dX7_readClause_23 : decode cX7_readClause 23 = .ok (.bipush 8, 2) := by decide +kernel
theorem dX7_readClause_25 : decode cX7_readClause 25 = .ok (.if_icmp .ge 14, 3) := by decide +kernel
theorem dX7_readClause_28 : decode cX7_readClause 28 = .ok (.iload_n 1, 1) := by decide +kernel
theorem dX7_readClause_29 : decode cX7_readClause 29 = .ok (.iconst 4, 1) := by decide +kernel
theorem dX7_readClause_30 : decode cX7_readClause 30 = .ok (.if_icmp .le 9, 3) := by decide +kernel
theorem dX7_readClause_33 : decode cX7_readClause 33 = .ok (.aload_n 0, 1) := by decide +kernel
theorem dX7_readClause_34 : decode cX7_readClause 34 = .ok (.iload_n 1, 1) := by decide +kernel
theorem dX7_readClause_35 : decode cX7_readClause 35 = .ok (.invokevirtual 150, 3) := by decide +kernel
theorem dX7_readClause_38 : decode cX7_readClause 38 = .ok (.ireturn, 1) := by decide +kernel
theorem dX7_readClause_39 : decode cX7_readClause 39 = .ok (.aload_n 0, 1) := by decide +kernel
theorem dX7_readClause_40 : decode cX7_readClause 40 = .ok (.iload_n 1, 1) := by decide +kernel
theorem dX7_readClause_41 : decode cX7_readClause 41 = .ok (.iconst 4, 1) := by decide +kernel
theorem dX7_readClause_42 : decode cX7_readClause 42 = .ok (.if_icmp .ne 7, 3) := by decide +kernel
theorem dX7_readClause_45 : decode cX7_readClause 45 = .ok (.iconst 0, 1) := by decide +kernel
theorem dX7_readClause_46 : decode cX7_readClause 46 = .ok (.goto 7, 3) := by decide +kernel
theorem dX7_readClause_49 : decode cX7_readClause 49 = .ok (.aload_n 0, 1) := by decide +kernel
theorem dX7_readClause_50 : decode cX7_readClause 50 = .ok (.getfield 128, 3) := by decide +kernel
theorem dX7_readClause_53 : decode cX7_readClause 53 = .ok (.putfield 128, 3) := by decide +kernel
theorem dX7_readClause_56 : decode cX7_readClause 56 = .ok (.aload_n 0, 1) := by decide +kernel
theorem dX7_readClause_57 : decode cX7_readClause 57 = .ok (.iload_n 1, 1) := by decide +kernel
theorem dX7_readClause_58 : decode cX7_readClause 58 = .ok (.bipush 9, 2) := by decide +kernel
theorem dX7_readClause_60 : decode cX7_readClause 60 = .ok (.if_icmp .ne 10, 3) := by decide +kernel
theorem dX7_readClause_63 : decode cX7_readClause 63 = .ok (.aload_n 0, 1) := by decide +kernel
theorem dX7_readClause_64 : decode cX7_readClause 64 = .ok (.getfield 135, 3) := by decide +kernel
theorem dX7_readClause_67 : decode cX7_readClause 67 = .ok (.goto 4, 3) := by decide +kernel
theorem dX7_readClause_70 : decode cX7_readClause 70 = .ok (.iconst 0, 1) := by decide +kernel
theorem dX7_readClause_71 : decode cX7_readClause 71 = .ok (.putfield 135, 3) := by decide +kernel
theorem dX7_readClause_74 : decode cX7_readClause 74 = .ok (.iconst 0, 1) := by decide +kernel
theorem dX7_readClause_75 : decode cX7_readClause 75 = .ok (.istore_n 2, 1) := by decide +kernel
theorem dX7_readClause_76 : decode cX7_readClause 76 = .ok (.iload_n 2, 1) := by decide +kernel
theorem dX7_readClause_77 : decode cX7_readClause 77 = .ok (.bipush 8, 2) := by decide +kernel
theorem dX7_readClause_79 : decode cX7_readClause 79 = .ok (.if_icmp .ge 29, 3) := by decide +kernel
theorem dX7_readClause_82 : decode cX7_readClause 82 = .ok (.iload_n 1, 1) := by decide +kernel
theorem dX7_readClause_83 : decode cX7_readClause 83 = .ok (.bipush 8, 2) := by decide +kernel
theorem dX7_readClause_85 : decode cX7_readClause 85 = .ok (.if_icmp .eq 23, 3) := by decide +kernel
theorem dX7_readClause_88 : decode cX7_readClause 88 = .ok (.aload_n 0, 1) := by decide +kernel
theorem dX7_readClause_89 : decode cX7_readClause 89 = .ok (.getfield 34, 3) := by decide +kernel
theorem dX7_readClause_92 : decode cX7_readClause 92 = .ok (.iload_n 2, 1) := by decide +kernel
theorem dX7_readClause_93 : decode cX7_readClause 93 = .ok (.iconst 0, 1) := by decide +kernel
theorem dX7_readClause_94 : decode cX7_readClause 94 = .ok (.iastore, 1) := by decide +kernel
theorem dX7_readClause_95 : decode cX7_readClause 95 = .ok (.aload_n 0, 1) := by decide +kernel
theorem dX7_readClause_96 : decode cX7_readClause 96 = .ok (.getfield 37, 3) := by decide +kernel
theorem dX7_readClause_99 : decode cX7_readClause 99 = .ok (.iload_n 2, 1) := by decide +kernel
theorem dX7_readClause_100 : decode cX7_readClause 100 = .ok (.iconst 0, 1) := by decide +kernel
theorem dX7_readClause_101 : decode cX7_readClause 101 = .ok (.iastore, 1) := by decide +kernel
theorem dX7_readClause_102 : decode cX7_readClause 102 = .ok (.iinc 2 1, 3) := by decide +kernel
theorem dX7_readClause_105 : decode cX7_readClause 105 = .ok (.goto (-29), 3) := by decide +kernel
theorem dX7_readClause_108 : decode cX7_readClause 108 = .ok (.iconst 1, 1) := by decide +kernel
theorem dX7_readClause_109 : decode cX7_readClause 109 = .ok (.ireturn, 1) := by decide +kernel
theorem dX7_readText_0 : decode cX7_readText 0 = .ok (.aload_n 0, 1) := by decide +kernel
theorem dX7_readText_1 : decode cX7_readText 1 = .ok (.iconst 0, 1) := by decide +kernel
theorem dX7_readText_2 : decode cX7_readText 2 = .ok (.putfield 87, 3) := by decide +kernel
theorem dX7_readText_5 : decode cX7_readText 5 = .ok (.aload_n 0, 1) := by decide +kernel
theorem dX7_readText_6 : decode cX7_readText 6 = .ok (.iconst 0, 1) := by decide +kernel
theorem dX7_readText_7 : decode cX7_readText 7 = .ok (.putfield 153, 3) := by decide +kernel
theorem dX7_readText_10 : decode cX7_readText 10 = .ok (.aload_n 0, 1) := by decide +kernel
theorem dX7_readText_11 : decode cX7_readText 11 = .ok (.aload_n 0, 1) := by decide +kernel
theorem dX7_readText_12 : decode cX7_readText 12 = .ok (.getfield 74, 3) := by decide +kernel
theorem dX7_readText_15 : decode cX7_readText 15 = .ok (.putfield 128, 3) := by decide +kernel
theorem dX7_readText_18 : decode cX7_readText 18 = .ok (.aload_n 0, 1) := by decide +kernel
theorem dX7_readText_19 : decode cX7_readText 19 = .ok (.aload_n 0, 1) := by decide +kernel
theorem dX7_readText_20 : decode cX7_readText 20 = .ok (.getfield 156, 3) := by decide +kernel
theorem dX7_readText_23 : decode cX7_readText 23 = .ok (.putfield 135, 3) := by decide +kernel
theorem dX7_readText_26 : decode cX7_readText 26 = .ok (.iconst 0, 1) := by decide +kernel
theorem dX7_readText_27 : decode cX7_readText 27 = .ok (.istore_n 1, 1) := by decide +kernel
theorem dX7_readText_28 : decode cX7_readText 28 = .ok (.iload_n 1, 1) := by decide +kernel
theorem dX7_readText_29 : decode cX7_readText 29 = .ok (.bipush 8, 2) := by decide +kernel
theorem dX7_readText_31 : decode cX7_readText 31 = .ok (.if_icmp .ge 85, 3) := by decide +kernel
theorem dX7_readText_34 : decode cX7_readText 34 = .ok (.aload_n 0, 1) := by decide +kernel
theorem dX7_readText_35 : decode cX7_readText 35 = .ok (.getfield 31, 3) := by decide +kernel
theorem dX7_readText_38 : decode cX7_readText 38 = .ok (.iconst 3, 1) := by decide +kernel
theorem dX7_readText_39 : decode cX7_readText 39 = .ok (.iload_n 1, 1) := by decide +kernel
theorem dX7_readText_40 : decode cX7_readText 40 = .ok (.imul, 1) := by decide +kernel
theorem dX7_readText_41 : decode cX7_readText 41 = .ok (.aload_n 0, 1) := by decide +kernel
theorem dX7_readText_42 : decode cX7_readText 42 = .ok (.getfield 7, 3) := by decide +kernel
theorem dX7_readText_45 : decode cX7_readText 45 = .ok (.iload_n 1, 1) := by decide +kernel
theorem dX7_readText_46 : decode cX7_readText 46 = .ok (.iaload, 1) := by decide +kernel
theorem dX7_readText_47 : decode cX7_readText 47 = .ok (.iastore, 1) := by decide +kernel
theorem dX7_readText_48 : decode cX7_readText 48 = .ok (.aload_n 0, 1) := by decide +kernel
theorem dX7_readText_49 : decode cX7_readText 49 = .ok (.getfield 31, 3) := by decide +kernel
theorem dX7_readText_52 : decode cX7_readText 52 = .ok (.iconst 3, 1) := by decide +kernel
theorem dX7_readText_53 : decode cX7_readText 53 = .ok (.iload_n 1, 1) := by decide +kernel
theorem dX7_readText_54 : decode cX7_readText 54 = .ok (.imul, 1) := by decide +kernel
theorem dX7_readText_55 : decode cX7_readText 55 = .ok (.iconst 1, 1) := by decide +kernel
theorem dX7_readText_56 : decode cX7_readText 56 = .ok (.iadd, 1) := by decide +kernel
theorem dX7_readText_57 : decode cX7_readText 57 = .ok (.aload_n 0, 1) := by decide +kernel
theorem dX7_readText_58 : decode cX7_readText 58 = .ok (.getfield 13, 3) := by decide +kernel
theorem dX7_readText_61 : decode cX7_readText 61 = .ok (.iload_n 1, 1) := by decide +kernel
theorem dX7_readText_62 : decode cX7_readText 62 = .ok (.iaload, 1) := by decide +kernel
theorem dX7_readText_63 : decode cX7_readText 63 = .ok (.iastore, 1) := by decide +kernel
theorem dX7_readText_64 : decode cX7_readText 64 = .ok (.aload_n 0, 1) := by decide +kernel
theorem dX7_readText_65 : decode cX7_readText 65 = .ok (.getfield 31, 3) := by decide +kernel
theorem dX7_readText_68 : decode cX7_readText 68 = .ok (.iconst 3, 1) := by decide +kernel
theorem dX7_readText_69 : decode cX7_readText 69 = .ok (.iload_n 1, 1) := by decide +kernel
theorem dX7_readText_70 : decode cX7_readText 70 = .ok (.imul, 1) := by decide +kernel
theorem dX7_readText_71 : decode cX7_readText 71 = .ok (.iconst 2, 1) := by decide +kernel
theorem dX7_readText_72 : decode cX7_readText 72 = .ok (.iadd, 1) := by decide +kernel
theorem dX7_readText_73 : decode cX7_readText 73 = .ok (.aload_n 0, 1) := by decide +kernel
theorem dX7_readText_74 : decode cX7_readText 74 = .ok (.getfield 22, 3) := by decide +kernel
theorem dX7_readText_77 : decode cX7_readText 77 = .ok (.iload_n 1, 1) := by decide +kernel
theorem dX7_readText_78 : decode cX7_readText 78 = .ok (.iaload, 1) := by decide +kernel
theorem dX7_readText_79 : decode cX7_readText 79 = .ok (.iastore, 1) := by decide +kernel
theorem dX7_readText_80 : decode cX7_readText 80 = .ok (.aload_n 0, 1) := by decide +kernel
theorem dX7_readText_81 : decode cX7_readText 81 = .ok (.getfield 34, 3) := by decide +kernel
theorem dX7_readText_84 : decode cX7_readText 84 = .ok (.iload_n 1, 1) := by decide +kernel
theorem dX7_readText_85 : decode cX7_readText 85 = .ok (.aload_n 0, 1) := by decide +kernel
theorem dX7_readText_86 : decode cX7_readText 86 = .ok (.getfield 22, 3) := by decide +kernel
theorem dX7_readText_89 : decode cX7_readText 89 = .ok (.bipush 8, 2) := by decide +kernel
theorem dX7_readText_91 : decode cX7_readText 91 = .ok (.iload_n 1, 1) := by decide +kernel
theorem dX7_readText_92 : decode cX7_readText 92 = .ok (.iadd, 1) := by decide +kernel
theorem dX7_readText_93 : decode cX7_readText 93 = .ok (.iaload, 1) := by decide +kernel
theorem dX7_readText_94 : decode cX7_readText 94 = .ok (.iastore, 1) := by decide +kernel
theorem dX7_readText_95 : decode cX7_readText 95 = .ok (.aload_n 0, 1) := by decide +kernel
theorem dX7_readText_96 : decode cX7_readText 96 = .ok (.getfield 37, 3) := by decide +kernel
theorem dX7_readText_99 : decode cX7_readText 99 = .ok (.iload_n 1, 1) := by decide +kernel
theorem dX7_readText_100 : decode cX7_readText 100 = .ok (.aload_n 0, 1) := by decide +kernel
theorem dX7_readText_101 : decode cX7_readText 101 = .ok (.getfield 22, 3) := by decide +kernel
theorem dX7_readText_104 : decode cX7_readText 104 = .ok (.bipush 16, 2) := by decide +kernel
theorem dX7_readText_106 : decode cX7_readText 106 = .ok (.iload_n 1, 1) := by decide +kernel
theorem dX7_readText_107 : decode cX7_readText 107 = .ok (.iadd, 1) := by decide +kernel
theorem dX7_readText_108 : decode cX7_readText 108 = .ok (.iaload, 1) := by decide +kernel
theorem dX7_readText_109 : decode cX7_readText 109 = .ok (.iastore, 1) := by decide +kernel
theorem dX7_readText_110 : decode cX7_readText 110 = .ok (.iinc 1 1, 3) := by decide +kernel
theorem dX7_readText_113 : decode cX7_readText 113 = .ok (.goto (-85), 3) := by decide +kernel
theorem dX7_readText_116 : decode cX7_readText 116 = .ok (.iconst 0, 1) := by decide +kernel
theorem dX7_readText_117 : decode cX7_readText 117 = .ok (.istore_n 1, 1) := by decide +kernel
theorem dX7_readText_118 : decode cX7_readText 118 = .ok (.iload_n 1, 1) := by decide +kernel
theorem dX7_readText_119 : decode cX7_readText 119 = .ok (.bipush 6, 2) := by decide +kernel
theorem dX7_readText_121 : decode cX7_readText 121 = .ok (.if_icmp .ge 33, 3) := by decide +kernel
theorem dX7_readText_124 : decode cX7_readText 124 = .ok (.aload_n 0, 1) := by decide +kernel
theorem dX7_readText_125 : decode cX7_readText 125 = .ok (.getfield 40, 3) := by decide +kernel
theorem dX7_readText_128 : decode cX7_readText 128 = .ok (.iload_n 1, 1) := by decide +kernel
theorem dX7_readText_129 : decode cX7_readText 129 = .ok (.aload_n 0, 1) := by decide +kernel
theorem dX7_readText_130 : decode cX7_readText 130 = .ok (.getfield 16, 3) := by decide +kernel
theorem dX7_readText_133 : decode cX7_readText 133 = .ok (.iload_n 1, 1) := by decide +kernel
theorem dX7_readText_134 : decode cX7_readText 134 = .ok (.iaload, 1) := by decide +kernel
theorem dX7_readText_135 : decode cX7_readText 135 = .ok (.iastore, 1) := by decide +kernel
theorem dX7_readText_136 : decode cX7_readText 136 = .ok (.aload_n 0, 1) := by decide +kernel
theorem dX7_readText_137 : decode cX7_readText 137 = .ok (.getfield 43, 3) := by decide +kernel
theorem dX7_readText_140 : decode cX7_readText 140 = .ok (.iload_n 1, 1) := by decide +kernel
theorem dX7_readText_141 : decode cX7_readText 141 = .ok (.aload_n 0, 1) := by decide +kernel
theorem dX7_readText_142 : decode cX7_readText 142 = .ok (.getfield 19, 3) := by decide +kernel
theorem dX7_readText_145 : decode cX7_readText 145 = .ok (.iload_n 1, 1) := by decide +kernel
theorem dX7_readText_146 : decode cX7_readText 146 = .ok (.iaload, 1) := by decide +kernel
theorem dX7_readText_147 : decode cX7_readText 147 = .ok (.iastore, 1) := by decide +kernel
theorem dX7_readText_148 : decode cX7_readText 148 = .ok (.iinc 1 1, 3) := by decide +kernel
theorem dX7_readText_151 : decode cX7_readText 151 = .ok (.goto (-33), 3) := by decide +kernel
theorem dX7_readText_154 : decode cX7_readText 154 = .ok (.aload_n 0, 1) := by decide +kernel
theorem dX7_readText_155 : decode cX7_readText 155 = .ok (.invokevirtual 121, 3) := by decide +kernel
theorem dX7_readText_158 : decode cX7_readText 158 = .ok (.aload_n 0, 1) := by decide +kernel
theorem dX7_readText_159 : decode cX7_readText 159 = .ok (.invokevirtual 159, 3) := by decide +kernel
theorem dX7_readText_162 : decode cX7_readText 162 = .ok (.ifCond .ne 5, 3) := by decide +kernel
theorem dX7_readText_165 : decode cX7_readText 165 = .ok (.iconst 0, 1) := by decide +kernel
theorem dX7_readText_166 : decode cX7_readText 166 = .ok (.ireturn, 1) := by decide +kernel
theorem dX7_readText_167 : decode cX7_readText 167 = .ok (.aload_n 0, 1) := by decide +kernel
theorem dX7_readText_168 : decode cX7_readText 168 = .ok (.dup, 1) := by decide +kernel
theorem dX7_readText_169 : decode cX7_readText 169 = .ok (.getfield 153, 3) := by decide +kernel
theorem dX7_readText_172 : decode cX7_readText 172 = .ok (.iconst 1, 1) := by decide +kernel
theorem dX7_readText_173 : decode cX7_readText 173 = .ok (.iadd, 1) := by decide +kernel
theorem dX7_readText_174 : decode cX7_readText 174 = .ok (.putfield 153, 3) := by decide +kernel
theorem dX7_readText_177 : decode cX7_readText 177 = .ok (.aload_n 0, 1) := by decide +kernel
theorem dX7_readText_178 : decode cX7_readText 178 = .ok (.invokevirtual 121, 3) := by decide +kernel
theorem dX7_readText_181 : decode cX7_readText 181 = .ok (.aload_n 0, 1) := by decide +kernel
theorem dX7_readText_182 : decode cX7_readText 182 = .ok (.getfield 100, 3) := by decide +kernel
theorem dX7_readText_185 : decode cX7_readText 185 = .ok (.iconst 3, 1) := by decide +kernel
theorem dX7_readText_186 : decode cX7_readText 186 = .ok (.if_icmp .ne 5, 3) := by decide +kernel
theorem dX7_readText_189 : decode cX7_readText 189 = .ok (.iconst 1, 1) := by decide +kernel
theorem dX7_readText_190 : decode cX7_readText 190 = .ok (.ireturn, 1) := by decide +kernel
theorem dX7_readText_191 : decode cX7_readText 191 = .ok (.aload_n 0, 1) := by decide +kernel
theorem dX7_readText_192 : decode cX7_readText 192 = .ok (.getfield 100, 3) := by decide +kernel
theorem dX7_readText_195 : decode cX7_readText 195 = .ok (.ifCond .ne 21, 3) := by decide +kernel
theorem dX7_readText_198 : decode cX7_readText 198 = .ok (.aload_n 0, 1) := by decide +kernel
theorem dX7_readText_199 : decode cX7_readText 199 = .ok (.getfield 97, 3) := by decide +kernel
theorem dX7_readText_202 : decode cX7_readText 202 = .ok (.bipush 59, 2) := by decide +kernel
theorem dX7_readText_204 : decode cX7_readText 204 = .ok (.if_icmp .ne 12, 3) := by decide +kernel
theorem dX7_readText_207 : decode cX7_readText 207 = .ok (.aload_n 0, 1) := by decide +kernel
theorem dX7_readText_208 : decode cX7_readText 208 = .ok (.getfield 153, 3) := by decide +kernel
theorem dX7_readText_211 : decode cX7_readText 211 = .ok (.bipush 14, 2) := by decide +kernel
theorem dX7_readText_213 : decode cX7_readText 213 = .ok (.if_icmp .ne (-59), 3) := by decide +kernel
theorem dX7_readText_216 : decode cX7_readText 216 = .ok (.iconst 0, 1) := by decide +kernel
theorem dX7_readText_217 : decode cX7_readText 217 = .ok (.ireturn, 1) := by decide +kernel
theorem dX7_fault_0 : decode cX7_fault 0 = .ok (.aload_n 0, 1) := by decide +kernel
theorem dX7_fault_1 : decode cX7_fault 1 = .ok (.invokevirtual 163, 3) := by decide +kernel
theorem dX7_fault_4 : decode cX7_fault 4 = .ok (.ifCond .eq 7, 3) := by decide +kernel
theorem dX7_fault_7 : decode cX7_fault 7 = .ok (.iconst (-1), 1) := by decide +kernel
theorem dX7_fault_8 : decode cX7_fault 8 = .ok (.goto 7, 3) := by decide +kernel
theorem dX7_fault_11 : decode cX7_fault 11 = .ok (.aload_n 0, 1) := by decide +kernel
theorem dX7_fault_12 : decode cX7_fault 12 = .ok (.getfield 94, 3) := by decide +kernel
theorem dX7_fault_15 : decode cX7_fault 15 = .ok (.ireturn, 1) := by decide +kernel
theorem dX7_loom_0 : decode cX7_loom 0 = .ok (.aload_n 0, 1) := by decide +kernel
theorem dX7_loom_1 : decode cX7_loom 1 = .ok (.invokevirtual 163, 3) := by decide +kernel
theorem dX7_loom_4 : decode cX7_loom 4 = .ok (.ifCond .ne 6, 3) := by decide +kernel
theorem dX7_loom_7 : decode cX7_loom 7 = .ok (.bipush (-4), 2) := by decide +kernel
theorem dX7_loom_9 : decode cX7_loom 9 = .ok (.ireturn, 1) := by decide +kernel
theorem dX7_loom_10 : decode cX7_loom 10 = .ok (.aload_n 0, 1) := by decide +kernel
theorem dX7_loom_11 : decode cX7_loom 11 = .ok (.iconst 0, 1) := by decide +kernel
theorem dX7_loom_12 : decode cX7_loom 12 = .ok (.putfield 84, 3) := by decide +kernel
theorem dX7_loom_15 : decode cX7_loom 15 = .ok (.aload_n 0, 1) := by decide +kernel
theorem dX7_loom_16 : decode cX7_loom 16 = .ok (.aload_n 0, 1) := by decide +kernel
theorem dX7_loom_17 : decode cX7_loom 17 = .ok (.getfield 128, 3) := by decide +kernel
theorem dX7_loom_20 : decode cX7_loom 20 = .ok (.putfield 74, 3) := by decide +kernel
theorem dX7_loom_23 : decode cX7_loom 23 = .ok (.aload_n 0, 1) := by decide +kernel
theorem dX7_loom_24 : decode cX7_loom 24 = .ok (.aload_n 0, 1) := by decide +kernel
theorem dX7_loom_25 : decode cX7_loom 25 = .ok (.getfield 135, 3) := by decide +kernel
theorem dX7_loom_28 : decode cX7_loom 28 = .ok (.putfield 156, 3) := by decide +kernel
theorem dX7_loom_31 : decode cX7_loom 31 = .ok (.iconst 0, 1) := by decide +kernel
theorem dX7_loom_32 : decode cX7_loom 32 = .ok (.istore_n 1, 1) := by decide +kernel
theorem dX7_loom_33 : decode cX7_loom 33 = .ok (.iload_n 1, 1) := by decide +kernel
theorem dX7_loom_34 : decode cX7_loom 34 = .ok (.bipush 8, 2) := by decide +kernel
theorem dX7_loom_36 : decode cX7_loom 36 = .ok (.if_icmp .ge 181, 3) := by decide +kernel
theorem dX7_loom_39 : decode cX7_loom 39 = .ok (.aload_n 0, 1) := by decide +kernel
theorem dX7_loom_40 : decode cX7_loom 40 = .ok (.getfield 7, 3) := by decide +kernel
theorem dX7_loom_43 : decode cX7_loom 43 = .ok (.iload_n 1, 1) := by decide +kernel
theorem dX7_loom_44 : decode cX7_loom 44 = .ok (.aload_n 0, 1) := by decide +kernel
theorem dX7_loom_45 : decode cX7_loom 45 = .ok (.getfield 31, 3) := by decide +kernel
theorem dX7_loom_48 : decode cX7_loom 48 = .ok (.iconst 3, 1) := by decide +kernel
theorem dX7_loom_49 : decode cX7_loom 49 = .ok (.iload_n 1, 1) := by decide +kernel
theorem dX7_loom_50 : decode cX7_loom 50 = .ok (.imul, 1) := by decide +kernel
theorem dX7_loom_51 : decode cX7_loom 51 = .ok (.iaload, 1) := by decide +kernel
theorem dX7_loom_52 : decode cX7_loom 52 = .ok (.iastore, 1) := by decide +kernel
theorem dX7_loom_53 : decode cX7_loom 53 = .ok (.aload_n 0, 1) := by decide +kernel
theorem dX7_loom_54 : decode cX7_loom 54 = .ok (.getfield 13, 3) := by decide +kernel
theorem dX7_loom_57 : decode cX7_loom 57 = .ok (.iload_n 1, 1) := by decide +kernel
theorem dX7_loom_58 : decode cX7_loom 58 = .ok (.aload_n 0, 1) := by decide +kernel
theorem dX7_loom_59 : decode cX7_loom 59 = .ok (.getfield 31, 3) := by decide +kernel
theorem dX7_loom_62 : decode cX7_loom 62 = .ok (.iconst 3, 1) := by decide +kernel
theorem dX7_loom_63 : decode cX7_loom 63 = .ok (.iload_n 1, 1) := by decide +kernel
theorem dX7_loom_64 : decode cX7_loom 64 = .ok (.imul, 1) := by decide +kernel
theorem dX7_loom_65 : decode cX7_loom 65 = .ok (.iconst 1, 1) := by decide +kernel
theorem dX7_loom_66 : decode cX7_loom 66 = .ok (.iadd, 1) := by decide +kernel
theorem dX7_loom_67 : decode cX7_loom 67 = .ok (.iaload, 1) := by decide +kernel
theorem dX7_loom_68 : decode cX7_loom 68 = .ok (.iastore, 1) := by decide +kernel
theorem dX7_loom_69 : decode cX7_loom 69 = .ok (.aload_n 0, 1) := by decide +kernel
theorem dX7_loom_70 : decode cX7_loom 70 = .ok (.getfield 25, 3) := by decide +kernel
theorem dX7_loom_73 : decode cX7_loom 73 = .ok (.iconst 0, 1) := by decide +kernel
theorem dX7_loom_74 : decode cX7_loom 74 = .ok (.iload_n 1, 1) := by decide +kernel
theorem dX7_loom_75 : decode cX7_loom 75 = .ok (.iadd, 1) := by decide +kernel
theorem dX7_loom_76 : decode cX7_loom 76 = .ok (.aload_n 0, 1) := by decide +kernel
theorem dX7_loom_77 : decode cX7_loom 77 = .ok (.getfield 31, 3) := by decide +kernel
theorem dX7_loom_80 : decode cX7_loom 80 = .ok (.iconst 3, 1) := by decide +kernel
theorem dX7_loom_81 : decode cX7_loom 81 = .ok (.iload_n 1, 1) := by decide +kernel
theorem dX7_loom_82 : decode cX7_loom 82 = .ok (.imul, 1) := by decide +kernel
theorem dX7_loom_83 : decode cX7_loom 83 = .ok (.iconst 2, 1) := by decide +kernel
theorem dX7_loom_84 : decode cX7_loom 84 = .ok (.iadd, 1) := by decide +kernel
theorem dX7_loom_85 : decode cX7_loom 85 = .ok (.iaload, 1) := by decide +kernel
theorem dX7_loom_86 : decode cX7_loom 86 = .ok (.iastore, 1) := by decide +kernel
theorem dX7_loom_87 : decode cX7_loom 87 = .ok (.aload_n 0, 1) := by decide +kernel
theorem dX7_loom_88 : decode cX7_loom 88 = .ok (.getfield 25, 3) := by decide +kernel
theorem dX7_loom_91 : decode cX7_loom 91 = .ok (.bipush 8, 2) := by decide +kernel
theorem dX7_loom_93 : decode cX7_loom 93 = .ok (.iload_n 1, 1) := by decide +kernel
theorem dX7_loom_94 : decode cX7_loom 94 = .ok (.iadd, 1) := by decide +kernel
theorem dX7_loom_95 : decode cX7_loom 95 = .ok (.iconst 0, 1) := by decide +kernel
theorem dX7_loom_96 : decode cX7_loom 96 = .ok (.iastore, 1) := by decide +kernel
theorem dX7_loom_97 : decode cX7_loom 97 = .ok (.aload_n 0, 1) := by decide +kernel
theorem dX7_loom_98 : decode cX7_loom 98 = .ok (.getfield 25, 3) := by decide +kernel
theorem dX7_loom_101 : decode cX7_loom 101 = .ok (.bipush 16, 2) := by decide +kernel
theorem dX7_loom_103 : decode cX7_loom 103 = .ok (.iload_n 1, 1) := by decide +kernel
theorem dX7_loom_104 : decode cX7_loom 104 = .ok (.iadd, 1) := by decide +kernel
theorem dX7_loom_105 : decode cX7_loom 105 = .ok (.iconst (-1), 1) := by decide +kernel
theorem dX7_loom_106 : decode cX7_loom 106 = .ok (.iastore, 1) := by decide +kernel
theorem dX7_loom_107 : decode cX7_loom 107 = .ok (.aload_n 0, 1) := by decide +kernel
theorem dX7_loom_108 : decode cX7_loom 108 = .ok (.getfield 25, 3) := by decide +kernel
theorem dX7_loom_111 : decode cX7_loom 111 = .ok (.bipush 24, 2) := by decide +kernel
theorem dX7_loom_113 : decode cX7_loom 113 = .ok (.iload_n 1, 1) := by decide +kernel
theorem dX7_loom_114 : decode cX7_loom 114 = .ok (.iadd, 1) := by decide +kernel
theorem dX7_loom_115 : decode cX7_loom 115 = .ok (.iload_n 1, 1) := by decide +kernel
theorem dX7_loom_116 : decode cX7_loom 116 = .ok (.aload_n 0, 1) := by decide +kernel
theorem dX7_loom_117 : decode cX7_loom 117 = .ok (.getfield 74, 3) := by decide +kernel
theorem dX7_loom_120 : decode cX7_loom 120 = .ok (.if_icmp .ge 12, 3) := by decide +kernel
theorem dX7_loom_123 : decode cX7_loom 123 = .ok (.aload_n 0, 1) := by decide +kernel
theorem dX7_loom_124 : decode cX7_loom 124 = .ok (.getfield 34, 3) := by decide +kernel
theorem dX7_loom_127 : decode cX7_loom 127 = .ok (.iload_n 1, 1) := by decide +kernel
theorem dX7_loom_128 : decode cX7_loom 128 = .ok (.iaload, 1) := by decide +kernel
theorem dX7_loom_129 : decode cX7_loom 129 = .ok (.goto 4, 3) := by decide +kernel
theorem dX7_loom_132 : decode cX7_loom 132 = .ok (.iconst 0, 1) := by decide +kernel
theorem dX7_loom_133 : decode cX7_loom 133 = .ok (.iastore, 1) := by decide +kernel
theorem dX7_loom_134 : decode cX7_loom 134 = .ok (.aload_n 0, 1) := by decide +kernel
theorem dX7_loom_135 : decode cX7_loom 135 = .ok (.getfield 25, 3) := by decide +kernel
theorem dX7_loom_138 : decode cX7_loom 138 = .ok (.bipush 32, 2) := by decide +kernel
theorem dX7_loom_140 : decode cX7_loom 140 = .ok (.iload_n 1, 1) := by decide +kernel
theorem dX7_loom_141 : decode cX7_loom 141 = .ok (.iadd, 1) := by decide +kernel
theorem dX7_loom_142 : decode cX7_loom 142 = .ok (.iload_n 1, 1) := by decide +kernel
theorem dX7_loom_143 : decode cX7_loom 143 = .ok (.aload_n 0, 1) := by decide +kernel
theorem dX7_loom_144 : decode cX7_loom 144 = .ok (.getfield 74, 3) := by decide +kernel
theorem dX7_loom_147 : decode cX7_loom 147 = .ok (.if_icmp .ge 12, 3) := by decide +kernel
theorem dX7_loom_150 : decode cX7_loom 150 = .ok (.aload_n 0, 1) := by decide +kernel
theorem dX7_loom_151 : decode cX7_loom 151 = .ok (.getfield 37, 3) := by decide +kernel
theorem dX7_loom_154 : decode cX7_loom 154 = .ok (.iload_n 1, 1) := by decide +kernel
theorem dX7_loom_155 : decode cX7_loom 155 = .ok (.iaload, 1) := by decide +kernel
theorem dX7_loom_156 : decode cX7_loom 156 = .ok (.goto 4, 3) := by decide +kernel
theorem dX7_loom_159 : decode cX7_loom 159 = .ok (.iconst 0, 1) := by decide +kernel
theorem dX7_loom_160 : decode cX7_loom 160 = .ok (.iastore, 1) := by decide +kernel
theorem dX7_loom_161 : decode cX7_loom 161 = .ok (.aload_n 0, 1) := by decide +kernel
theorem dX7_loom_162 : decode cX7_loom 162 = .ok (.getfield 22, 3) := by decide +kernel
theorem dX7_loom_165 : decode cX7_loom 165 = .ok (.iload_n 1, 1) := by decide +kernel
theorem dX7_loom_166 : decode cX7_loom 166 = .ok (.aload_n 0, 1) := by decide +kernel
theorem dX7_loom_167 : decode cX7_loom 167 = .ok (.getfield 25, 3) := by decide +kernel
theorem dX7_loom_170 : decode cX7_loom 170 = .ok (.iconst 0, 1) := by decide +kernel
theorem dX7_loom_171 : decode cX7_loom 171 = .ok (.iload_n 1, 1) := by decide +kernel
theorem dX7_loom_172 : decode cX7_loom 172 = .ok (.iadd, 1) := by decide +kernel
theorem dX7_loom_173 : decode cX7_loom 173 = .ok (.iaload, 1) := by decide +kernel
theorem dX7_loom_174 : decode cX7_loom 174 = .ok (.iastore, 1) := by decide +kernel
theorem dX7_loom_175 : decode cX7_loom 175 = .ok (.aload_n 0, 1) := by decide +kernel
theorem dX7_loom_176 : decode cX7_loom 176 = .ok (.getfield 22, 3) := by decide +kernel
theorem dX7_loom_179 : decode cX7_loom 179 = .ok (.bipush 8, 2) := by decide +kernel
theorem dX7_loom_181 : decode cX7_loom 181 = .ok (.iload_n 1, 1) := by decide +kernel
theorem dX7_loom_182 : decode cX7_loom 182 = .ok (.iadd, 1) := by decide +kernel
theorem dX7_loom_183 : decode cX7_loom 183 = .ok (.aload_n 0, 1) := by decide +kernel
theorem dX7_loom_184 : decode cX7_loom 184 = .ok (.getfield 25, 3) := by decide +kernel
theorem dX7_loom_187 : decode cX7_loom 187 = .ok (.bipush 24, 2) := by decide +kernel
theorem dX7_loom_189 : decode cX7_loom 189 = .ok (.iload_n 1, 1) := by decide +kernel
theorem dX7_loom_190 : decode cX7_loom 190 = .ok (.iadd, 1) := by decide +kernel
theorem dX7_loom_191 : decode cX7_loom 191 = .ok (.iaload, 1) := by decide +kernel
theorem dX7_loom_192 : decode cX7_loom 192 = .ok (.iastore, 1) := by decide +kernel
theorem dX7_loom_193 : decode cX7_loom 193 = .ok (.aload_n 0, 1) := by decide +kernel
theorem dX7_loom_194 : decode cX7_loom 194 = .ok (.getfield 22, 3) := by decide +kernel
theorem dX7_loom_197 : decode cX7_loom 197 = .ok (.bipush 16, 2) := by decide +kernel
theorem dX7_loom_199 : decode cX7_loom 199 = .ok (.iload_n 1, 1) := by decide +kernel
theorem dX7_loom_200 : decode cX7_loom 200 = .ok (.iadd, 1) := by decide +kernel
theorem dX7_loom_201 : decode cX7_loom 201 = .ok (.aload_n 0, 1) := by decide +kernel
theorem dX7_loom_202 : decode cX7_loom 202 = .ok (.getfield 25, 3) := by decide +kernel
theorem dX7_loom_205 : decode cX7_loom 205 = .ok (.bipush 32, 2) := by decide +kernel
theorem dX7_loom_207 : decode cX7_loom 207 = .ok (.iload_n 1, 1) := by decide +kernel
theorem dX7_loom_208 : decode cX7_loom 208 = .ok (.iadd, 1) := by decide +kernel
theorem dX7_loom_209 : decode cX7_loom 209 = .ok (.iaload, 1) := by decide +kernel
theorem dX7_loom_210 : decode cX7_loom 210 = .ok (.iastore, 1) := by decide +kernel
theorem dX7_loom_211 : decode cX7_loom 211 = .ok (.iinc 1 1, 3) := by decide +kernel
theorem dX7_loom_214 : decode cX7_loom 214 = .ok (.goto (-181), 3) := by decide +kernel
theorem dX7_loom_217 : decode cX7_loom 217 = .ok (.iconst 0, 1) := by decide +kernel
theorem dX7_loom_218 : decode cX7_loom 218 = .ok (.istore_n 1, 1) := by decide +kernel
theorem dX7_loom_219 : decode cX7_loom 219 = .ok (.iload_n 1, 1) := by decide +kernel
theorem dX7_loom_220 : decode cX7_loom 220 = .ok (.bipush 6, 2) := by decide +kernel
theorem dX7_loom_222 : decode cX7_loom 222 = .ok (.if_icmp .ge 33, 3) := by decide +kernel
theorem dX7_loom_225 : decode cX7_loom 225 = .ok (.aload_n 0, 1) := by decide +kernel
theorem dX7_loom_226 : decode cX7_loom 226 = .ok (.getfield 16, 3) := by decide +kernel
theorem dX7_loom_229 : decode cX7_loom 229 = .ok (.iload_n 1, 1) := by decide +kernel
theorem dX7_loom_230 : decode cX7_loom 230 = .ok (.aload_n 0, 1) := by decide +kernel
theorem dX7_loom_231 : decode cX7_loom 231 = .ok (.getfield 40, 3) := by decide +kernel
theorem dX7_loom_234 : decode cX7_loom 234 = .ok (.iload_n 1, 1) := by decide +kernel
theorem dX7_loom_235 : decode cX7_loom 235 = .ok (.iaload, 1) := by decide +kernel
theorem dX7_loom_236 : decode cX7_loom 236 = .ok (.iastore, 1) := by decide +kernel
theorem dX7_loom_237 : decode cX7_loom 237 = .ok (.aload_n 0, 1) := by decide +kernel
theorem dX7_loom_238 : decode cX7_loom 238 = .ok (.getfield 19, 3) := by decide +kernel
theorem dX7_loom_241 : decode cX7_loom 241 = .ok (.iload_n 1, 1) := by decide +kernel
theorem dX7_loom_242 : decode cX7_loom 242 = .ok (.aload_n 0, 1) := by decide +kernel
theorem dX7_loom_243 : decode cX7_loom 243 = .ok (.getfield 43, 3) := by decide +kernel
theorem dX7_loom_246 : decode cX7_loom 246 = .ok (.iload_n 1, 1) := by decide +kernel
theorem dX7_loom_247 : decode cX7_loom 247 = .ok (.iaload, 1) := by decide +kernel
theorem dX7_loom_248 : decode cX7_loom 248 = .ok (.iastore, 1) := by decide +kernel
theorem dX7_loom_249 : decode cX7_loom 249 = .ok (.iinc 1 1, 3) := by decide +kernel
theorem dX7_loom_252 : decode cX7_loom 252 = .ok (.goto (-33), 3) := by decide +kernel
theorem dX7_loom_255 : decode cX7_loom 255 = .ok (.aload_n 0, 1) := by decide +kernel
theorem dX7_loom_256 : decode cX7_loom 256 = .ok (.getfield 25, 3) := by decide +kernel
theorem dX7_loom_259 : decode cX7_loom 259 = .ok (.bipush 40, 2) := by decide +kernel
theorem dX7_loom_261 : decode cX7_loom 261 = .ok (.iconst 0, 1) := by decide +kernel
theorem dX7_loom_262 : decode cX7_loom 262 = .ok (.iastore, 1) := by decide +kernel
theorem dX7_loom_263 : decode cX7_loom 263 = .ok (.aload_n 0, 1) := by decide +kernel
theorem dX7_loom_264 : decode cX7_loom 264 = .ok (.getfield 25, 3) := by decide +kernel
theorem dX7_loom_267 : decode cX7_loom 267 = .ok (.bipush 41, 2) := by decide +kernel
theorem dX7_loom_269 : decode cX7_loom 269 = .ok (.iconst 0, 1) := by decide +kernel
theorem dX7_loom_270 : decode cX7_loom 270 = .ok (.iastore, 1) := by decide +kernel
theorem dX7_loom_271 : decode cX7_loom 271 = .ok (.aload_n 0, 1) := by decide +kernel
theorem dX7_loom_272 : decode cX7_loom 272 = .ok (.iconst 0, 1) := by decide +kernel
theorem dX7_loom_273 : decode cX7_loom 273 = .ok (.putfield 166, 3) := by decide +kernel
theorem dX7_loom_276 : decode cX7_loom 276 = .ok (.aload_n 0, 1) := by decide +kernel
theorem dX7_loom_277 : decode cX7_loom 277 = .ok (.getfield 55, 3) := by decide +kernel
theorem dX7_loom_280 : decode cX7_loom 280 = .ok (.iconst 0, 1) := by decide +kernel
theorem dX7_loom_281 : decode cX7_loom 281 = .ok (.iconst 0, 1) := by decide +kernel
theorem dX7_loom_282 : decode cX7_loom 282 = .ok (.bastore, 1) := by decide +kernel
theorem dX7_loom_283 : decode cX7_loom 283 = .ok (.aload_n 0, 1) := by decide +kernel
theorem dX7_loom_284 : decode cX7_loom 284 = .ok (.getfield 55, 3) := by decide +kernel
theorem dX7_loom_287 : decode cX7_loom 287 = .ok (.iconst 1, 1) := by decide +kernel
theorem dX7_loom_288 : decode cX7_loom 288 = .ok (.iconst 0, 1) := by decide +kernel
theorem dX7_loom_289 : decode cX7_loom 289 = .ok (.bastore, 1) := by decide +kernel
theorem dX7_loom_290 : decode cX7_loom 290 = .ok (.aload_n 0, 1) := by decide +kernel
theorem dX7_loom_291 : decode cX7_loom 291 = .ok (.getfield 153, 3) := by decide +kernel
theorem dX7_loom_294 : decode cX7_loom 294 = .ok (.ireturn, 1) := by decide +kernel
theorem dX7_isWhole_0 : decode cX7_isWhole 0 = .ok (.aload_n 0, 1) := by decide +kernel
theorem dX7_isWhole_1 : decode cX7_isWhole 1 = .ok (.getfield 25, 3) := by decide +kernel
theorem dX7_isWhole_4 : decode cX7_isWhole 4 = .ok (.bipush 8, 2) := by decide +kernel
theorem dX7_isWhole_6 : decode cX7_isWhole 6 = .ok (.iload_n 1, 1) := by decide +kernel
theorem dX7_isWhole_7 : decode cX7_isWhole 7 = .ok (.iadd, 1) := by decide +kernel
theorem dX7_isWhole_8 : decode cX7_isWhole 8 = .ok (.iaload, 1) := by decide +kernel
theorem dX7_isWhole_9 : decode cX7_isWhole 9 = .ok (.ifCond .ne 7, 3) := by decide +kernel
theorem dX7_isWhole_12 : decode cX7_isWhole 12 = .ok (.iconst 1, 1) := by decide +kernel
theorem dX7_isWhole_13 : decode cX7_isWhole 13 = .ok (.goto 4, 3) := by decide +kernel
theorem dX7_isWhole_16 : decode cX7_isWhole 16 = .ok (.iconst 0, 1) := by decide +kernel
theorem dX7_isWhole_17 : decode cX7_isWhole 17 = .ok (.ireturn, 1) := by decide +kernel
theorem dX7_wholes_0 : decode cX7_wholes 0 = .ok (.iconst 0, 1) := by decide +kernel
theorem dX7_wholes_1 : decode cX7_wholes 1 = .ok (.istore_n 1, 1) := by decide +kernel
theorem dX7_wholes_2 : decode cX7_wholes 2 = .ok (.iconst 0, 1) := by decide +kernel
theorem dX7_wholes_3 : decode cX7_wholes 3 = .ok (.istore_n 2, 1) := by decide +kernel
theorem dX7_wholes_4 : decode cX7_wholes 4 = .ok (.iload_n 2, 1) := by decide +kernel
theorem dX7_wholes_5 : decode cX7_wholes 5 = .ok (.aload_n 0, 1) := by decide +kernel
theorem dX7_wholes_6 : decode cX7_wholes 6 = .ok (.getfield 74, 3) := by decide +kernel
theorem dX7_wholes_9 : decode cX7_wholes 9 = .ok (.if_icmp .ge 27, 3) := by decide +kernel
theorem dX7_wholes_12 : decode cX7_wholes 12 = .ok (.iload_n 1, 1) := by decide +kernel
theorem dX7_wholes_13 : decode cX7_wholes 13 = .ok (.aload_n 0, 1) := by decide +kernel
theorem dX7_wholes_14 : decode cX7_wholes 14 = .ok (.iload_n 2, 1) := by decide +kernel
theorem dX7_wholes_15 : decode cX7_wholes 15 = .ok (.invokevirtual 169, 3) := by decide +kernel
theorem dX7_wholes_18 : decode cX7_wholes 18 = .ok (.ifCond .eq 9, 3) := by decide +kernel
theorem dX7_wholes_21 : decode cX7_wholes 21 = .ok (.iconst 1, 1) := by decide +kernel
theorem dX7_wholes_22 : decode cX7_wholes 22 = .ok (.iload_n 2, 1) := by decide +kernel
theorem dX7_wholes_23 : decode cX7_wholes 23 = .ok (.ishl, 1) := by decide +kernel
theorem dX7_wholes_24 : decode cX7_wholes 24 = .ok (.goto 4, 3) := by decide +kernel
theorem dX7_wholes_27 : decode cX7_wholes 27 = .ok (.iconst 0, 1) := by decide +kernel
theorem dX7_wholes_28 : decode cX7_wholes 28 = .ok (.ior, 1) := by decide +kernel
theorem dX7_wholes_29 : decode cX7_wholes 29 = .ok (.istore_n 1, 1) := by decide +kernel
theorem dX7_wholes_30 : decode cX7_wholes 30 = .ok (.iinc 2 1, 3) := by decide +kernel
theorem dX7_wholes_33 : decode cX7_wholes 33 = .ok (.goto (-29), 3) := by decide +kernel
theorem dX7_wholes_36 : decode cX7_wholes 36 = .ok (.iload_n 1, 1) := by decide +kernel
theorem dX7_wholes_37 : decode cX7_wholes 37 = .ok (.ireturn, 1) := by decide +kernel
theorem dX7_yearsOf_0 : decode cX7_yearsOf 0 = .ok (.aload_n 0, 1) := by decide +kernel
theorem dX7_yearsOf_1 : decode cX7_yearsOf 1 = .ok (.getfield 13, 3) := by decide +kernel
theorem dX7_yearsOf_4 : decode cX7_yearsOf 4 = .ok (.iload_n 1, 1) := by decide +kernel
theorem dX7_yearsOf_5 : decode cX7_yearsOf 5 = .ok (.iaload, 1) := by decide +kernel
theorem dX7_yearsOf_6 : decode cX7_yearsOf 6 = .ok (.aload_n 0, 1) := by decide +kernel
theorem dX7_yearsOf_7 : decode cX7_yearsOf 7 = .ok (.getfield 25, 3) := by decide +kernel
theorem dX7_yearsOf_10 : decode cX7_yearsOf 10 = .ok (.bipush 40, 2) := by decide +kernel
theorem dX7_yearsOf_12 : decode cX7_yearsOf 12 = .ok (.iaload, 1) := by decide +kernel
theorem dX7_yearsOf_13 : decode cX7_yearsOf 13 = .ok (.isub, 1) := by decide +kernel
theorem dX7_yearsOf_14 : decode cX7_yearsOf 14 = .ok (.istore_n 2, 1) := by decide +kernel
theorem dX7_yearsOf_15 : decode cX7_yearsOf 15 = .ok (.aload_n 0, 1) := by decide +kernel
theorem dX7_yearsOf_16 : decode cX7_yearsOf 16 = .ok (.iload_n 1, 1) := by decide +kernel
theorem dX7_yearsOf_17 : decode cX7_yearsOf 17 = .ok (.invokevirtual 169, 3) := by decide +kernel
theorem dX7_yearsOf_20 : decode cX7_yearsOf 20 = .ok (.ifCond .eq 17, 3) := by decide +kernel
theorem dX7_yearsOf_23 : decode cX7_yearsOf 23 = .ok (.aload_n 0, 1) := by decide +kernel
theorem dX7_yearsOf_24 : decode cX7_yearsOf 24 = .ok (.getfield 7, 3) := by decide +kernel
theorem dX7_yearsOf_27 : decode cX7_yearsOf 27 = .ok (.iload_n 1, 1) := by decide +kernel
theorem dX7_yearsOf_28 : decode cX7_yearsOf 28 = .ok (.iaload, 1) := by decide +kernel
theorem dX7_yearsOf_29 : decode cX7_yearsOf 29 = .ok (.iconst 3, 1) := by decide +kernel
theorem dX7_yearsOf_30 : decode cX7_yearsOf 30 = .ok (.if_icmp .eq 7, 3) := by decide +kernel
theorem dX7_yearsOf_33 : decode cX7_yearsOf 33 = .ok (.iload_n 2, 1) := by decide +kernel
theorem dX7_yearsOf_34 : decode cX7_yearsOf 34 = .ok (.ifCond .ge 5, 3) := by decide +kernel
theorem dX7_yearsOf_37 : decode cX7_yearsOf 37 = .ok (.iconst 0, 1) := by decide +kernel
theorem dX7_yearsOf_38 : decode cX7_yearsOf 38 = .ok (.ireturn, 1) := by decide +kernel
theorem dX7_yearsOf_39 : decode cX7_yearsOf 39 = .ok (.aload_n 0, 1) := by decide +kernel
theorem dX7_yearsOf_40 : decode cX7_yearsOf 40 = .ok (.getfield 7, 3) := by decide +kernel
theorem dX7_yearsOf_43 : decode cX7_yearsOf 43 = .ok (.iload_n 1, 1) := by decide +kernel
theorem dX7_yearsOf_44 : decode cX7_yearsOf 44 = .ok (.iaload, 1) := by decide +kernel
theorem dX7_yearsOf_45 : decode cX7_yearsOf 45 = .ok (.iconst 1, 1) := by decide +kernel
theorem dX7_yearsOf_46 : decode cX7_yearsOf 46 = .ok (.if_icmp .ne 9, 3) := by decide +kernel
theorem dX7_yearsOf_49 : decode cX7_yearsOf 49 = .ok (.iconst 2, 1) := by decide +kernel
theorem dX7_yearsOf_50 : decode cX7_yearsOf 50 = .ok (.iload_n 2, 1) := by decide +kernel
theorem dX7_yearsOf_51 : decode cX7_yearsOf 51 = .ok (.imul, 1) := by decide +kernel
theorem dX7_yearsOf_52 : decode cX7_yearsOf 52 = .ok (.goto 4, 3) := by decide +kernel
theorem dX7_yearsOf_55 : decode cX7_yearsOf 55 = .ok (.iload_n 2, 1) := by decide +kernel
theorem dX7_yearsOf_56 : decode cX7_yearsOf 56 = .ok (.ireturn, 1) := by decide +kernel
theorem dX7_thread_0 : decode cX7_thread 0 = .ok (.aload_n 0, 1) := by decide +kernel
theorem dX7_thread_1 : decode cX7_thread 1 = .ok (.iload_n 1, 1) := by decide +kernel
theorem dX7_thread_2 : decode cX7_thread 2 = .ok (.invokevirtual 172, 3) := by decide +kernel
theorem dX7_thread_5 : decode cX7_thread 5 = .ok (.ifCond .ne 6, 3) := by decide +kernel
theorem dX7_thread_8 : decode cX7_thread 8 = .ok (.bipush (-2), 2) := by decide +kernel
theorem dX7_thread_10 : decode cX7_thread 10 = .ok (.ireturn, 1) := by decide +kernel
theorem dX7_thread_11 : decode cX7_thread 11 = .ok (.iload_n 2, 1) := by decide +kernel
theorem dX7_thread_12 : decode cX7_thread 12 = .ok (.tableswitch 107 0 6 #[44, 51, 58, 67, 77, 87, 97], 44) := by decide +kernel
theorem dX7_thread_56 : decode cX7_thread 56 = .ok (.aload_n 0, 1) := by decide +kernel
theorem dX7_thread_57 : decode cX7_thread 57 = .ok (.getfield 7, 3) := by decide +kernel
theorem dX7_thread_60 : decode cX7_thread 60 = .ok (.iload_n 1, 1) := by decide +kernel
theorem dX7_thread_61 : decode cX7_thread 61 = .ok (.iaload, 1) := by decide +kernel
theorem dX7_thread_62 : decode cX7_thread 62 = .ok (.ireturn, 1) := by decide +kernel
theorem dX7_thread_63 : decode cX7_thread 63 = .ok (.aload_n 0, 1) := by decide +kernel
theorem dX7_thread_64 : decode cX7_thread 64 = .ok (.getfield 13, 3) := by decide +kernel
theorem dX7_thread_67 : decode cX7_thread 67 = .ok (.iload_n 1, 1) := by decide +kernel
theorem dX7_thread_68 : decode cX7_thread 68 = .ok (.iaload, 1) := by decide +kernel
theorem dX7_thread_69 : decode cX7_thread 69 = .ok (.ireturn, 1) := by decide +kernel
theorem dX7_thread_70 : decode cX7_thread 70 = .ok (.aload_n 0, 1) := by decide +kernel
theorem dX7_thread_71 : decode cX7_thread 71 = .ok (.getfield 25, 3) := by decide +kernel
theorem dX7_thread_74 : decode cX7_thread 74 = .ok (.iconst 0, 1) := by decide +kernel
theorem dX7_thread_75 : decode cX7_thread 75 = .ok (.iload_n 1, 1) := by decide +kernel
theorem dX7_thread_76 : decode cX7_thread 76 = .ok (.iadd, 1) := by decide +kernel
theorem dX7_thread_77 : decode cX7_thread 77 = .ok (.iaload, 1) := by decide +kernel
theorem dX7_thread_78 : decode cX7_thread 78 = .ok (.ireturn, 1) := by decide +kernel
theorem dX7_thread_79 : decode cX7_thread 79 = .ok (.aload_n 0, 1) := by decide +kernel
theorem dX7_thread_80 : decode cX7_thread 80 = .ok (.getfield 25, 3) := by decide +kernel
theorem dX7_thread_83 : decode cX7_thread 83 = .ok (.bipush 8, 2) := by decide +kernel
theorem dX7_thread_85 : decode cX7_thread 85 = .ok (.iload_n 1, 1) := by decide +kernel
theorem dX7_thread_86 : decode cX7_thread 86 = .ok (.iadd, 1) := by decide +kernel
theorem dX7_thread_87 : decode cX7_thread 87 = .ok (.iaload, 1) := by decide +kernel
theorem dX7_thread_88 : decode cX7_thread 88 = .ok (.ireturn, 1) := by decide +kernel
theorem dX7_thread_89 : decode cX7_thread 89 = .ok (.aload_n 0, 1) := by decide +kernel
theorem dX7_thread_90 : decode cX7_thread 90 = .ok (.getfield 25, 3) := by decide +kernel
theorem dX7_thread_93 : decode cX7_thread 93 = .ok (.bipush 24, 2) := by decide +kernel
theorem dX7_thread_95 : decode cX7_thread 95 = .ok (.iload_n 1, 1) := by decide +kernel
theorem dX7_thread_96 : decode cX7_thread 96 = .ok (.iadd, 1) := by decide +kernel
theorem dX7_thread_97 : decode cX7_thread 97 = .ok (.iaload, 1) := by decide +kernel
theorem dX7_thread_98 : decode cX7_thread 98 = .ok (.ireturn, 1) := by decide +kernel
theorem dX7_thread_99 : decode cX7_thread 99 = .ok (.aload_n 0, 1) := by decide +kernel
theorem dX7_thread_100 : decode cX7_thread 100 = .ok (.getfield 25, 3) := by decide +kernel
theorem dX7_thread_103 : decode cX7_thread 103 = .ok (.bipush 32, 2) := by decide +kernel
theorem dX7_thread_105 : decode cX7_thread 105 = .ok (.iload_n 1, 1) := by decide +kernel
theorem dX7_thread_106 : decode cX7_thread 106 = .ok (.iadd, 1) := by decide +kernel
theorem dX7_thread_107 : decode cX7_thread 107 = .ok (.iaload, 1) := by decide +kernel
theorem dX7_thread_108 : decode cX7_thread 108 = .ok (.ireturn, 1) := by decide +kernel
theorem dX7_thread_109 : decode cX7_thread 109 = .ok (.aload_n 0, 1) := by decide +kernel
theorem dX7_thread_110 : decode cX7_thread 110 = .ok (.getfield 25, 3) := by decide +kernel
theorem dX7_thread_113 : decode cX7_thread 113 = .ok (.bipush 16, 2) := by decide +kernel
theorem dX7_thread_115 : decode cX7_thread 115 = .ok (.iload_n 1, 1) := by decide +kernel
theorem dX7_thread_116 : decode cX7_thread 116 = .ok (.iadd, 1) := by decide +kernel
theorem dX7_thread_117 : decode cX7_thread 117 = .ok (.iaload, 1) := by decide +kernel
theorem dX7_thread_118 : decode cX7_thread 118 = .ok (.ireturn, 1) := by decide +kernel
theorem dX7_thread_119 : decode cX7_thread 119 = .ok (.bipush (-3), 2) := by decide +kernel
theorem dX7_thread_121 : decode cX7_thread 121 = .ok (.ireturn, 1) := by decide +kernel
theorem dX7_as_0 : decode cX7_as 0 = .ok (.aload_n 0, 1) := by decide +kernel
theorem dX7_as_1 : decode cX7_as 1 = .ok (.iload_n 1, 1) := by decide +kernel
theorem dX7_as_2 : decode cX7_as 2 = .ok (.invokevirtual 172, 3) := by decide +kernel
theorem dX7_as_5 : decode cX7_as 5 = .ok (.ifCond .ne 6, 3) := by decide +kernel
theorem dX7_as_8 : decode cX7_as 8 = .ok (.bipush (-2), 2) := by decide +kernel
theorem dX7_as_10 : decode cX7_as 10 = .ok (.ireturn, 1) := by decide +kernel
theorem dX7_as_11 : decode cX7_as 11 = .ok (.iload_n 2, 1) := by decide +kernel
theorem dX7_as_12 : decode cX7_as 12 = .ok (.i2l, 1) := by decide +kernel
theorem dX7_as_13 : decode cX7_as 13 = .ok (.lconst 0, 1) := by decide +kernel
theorem dX7_as_14 : decode cX7_as 14 = .ok (.ldc2_w 175, 3) := by decide +kernel
theorem dX7_as_17 : decode cX7_as 17 = .ok (.invokestatic 78, 3) := by decide +kernel
theorem dX7_as_20 : decode cX7_as 20 = .ok (.ifCond .ne 6, 3) := by decide +kernel
theorem dX7_as_23 : decode cX7_as 23 = .ok (.bipush (-3), 2) := by decide +kernel
theorem dX7_as_25 : decode cX7_as 25 = .ok (.ireturn, 1) := by decide +kernel
theorem dX7_as_26 : decode cX7_as 26 = .ok (.aload_n 0, 1) := by decide +kernel
theorem dX7_as_27 : decode cX7_as 27 = .ok (.getfield 7, 3) := by decide +kernel
theorem dX7_as_30 : decode cX7_as 30 = .ok (.iload_n 1, 1) := by decide +kernel
theorem dX7_as_31 : decode cX7_as 31 = .ok (.iaload, 1) := by decide +kernel
theorem dX7_as_32 : decode cX7_as 32 = .ok (.istore_n 3, 1) := by decide +kernel
theorem dX7_as_33 : decode cX7_as 33 = .ok (.iload_n 2, 1) := by decide +kernel
theorem dX7_as_34 : decode cX7_as 34 = .ok (.ifCond .eq 25, 3) := by decide +kernel
theorem dX7_as_37 : decode cX7_as 37 = .ok (.iload_n 2, 1) := by decide +kernel
theorem dX7_as_38 : decode cX7_as 38 = .ok (.iconst 1, 1) := by decide +kernel
theorem dX7_as_39 : decode cX7_as 39 = .ok (.if_icmp .ne 8, 3) := by decide +kernel
theorem dX7_as_42 : decode cX7_as 42 = .ok (.iload_n 3, 1) := by decide +kernel
theorem dX7_as_43 : decode cX7_as 43 = .ok (.iconst 3, 1) := by decide +kernel
theorem dX7_as_44 : decode cX7_as 44 = .ok (.if_icmp .ne 15, 3) := by decide +kernel
theorem dX7_as_47 : decode cX7_as 47 = .ok (.iload_n 2, 1) := by decide +kernel
theorem dX7_as_48 : decode cX7_as 48 = .ok (.iconst 1, 1) := by decide +kernel
theorem dX7_as_49 : decode cX7_as 49 = .ok (.if_icmp .le 14, 3) := by decide +kernel
theorem dX7_as_52 : decode cX7_as 52 = .ok (.iload_n 3, 1) := by decide +kernel
theorem dX7_as_53 : decode cX7_as 53 = .ok (.iload_n 2, 1) := by decide +kernel
theorem dX7_as_54 : decode cX7_as 54 = .ok (.iconst 1, 1) := by decide +kernel
theorem dX7_as_55 : decode cX7_as 55 = .ok (.isub, 1) := by decide +kernel
theorem dX7_as_56 : decode cX7_as 56 = .ok (.if_icmp .ne 7, 3) := by decide +kernel
theorem dX7_as_59 : decode cX7_as 59 = .ok (.iconst 1, 1) := by decide +kernel
theorem dX7_as_60 : decode cX7_as 60 = .ok (.goto 4, 3) := by decide +kernel
theorem dX7_as_63 : decode cX7_as 63 = .ok (.iconst 0, 1) := by decide +kernel
theorem dX7_as_64 : decode cX7_as 64 = .ok (.istore 4, 2) := by decide +kernel
theorem dX7_as_66 : decode cX7_as 66 = .ok (.iload 4, 2) := by decide +kernel
theorem dX7_as_68 : decode cX7_as 68 = .ok (.ifCond .eq 11, 3) := by decide +kernel
theorem dX7_as_71 : decode cX7_as 71 = .ok (.aload_n 0, 1) := by decide +kernel
theorem dX7_as_72 : decode cX7_as 72 = .ok (.iload_n 1, 1) := by decide +kernel
theorem dX7_as_73 : decode cX7_as 73 = .ok (.invokevirtual 177, 3) := by decide +kernel
theorem dX7_as_76 : decode cX7_as 76 = .ok (.goto 5, 3) := by decide +kernel
theorem dX7_as_79 : decode cX7_as 79 = .ok (.bipush (-4), 2) := by decide +kernel
theorem dX7_as_81 : decode cX7_as 81 = .ok (.ireturn, 1) := by decide +kernel
theorem dX7_order_0 : decode cX7_order 0 = .ok (.iload_n 1, 1) := by decide +kernel
theorem dX7_order_1 : decode cX7_order 1 = .ok (.i2l, 1) := by decide +kernel
theorem dX7_order_2 : decode cX7_order 2 = .ok (.lconst 0, 1) := by decide +kernel
theorem dX7_order_3 : decode cX7_order 3 = .ok (.aload_n 0, 1) := by decide +kernel
theorem dX7_order_4 : decode cX7_order 4 = .ok (.getfield 156, 3) := by decide +kernel
theorem dX7_order_7 : decode cX7_order 7 = .ok (.iconst 1, 1) := by decide +kernel
theorem dX7_order_8 : decode cX7_order 8 = .ok (.isub, 1) := by decide +kernel
theorem dX7_order_9 : decode cX7_order 9 = .ok (.i2l, 1) := by decide +kernel
theorem dX7_order_10 : decode cX7_order 10 = .ok (.invokestatic 78, 3) := by decide +kernel
theorem dX7_order_13 : decode cX7_order 13 = .ok (.ifCond .ne 6, 3) := by decide +kernel
theorem dX7_order_16 : decode cX7_order 16 = .ok (.bipush (-2), 2) := by decide +kernel
theorem dX7_order_18 : decode cX7_order 18 = .ok (.ireturn, 1) := by decide +kernel
theorem dX7_order_19 : decode cX7_order 19 = .ok (.iload_n 2, 1) := by decide +kernel
theorem dX7_order_20 : decode cX7_order 20 = .ok (.ifCond .ne 12, 3) := by decide +kernel
theorem dX7_order_23 : decode cX7_order 23 = .ok (.aload_n 0, 1) := by decide +kernel
theorem dX7_order_24 : decode cX7_order 24 = .ok (.getfield 16, 3) := by decide +kernel
theorem dX7_order_27 : decode cX7_order 27 = .ok (.iload_n 1, 1) := by decide +kernel
theorem dX7_order_28 : decode cX7_order 28 = .ok (.iaload, 1) := by decide +kernel
theorem dX7_order_29 : decode cX7_order 29 = .ok (.goto 19, 3) := by decide +kernel
theorem dX7_order_32 : decode cX7_order 32 = .ok (.iload_n 2, 1) := by decide +kernel
theorem dX7_order_33 : decode cX7_order 33 = .ok (.iconst 1, 1) := by decide +kernel
theorem dX7_order_34 : decode cX7_order 34 = .ok (.if_icmp .ne 12, 3) := by decide +kernel
theorem dX7_order_37 : decode cX7_order 37 = .ok (.aload_n 0, 1) := by decide +kernel
theorem dX7_order_38 : decode cX7_order 38 = .ok (.getfield 19, 3) := by decide +kernel
theorem dX7_order_41 : decode cX7_order 41 = .ok (.iload_n 1, 1) := by decide +kernel
theorem dX7_order_42 : decode cX7_order 42 = .ok (.iaload, 1) := by decide +kernel
theorem dX7_order_43 : decode cX7_order 43 = .ok (.goto 5, 3) := by decide +kernel
theorem dX7_order_46 : decode cX7_order 46 = .ok (.bipush (-3), 2) := by decide +kernel
theorem dX7_order_48 : decode cX7_order 48 = .ok (.ireturn, 1) := by decide +kernel
theorem dX7_topOf_0 : decode cX7_topOf 0 = .ok (.iload_n 1, 1) := by decide +kernel
theorem dX7_topOf_1 : decode cX7_topOf 1 = .ok (.istore_n 2, 1) := by decide +kernel
theorem dX7_topOf_2 : decode cX7_topOf 2 = .ok (.aload_n 0, 1) := by decide +kernel
theorem dX7_topOf_3 : decode cX7_topOf 3 = .ok (.getfield 25, 3) := by decide +kernel
theorem dX7_topOf_6 : decode cX7_topOf 6 = .ok (.bipush 24, 2) := by decide +kernel
theorem dX7_topOf_8 : decode cX7_topOf 8 = .ok (.iload_n 1, 1) := by decide +kernel
theorem dX7_topOf_9 : decode cX7_topOf 9 = .ok (.iadd, 1) := by decide +kernel
theorem dX7_topOf_10 : decode cX7_topOf 10 = .ok (.iaload, 1) := by decide +kernel
theorem dX7_topOf_11 : decode cX7_topOf 11 = .ok (.aload_n 0, 1) := by decide +kernel
theorem dX7_topOf_12 : decode cX7_topOf 12 = .ok (.invokevirtual 180, 3) := by decide +kernel
theorem dX7_topOf_15 : decode cX7_topOf 15 = .ok (.iand, 1) := by decide +kernel
theorem dX7_topOf_16 : decode cX7_topOf 16 = .ok (.istore_n 3, 1) := by decide +kernel
theorem dX7_topOf_17 : decode cX7_topOf 17 = .ok (.iload_n 3, 1) := by decide +kernel
theorem dX7_topOf_18 : decode cX7_topOf 18 = .ok (.ifCond .eq 37, 3) := by decide +kernel
theorem dX7_topOf_21 : decode cX7_topOf 21 = .ok (.iconst 0, 1) := by decide +kernel
theorem dX7_topOf_22 : decode cX7_topOf 22 = .ok (.istore_n 2, 1) := by decide +kernel
theorem dX7_topOf_23 : decode cX7_topOf 23 = .ok (.iload_n 3, 1) := by decide +kernel
theorem dX7_topOf_24 : decode cX7_topOf 24 = .ok (.iload_n 2, 1) := by decide +kernel
theorem dX7_topOf_25 : decode cX7_topOf 25 = .ok (.invokestatic 124, 3) := by decide +kernel
theorem dX7_topOf_28 : decode cX7_topOf 28 = .ok (.ifCond .ne 9, 3) := by decide +kernel
theorem dX7_topOf_31 : decode cX7_topOf 31 = .ok (.iinc 2 1, 3) := by decide +kernel
theorem dX7_topOf_34 : decode cX7_topOf 34 = .ok (.goto (-11), 3) := by decide +kernel
theorem dX7_topOf_37 : decode cX7_topOf 37 = .ok (.aload_n 0, 1) := by decide +kernel
theorem dX7_topOf_38 : decode cX7_topOf 38 = .ok (.getfield 25, 3) := by decide +kernel
theorem dX7_topOf_41 : decode cX7_topOf 41 = .ok (.bipush 24, 2) := by decide +kernel
theorem dX7_topOf_43 : decode cX7_topOf 43 = .ok (.iload_n 2, 1) := by decide +kernel
theorem dX7_topOf_44 : decode cX7_topOf 44 = .ok (.iadd, 1) := by decide +kernel
theorem dX7_topOf_45 : decode cX7_topOf 45 = .ok (.iaload, 1) := by decide +kernel
theorem dX7_topOf_46 : decode cX7_topOf 46 = .ok (.aload_n 0, 1) := by decide +kernel
theorem dX7_topOf_47 : decode cX7_topOf 47 = .ok (.invokevirtual 180, 3) := by decide +kernel
theorem dX7_topOf_50 : decode cX7_topOf 50 = .ok (.iand, 1) := by decide +kernel
theorem dX7_topOf_51 : decode cX7_topOf 51 = .ok (.istore_n 3, 1) := by decide +kernel
theorem dX7_topOf_52 : decode cX7_topOf 52 = .ok (.goto (-35), 3) := by decide +kernel
theorem dX7_topOf_55 : decode cX7_topOf 55 = .ok (.iload_n 2, 1) := by decide +kernel
theorem dX7_topOf_56 : decode cX7_topOf 56 = .ok (.ireturn, 1) := by decide +kernel
theorem dX7_top_0 : decode cX7_top 0 = .ok (.aload_n 0, 1) := by decide +kernel
theorem dX7_top_1 : decode cX7_top 1 = .ok (.iload_n 1, 1) := by decide +kernel
theorem dX7_top_2 : decode cX7_top 2 = .ok (.invokevirtual 172, 3) := by decide +kernel
theorem dX7_top_5 : decode cX7_top 5 = .ok (.ifCond .ne 6, 3) := by decide +kernel
theorem dX7_top_8 : decode cX7_top 8 = .ok (.bipush (-2), 2) := by decide +kernel
theorem dX7_top_10 : decode cX7_top 10 = .ok (.ireturn, 1) := by decide +kernel
theorem dX7_top_11 : decode cX7_top 11 = .ok (.aload_n 0, 1) := by decide +kernel
theorem dX7_top_12 : decode cX7_top 12 = .ok (.iload_n 1, 1) := by decide +kernel
theorem dX7_top_13 : decode cX7_top 13 = .ok (.invokevirtual 169, 3) := by decide +kernel
theorem dX7_top_16 : decode cX7_top 16 = .ok (.ifCond .eq 11, 3) := by decide +kernel
theorem dX7_top_19 : decode cX7_top 19 = .ok (.aload_n 0, 1) := by decide +kernel
theorem dX7_top_20 : decode cX7_top 20 = .ok (.iload_n 1, 1) := by decide +kernel
theorem dX7_top_21 : decode cX7_top 21 = .ok (.invokevirtual 183, 3) := by decide +kernel
theorem dX7_top_24 : decode cX7_top 24 = .ok (.goto 5, 3) := by decide +kernel
theorem dX7_top_27 : decode cX7_top 27 = .ok (.bipush (-4), 2) := by decide +kernel
theorem dX7_top_29 : decode cX7_top 29 = .ok (.ireturn, 1) := by decide +kernel
theorem dX7_fallsOn_0 : decode cX7_fallsOn 0 = .ok (.aload_n 0, 1) := by decide +kernel
theorem dX7_fallsOn_1 : decode cX7_fallsOn 1 = .ok (.iload_n 1, 1) := by decide +kernel
theorem dX7_fallsOn_2 : decode cX7_fallsOn 2 = .ok (.invokevirtual 169, 3) := by decide +kernel
theorem dX7_fallsOn_5 : decode cX7_fallsOn 5 = .ok (.ifCond .eq 17, 3) := by decide +kernel
theorem dX7_fallsOn_8 : decode cX7_fallsOn 8 = .ok (.aload_n 0, 1) := by decide +kernel
theorem dX7_fallsOn_9 : decode cX7_fallsOn 9 = .ok (.getfield 7, 3) := by decide +kernel
theorem dX7_fallsOn_12 : decode cX7_fallsOn 12 = .ok (.aload_n 0, 1) := by decide +kernel
theorem dX7_fallsOn_13 : decode cX7_fallsOn 13 = .ok (.iload_n 1, 1) := by decide +kernel
theorem dX7_fallsOn_14 : decode cX7_fallsOn 14 = .ok (.invokevirtual 183, 3) := by decide +kernel
theorem dX7_fallsOn_17 : decode cX7_fallsOn 17 = .ok (.iaload, 1) := by decide +kernel
theorem dX7_fallsOn_18 : decode cX7_fallsOn 18 = .ok (.iconst 3, 1) := by decide +kernel
theorem dX7_fallsOn_19 : decode cX7_fallsOn 19 = .ok (.if_icmp .ne 5, 3) := by decide +kernel
theorem dX7_fallsOn_22 : decode cX7_fallsOn 22 = .ok (.iconst 0, 1) := by decide +kernel
theorem dX7_fallsOn_23 : decode cX7_fallsOn 23 = .ok (.ireturn, 1) := by decide +kernel
theorem dX7_fallsOn_24 : decode cX7_fallsOn 24 = .ok (.iconst 1, 1) := by decide +kernel
theorem dX7_fallsOn_25 : decode cX7_fallsOn 25 = .ok (.aload_n 0, 1) := by decide +kernel
theorem dX7_fallsOn_26 : decode cX7_fallsOn 26 = .ok (.iload_n 1, 1) := by decide +kernel
theorem dX7_fallsOn_27 : decode cX7_fallsOn 27 = .ok (.invokevirtual 183, 3) := by decide +kernel
theorem dX7_fallsOn_30 : decode cX7_fallsOn 30 = .ok (.ishl, 1) := by decide +kernel
theorem dX7_fallsOn_31 : decode cX7_fallsOn 31 = .ok (.istore_n 2, 1) := by decide +kernel
theorem dX7_fallsOn_32 : decode cX7_fallsOn 32 = .ok (.iconst 0, 1) := by decide +kernel
theorem dX7_fallsOn_33 : decode cX7_fallsOn 33 = .ok (.istore_n 3, 1) := by decide +kernel
theorem dX7_fallsOn_34 : decode cX7_fallsOn 34 = .ok (.iload_n 3, 1) := by decide +kernel
theorem dX7_fallsOn_35 : decode cX7_fallsOn 35 = .ok (.bipush 8, 2) := by decide +kernel
theorem dX7_fallsOn_37 : decode cX7_fallsOn 37 = .ok (.if_icmp .ge 58, 3) := by decide +kernel
theorem dX7_fallsOn_40 : decode cX7_fallsOn 40 = .ok (.iconst 0, 1) := by decide +kernel
theorem dX7_fallsOn_41 : decode cX7_fallsOn 41 = .ok (.istore 4, 2) := by decide +kernel
theorem dX7_fallsOn_43 : decode cX7_fallsOn 43 = .ok (.iload 4, 2) := by decide +kernel
theorem dX7_fallsOn_45 : decode cX7_fallsOn 45 = .ok (.aload_n 0, 1) := by decide +kernel
theorem dX7_fallsOn_46 : decode cX7_fallsOn 46 = .ok (.getfield 74, 3) := by decide +kernel
theorem dX7_fallsOn_49 : decode cX7_fallsOn 49 = .ok (.if_icmp .ge 40, 3) := by decide +kernel
theorem dX7_fallsOn_52 : decode cX7_fallsOn 52 = .ok (.iload_n 2, 1) := by decide +kernel
theorem dX7_fallsOn_53 : decode cX7_fallsOn 53 = .ok (.iload_n 2, 1) := by decide +kernel
theorem dX7_fallsOn_54 : decode cX7_fallsOn 54 = .ok (.iload 4, 2) := by decide +kernel
theorem dX7_fallsOn_56 : decode cX7_fallsOn 56 = .ok (.invokestatic 124, 3) := by decide +kernel
theorem dX7_fallsOn_59 : decode cX7_fallsOn 59 = .ok (.ifCond .eq 21, 3) := by decide +kernel
theorem dX7_fallsOn_62 : decode cX7_fallsOn 62 = .ok (.aload_n 0, 1) := by decide +kernel
theorem dX7_fallsOn_63 : decode cX7_fallsOn 63 = .ok (.getfield 25, 3) := by decide +kernel
theorem dX7_fallsOn_66 : decode cX7_fallsOn 66 = .ok (.bipush 32, 2) := by decide +kernel
theorem dX7_fallsOn_68 : decode cX7_fallsOn 68 = .ok (.iload 4, 2) := by decide +kernel
theorem dX7_fallsOn_70 : decode cX7_fallsOn 70 = .ok (.iadd, 1) := by decide +kernel
theorem dX7_fallsOn_71 : decode cX7_fallsOn 71 = .ok (.iaload, 1) := by decide +kernel
theorem dX7_fallsOn_72 : decode cX7_fallsOn 72 = .ok (.aload_n 0, 1) := by decide +kernel
theorem dX7_fallsOn_73 : decode cX7_fallsOn 73 = .ok (.invokevirtual 180, 3) := by decide +kernel
theorem dX7_fallsOn_76 : decode cX7_fallsOn 76 = .ok (.iand, 1) := by decide +kernel
theorem dX7_fallsOn_77 : decode cX7_fallsOn 77 = .ok (.goto 4, 3) := by decide +kernel
theorem dX7_fallsOn_80 : decode cX7_fallsOn 80 = .ok (.iconst 0, 1) := by decide +kernel
theorem dX7_fallsOn_81 : decode cX7_fallsOn 81 = .ok (.ior, 1) := by decide +kernel
theorem dX7_fallsOn_82 : decode cX7_fallsOn 82 = .ok (.istore_n 2, 1) := by decide +kernel
theorem dX7_fallsOn_83 : decode cX7_fallsOn 83 = .ok (.iinc 4 1, 3) := by decide +kernel
theorem dX7_fallsOn_86 : decode cX7_fallsOn 86 = .ok (.goto (-43), 3) := by decide +kernel
theorem dX7_fallsOn_89 : decode cX7_fallsOn 89 = .ok (.iinc 3 1, 3) := by decide +kernel
theorem dX7_fallsOn_92 : decode cX7_fallsOn 92 = .ok (.goto (-58), 3) := by decide +kernel
theorem dX7_fallsOn_95 : decode cX7_fallsOn 95 = .ok (.iload_n 2, 1) := by decide +kernel
theorem dX7_fallsOn_96 : decode cX7_fallsOn 96 = .ok (.ireturn, 1) := by decide +kernel
theorem dX7_lossOf_0 : decode cX7_lossOf 0 = .ok (.iconst 0, 1) := by decide +kernel
theorem dX7_lossOf_1 : decode cX7_lossOf 1 = .ok (.istore_n 2, 1) := by decide +kernel
theorem dX7_lossOf_2 : decode cX7_lossOf 2 = .ok (.iconst 0, 1) := by decide +kernel
theorem dX7_lossOf_3 : decode cX7_lossOf 3 = .ok (.istore_n 3, 1) := by decide +kernel
theorem dX7_lossOf_4 : decode cX7_lossOf 4 = .ok (.iload_n 3, 1) := by decide +kernel
theorem dX7_lossOf_5 : decode cX7_lossOf 5 = .ok (.aload_n 0, 1) := by decide +kernel
theorem dX7_lossOf_6 : decode cX7_lossOf 6 = .ok (.getfield 74, 3) := by decide +kernel
theorem dX7_lossOf_9 : decode cX7_lossOf 9 = .ok (.if_icmp .ge 39, 3) := by decide +kernel
theorem dX7_lossOf_12 : decode cX7_lossOf 12 = .ok (.iload_n 2, 1) := by decide +kernel
theorem dX7_lossOf_13 : decode cX7_lossOf 13 = .ok (.iload_n 1, 1) := by decide +kernel
theorem dX7_lossOf_14 : decode cX7_lossOf 14 = .ok (.iload_n 3, 1) := by decide +kernel
theorem dX7_lossOf_15 : decode cX7_lossOf 15 = .ok (.invokestatic 124, 3) := by decide +kernel
theorem dX7_lossOf_18 : decode cX7_lossOf 18 = .ok (.ifCond .eq 21, 3) := by decide +kernel
theorem dX7_lossOf_21 : decode cX7_lossOf 21 = .ok (.aload_n 0, 1) := by decide +kernel
theorem dX7_lossOf_22 : decode cX7_lossOf 22 = .ok (.getfield 7, 3) := by decide +kernel
theorem dX7_lossOf_25 : decode cX7_lossOf 25 = .ok (.iload_n 3, 1) := by decide +kernel
theorem dX7_lossOf_26 : decode cX7_lossOf 26 = .ok (.iaload, 1) := by decide +kernel
theorem dX7_lossOf_27 : decode cX7_lossOf 27 = .ok (.iconst 2, 1) := by decide +kernel
theorem dX7_lossOf_28 : decode cX7_lossOf 28 = .ok (.if_icmp .eq 11, 3) := by decide +kernel
theorem dX7_lossOf_31 : decode cX7_lossOf 31 = .ok (.aload_n 0, 1) := by decide +kernel
theorem dX7_lossOf_32 : decode cX7_lossOf 32 = .ok (.iload_n 3, 1) := by decide +kernel
theorem dX7_lossOf_33 : decode cX7_lossOf 33 = .ok (.invokevirtual 177, 3) := by decide +kernel
theorem dX7_lossOf_36 : decode cX7_lossOf 36 = .ok (.goto 4, 3) := by decide +kernel
theorem dX7_lossOf_39 : decode cX7_lossOf 39 = .ok (.iconst 0, 1) := by decide +kernel
theorem dX7_lossOf_40 : decode cX7_lossOf 40 = .ok (.iadd, 1) := by decide +kernel
theorem dX7_lossOf_41 : decode cX7_lossOf 41 = .ok (.istore_n 2, 1) := by decide +kernel
theorem dX7_lossOf_42 : decode cX7_lossOf 42 = .ok (.iinc 3 1, 3) := by decide +kernel
theorem dX7_lossOf_45 : decode cX7_lossOf 45 = .ok (.goto (-41), 3) := by decide +kernel
theorem dX7_lossOf_48 : decode cX7_lossOf 48 = .ok (.iload_n 2, 1) := by decide +kernel
theorem dX7_lossOf_49 : decode cX7_lossOf 49 = .ok (.ireturn, 1) := by decide +kernel
theorem dX7_cutNow_0 : decode cX7_cutNow 0 = .ok (.aload_n 0, 1) := by decide +kernel
theorem dX7_cutNow_1 : decode cX7_cutNow 1 = .ok (.iload_n 1, 1) := by decide +kernel
theorem dX7_cutNow_2 : decode cX7_cutNow 2 = .ok (.invokevirtual 186, 3) := by decide +kernel
theorem dX7_cutNow_5 : decode cX7_cutNow 5 = .ok (.istore_n 2, 1) := by decide +kernel
theorem dX7_cutNow_6 : decode cX7_cutNow 6 = .ok (.aload_n 0, 1) := by decide +kernel
theorem dX7_cutNow_7 : decode cX7_cutNow 7 = .ok (.getfield 25, 3) := by decide +kernel
theorem dX7_cutNow_10 : decode cX7_cutNow 10 = .ok (.bipush 41, 2) := by decide +kernel
theorem dX7_cutNow_12 : decode cX7_cutNow 12 = .ok (.dup2, 1) := by decide +kernel
theorem dX7_cutNow_13 : decode cX7_cutNow 13 = .ok (.iaload, 1) := by decide +kernel
theorem dX7_cutNow_14 : decode cX7_cutNow 14 = .ok (.aload_n 0, 1) := by decide +kernel
theorem dX7_cutNow_15 : decode cX7_cutNow 15 = .ok (.iload_n 2, 1) := by decide +kernel
theorem dX7_cutNow_16 : decode cX7_cutNow 16 = .ok (.invokevirtual 189, 3) := by decide +kernel
theorem dX7_cutNow_19 : decode cX7_cutNow 19 = .ok (.iadd, 1) := by decide +kernel
theorem dX7_cutNow_20 : decode cX7_cutNow 20 = .ok (.iastore, 1) := by decide +kernel
theorem dX7_cutNow_21 : decode cX7_cutNow 21 = .ok (.iconst 0, 1) := by decide +kernel
theorem dX7_cutNow_22 : decode cX7_cutNow 22 = .ok (.istore_n 3, 1) := by decide +kernel
theorem dX7_cutNow_23 : decode cX7_cutNow 23 = .ok (.iload_n 3, 1) := by decide +kernel
theorem dX7_cutNow_24 : decode cX7_cutNow 24 = .ok (.aload_n 0, 1) := by decide +kernel
theorem dX7_cutNow_25 : decode cX7_cutNow 25 = .ok (.getfield 74, 3) := by decide +kernel
theorem dX7_cutNow_28 : decode cX7_cutNow 28 = .ok (.if_icmp .ge 43, 3) := by decide +kernel
theorem dX7_cutNow_31 : decode cX7_cutNow 31 = .ok (.iload_n 2, 1) := by decide +kernel
theorem dX7_cutNow_32 : decode cX7_cutNow 32 = .ok (.iload_n 3, 1) := by decide +kernel
theorem dX7_cutNow_33 : decode cX7_cutNow 33 = .ok (.invokestatic 124, 3) := by decide +kernel
theorem dX7_cutNow_36 : decode cX7_cutNow 36 = .ok (.ifCond .eq 29, 3) := by decide +kernel
theorem dX7_cutNow_39 : decode cX7_cutNow 39 = .ok (.aload_n 0, 1) := by decide +kernel
theorem dX7_cutNow_40 : decode cX7_cutNow 40 = .ok (.getfield 25, 3) := by decide +kernel
theorem dX7_cutNow_43 : decode cX7_cutNow 43 = .ok (.bipush 8, 2) := by decide +kernel
theorem dX7_cutNow_45 : decode cX7_cutNow 45 = .ok (.iload_n 3, 1) := by decide +kernel
theorem dX7_cutNow_46 : decode cX7_cutNow 46 = .ok (.iadd, 1) := by decide +kernel
theorem dX7_cutNow_47 : decode cX7_cutNow 47 = .ok (.iconst 1, 1) := by decide +kernel
theorem dX7_cutNow_48 : decode cX7_cutNow 48 = .ok (.iastore, 1) := by decide +kernel
theorem dX7_cutNow_49 : decode cX7_cutNow 49 = .ok (.aload_n 0, 1) := by decide +kernel
theorem dX7_cutNow_50 : decode cX7_cutNow 50 = .ok (.getfield 25, 3) := by decide +kernel
theorem dX7_cutNow_53 : decode cX7_cutNow 53 = .ok (.bipush 16, 2) := by decide +kernel
theorem dX7_cutNow_55 : decode cX7_cutNow 55 = .ok (.iload_n 3, 1) := by decide +kernel
theorem dX7_cutNow_56 : decode cX7_cutNow 56 = .ok (.iadd, 1) := by decide +kernel
theorem dX7_cutNow_57 : decode cX7_cutNow 57 = .ok (.aload_n 0, 1) := by decide +kernel
theorem dX7_cutNow_58 : decode cX7_cutNow 58 = .ok (.getfield 25, 3) := by decide +kernel
theorem dX7_cutNow_61 : decode cX7_cutNow 61 = .ok (.bipush 40, 2) := by decide +kernel
theorem dX7_cutNow_63 : decode cX7_cutNow 63 = .ok (.iaload, 1) := by decide +kernel
theorem dX7_cutNow_64 : decode cX7_cutNow 64 = .ok (.iastore, 1) := by decide +kernel
theorem dX7_cutNow_65 : decode cX7_cutNow 65 = .ok (.iinc 3 1, 3) := by decide +kernel
theorem dX7_cutNow_68 : decode cX7_cutNow 68 = .ok (.goto (-45), 3) := by decide +kernel
theorem dX7_cutNow_71 : decode cX7_cutNow 71 = .ok (.iload_n 2, 1) := by decide +kernel
theorem dX7_cutNow_72 : decode cX7_cutNow 72 = .ok (.ireturn, 1) := by decide +kernel
theorem dX7_note_0 : decode cX7_note 0 = .ok (.aload_n 0, 1) := by decide +kernel
theorem dX7_note_1 : decode cX7_note 1 = .ok (.getfield 166, 3) := by decide +kernel
theorem dX7_note_4 : decode cX7_note 4 = .ok (.bipush 8, 2) := by decide +kernel
theorem dX7_note_6 : decode cX7_note 6 = .ok (.if_icmp .ne 43, 3) := by decide +kernel
theorem dX7_note_9 : decode cX7_note 9 = .ok (.iconst 0, 1) := by decide +kernel
theorem dX7_note_10 : decode cX7_note 10 = .ok (.istore_n 1, 1) := by decide +kernel
theorem dX7_note_11 : decode cX7_note 11 = .ok (.iload_n 1, 1) := by decide +kernel
theorem dX7_note_12 : decode cX7_note 12 = .ok (.sipush 294, 3) := by decide +kernel
theorem dX7_note_15 : decode cX7_note 15 = .ok (.if_icmp .ge 24, 3) := by decide +kernel
theorem dX7_note_18 : decode cX7_note 18 = .ok (.aload_n 0, 1) := by decide +kernel
theorem dX7_note_19 : decode cX7_note 19 = .ok (.getfield 46, 3) := by decide +kernel
theorem dX7_note_22 : decode cX7_note 22 = .ok (.iload_n 1, 1) := by decide +kernel
theorem dX7_note_23 : decode cX7_note 23 = .ok (.aload_n 0, 1) := by decide +kernel
theorem dX7_note_24 : decode cX7_note 24 = .ok (.getfield 46, 3) := by decide +kernel
theorem dX7_note_27 : decode cX7_note 27 = .ok (.iload_n 1, 1) := by decide +kernel
theorem dX7_note_28 : decode cX7_note 28 = .ok (.bipush 42, 2) := by decide +kernel
theorem dX7_note_30 : decode cX7_note 30 = .ok (.iadd, 1) := by decide +kernel
theorem dX7_note_31 : decode cX7_note 31 = .ok (.iaload, 1) := by decide +kernel
theorem dX7_note_32 : decode cX7_note 32 = .ok (.iastore, 1) := by decide +kernel
theorem dX7_note_33 : decode cX7_note 33 = .ok (.iinc 1 1, 3) := by decide +kernel
theorem dX7_note_36 : decode cX7_note 36 = .ok (.goto (-25), 3) := by decide +kernel
theorem dX7_note_39 : decode cX7_note 39 = .ok (.aload_n 0, 1) := by decide +kernel
theorem dX7_note_40 : decode cX7_note 40 = .ok (.dup, 1) := by decide +kernel
theorem dX7_note_41 : decode cX7_note 41 = .ok (.getfield 166, 3) := by decide +kernel
theorem dX7_note_44 : decode cX7_note 44 = .ok (.iconst 1, 1) := by decide +kernel
end
section
theorem dX7_note_45 : decode cX7_note 45 = .ok (.isub, 1) := by decide +kernel
theorem dX7_note_46 : decode cX7_note 46 = .ok (.putfield 166, 3) := by decide +kernel
theorem dX7_note_49 : decode cX7_note 49 = .ok (.iconst 0, 1) := by decide +kernel
theorem dX7_note_50 : decode cX7_note 50 = .ok (.istore_n 1, 1) := by decide +kernel
theorem dX7_note_51 : decode cX7_note 51 = .ok (.iload_n 1, 1) := by decide +kernel
theorem dX7_note_52 : decode cX7_note 52 = .ok (.bipush 42, 2) := by decide +kernel
theorem dX7_note_54 : decode cX7_note 54 = .ok (.if_icmp .ge 29, 3) := by decide +kernel
theorem dX7_note_57 : decode cX7_note 57 = .ok (.aload_n 0, 1) := by decide +kernel
theorem dX7_note_58 : decode cX7_note 58 = .ok (.getfield 46, 3) := by decide +kernel
theorem dX7_note_61 : decode cX7_note 61 = .ok (.bipush 42, 2) := by decide +kernel
theorem dX7_note_63 : decode cX7_note 63 = .ok (.aload_n 0, 1) := by decide +kernel
theorem dX7_note_64 : decode cX7_note 64 = .ok (.getfield 166, 3) := by decide +kernel
theorem dX7_note_67 : decode cX7_note 67 = .ok (.imul, 1) := by decide +kernel
theorem dX7_note_68 : decode cX7_note 68 = .ok (.iload_n 1, 1) := by decide +kernel
theorem dX7_note_69 : decode cX7_note 69 = .ok (.iadd, 1) := by decide +kernel
theorem dX7_note_70 : decode cX7_note 70 = .ok (.aload_n 0, 1) := by decide +kernel
theorem dX7_note_71 : decode cX7_note 71 = .ok (.getfield 25, 3) := by decide +kernel
theorem dX7_note_74 : decode cX7_note 74 = .ok (.iload_n 1, 1) := by decide +kernel
theorem dX7_note_75 : decode cX7_note 75 = .ok (.iaload, 1) := by decide +kernel
theorem dX7_note_76 : decode cX7_note 76 = .ok (.iastore, 1) := by decide +kernel
theorem dX7_note_77 : decode cX7_note 77 = .ok (.iinc 1 1, 3) := by decide +kernel
theorem dX7_note_80 : decode cX7_note 80 = .ok (.goto (-29), 3) := by decide +kernel
theorem dX7_note_83 : decode cX7_note 83 = .ok (.aload_n 0, 1) := by decide +kernel
theorem dX7_note_84 : decode cX7_note 84 = .ok (.dup, 1) := by decide +kernel
theorem dX7_note_85 : decode cX7_note 85 = .ok (.getfield 166, 3) := by decide +kernel
theorem dX7_note_88 : decode cX7_note 88 = .ok (.iconst 1, 1) := by decide +kernel
theorem dX7_note_89 : decode cX7_note 89 = .ok (.iadd, 1) := by decide +kernel
theorem dX7_note_90 : decode cX7_note 90 = .ok (.putfield 166, 3) := by decide +kernel
theorem dX7_note_93 : decode cX7_note 93 = .ok (.return_, 1) := by decide +kernel
theorem dX7_cut_0 : decode cX7_cut 0 = .ok (.aload_n 0, 1) := by decide +kernel
theorem dX7_cut_1 : decode cX7_cut 1 = .ok (.iload_n 1, 1) := by decide +kernel
theorem dX7_cut_2 : decode cX7_cut 2 = .ok (.invokevirtual 172, 3) := by decide +kernel
theorem dX7_cut_5 : decode cX7_cut 5 = .ok (.ifCond .ne 6, 3) := by decide +kernel
theorem dX7_cut_8 : decode cX7_cut 8 = .ok (.bipush (-2), 2) := by decide +kernel
theorem dX7_cut_10 : decode cX7_cut 10 = .ok (.ireturn, 1) := by decide +kernel
theorem dX7_cut_11 : decode cX7_cut 11 = .ok (.aload_n 0, 1) := by decide +kernel
theorem dX7_cut_12 : decode cX7_cut 12 = .ok (.iload_n 1, 1) := by decide +kernel
theorem dX7_cut_13 : decode cX7_cut 13 = .ok (.invokevirtual 169, 3) := by decide +kernel
theorem dX7_cut_16 : decode cX7_cut 16 = .ok (.ifCond .ne 6, 3) := by decide +kernel
theorem dX7_cut_19 : decode cX7_cut 19 = .ok (.bipush (-4), 2) := by decide +kernel
theorem dX7_cut_21 : decode cX7_cut 21 = .ok (.ireturn, 1) := by decide +kernel
theorem dX7_cut_22 : decode cX7_cut 22 = .ok (.aload_n 0, 1) := by decide +kernel
theorem dX7_cut_23 : decode cX7_cut 23 = .ok (.invokevirtual 192, 3) := by decide +kernel
theorem dX7_cut_26 : decode cX7_cut 26 = .ok (.aload_n 0, 1) := by decide +kernel
theorem dX7_cut_27 : decode cX7_cut 27 = .ok (.iload_n 1, 1) := by decide +kernel
theorem dX7_cut_28 : decode cX7_cut 28 = .ok (.invokevirtual 195, 3) := by decide +kernel
theorem dX7_cut_31 : decode cX7_cut 31 = .ok (.invokestatic 198, 3) := by decide +kernel
theorem dX7_cut_34 : decode cX7_cut 34 = .ok (.ireturn, 1) := by decide +kernel
theorem dX7_areTwo_0 : decode cX7_areTwo 0 = .ok (.aload_n 0, 1) := by decide +kernel
theorem dX7_areTwo_1 : decode cX7_areTwo 1 = .ok (.iload_n 1, 1) := by decide +kernel
theorem dX7_areTwo_2 : decode cX7_areTwo 2 = .ok (.invokevirtual 172, 3) := by decide +kernel
theorem dX7_areTwo_5 : decode cX7_areTwo 5 = .ok (.ifCond .eq 20, 3) := by decide +kernel
theorem dX7_areTwo_8 : decode cX7_areTwo 8 = .ok (.aload_n 0, 1) := by decide +kernel
theorem dX7_areTwo_9 : decode cX7_areTwo 9 = .ok (.iload_n 2, 1) := by decide +kernel
theorem dX7_areTwo_10 : decode cX7_areTwo 10 = .ok (.invokevirtual 172, 3) := by decide +kernel
theorem dX7_areTwo_13 : decode cX7_areTwo 13 = .ok (.ifCond .eq 12, 3) := by decide +kernel
theorem dX7_areTwo_16 : decode cX7_areTwo 16 = .ok (.iload_n 1, 1) := by decide +kernel
theorem dX7_areTwo_17 : decode cX7_areTwo 17 = .ok (.iload_n 2, 1) := by decide +kernel
theorem dX7_areTwo_18 : decode cX7_areTwo 18 = .ok (.if_icmp .eq 7, 3) := by decide +kernel
theorem dX7_areTwo_21 : decode cX7_areTwo 21 = .ok (.iconst 1, 1) := by decide +kernel
theorem dX7_areTwo_22 : decode cX7_areTwo 22 = .ok (.goto 4, 3) := by decide +kernel
theorem dX7_areTwo_25 : decode cX7_areTwo 25 = .ok (.iconst 0, 1) := by decide +kernel
theorem dX7_areTwo_26 : decode cX7_areTwo 26 = .ok (.ireturn, 1) := by decide +kernel
theorem dX7_put_0 : decode cX7_put 0 = .ok (.aload_n 0, 1) := by decide +kernel
theorem dX7_put_1 : decode cX7_put 1 = .ok (.iload_n 1, 1) := by decide +kernel
theorem dX7_put_2 : decode cX7_put 2 = .ok (.iload_n 2, 1) := by decide +kernel
theorem dX7_put_3 : decode cX7_put 3 = .ok (.invokevirtual 201, 3) := by decide +kernel
theorem dX7_put_6 : decode cX7_put 6 = .ok (.ifCond .ne 6, 3) := by decide +kernel
theorem dX7_put_9 : decode cX7_put 9 = .ok (.bipush (-2), 2) := by decide +kernel
theorem dX7_put_11 : decode cX7_put 11 = .ok (.ireturn, 1) := by decide +kernel
theorem dX7_put_12 : decode cX7_put 12 = .ok (.iconst 0, 1) := by decide +kernel
theorem dX7_put_13 : decode cX7_put 13 = .ok (.istore_n 3, 1) := by decide +kernel
theorem dX7_put_14 : decode cX7_put 14 = .ok (.iload_n 3, 1) := by decide +kernel
theorem dX7_put_15 : decode cX7_put 15 = .ok (.bipush 8, 2) := by decide +kernel
theorem dX7_put_17 : decode cX7_put 17 = .ok (.if_icmp .ge 24, 3) := by decide +kernel
theorem dX7_put_20 : decode cX7_put 20 = .ok (.aload_n 0, 1) := by decide +kernel
theorem dX7_put_21 : decode cX7_put 21 = .ok (.getfield 49, 3) := by decide +kernel
theorem dX7_put_24 : decode cX7_put 24 = .ok (.iload_n 3, 1) := by decide +kernel
theorem dX7_put_25 : decode cX7_put 25 = .ok (.aload_n 0, 1) := by decide +kernel
theorem dX7_put_26 : decode cX7_put 26 = .ok (.getfield 25, 3) := by decide +kernel
theorem dX7_put_29 : decode cX7_put 29 = .ok (.bipush 24, 2) := by decide +kernel
theorem dX7_put_31 : decode cX7_put 31 = .ok (.iload_n 3, 1) := by decide +kernel
theorem dX7_put_32 : decode cX7_put 32 = .ok (.iadd, 1) := by decide +kernel
theorem dX7_put_33 : decode cX7_put 33 = .ok (.iaload, 1) := by decide +kernel
theorem dX7_put_34 : decode cX7_put 34 = .ok (.iastore, 1) := by decide +kernel
theorem dX7_put_35 : decode cX7_put 35 = .ok (.iinc 3 1, 3) := by decide +kernel
theorem dX7_put_38 : decode cX7_put 38 = .ok (.goto (-24), 3) := by decide +kernel
theorem dX7_put_41 : decode cX7_put 41 = .ok (.aload_n 0, 1) := by decide +kernel
theorem dX7_put_42 : decode cX7_put 42 = .ok (.iload_n 1, 1) := by decide +kernel
theorem dX7_put_43 : decode cX7_put 43 = .ok (.invokevirtual 169, 3) := by decide +kernel
theorem dX7_put_46 : decode cX7_put 46 = .ok (.ifCond .eq 36, 3) := by decide +kernel
theorem dX7_put_49 : decode cX7_put 49 = .ok (.aload_n 0, 1) := by decide +kernel
theorem dX7_put_50 : decode cX7_put 50 = .ok (.iload_n 2, 1) := by decide +kernel
theorem dX7_put_51 : decode cX7_put 51 = .ok (.invokevirtual 169, 3) := by decide +kernel
theorem dX7_put_54 : decode cX7_put 54 = .ok (.ifCond .eq 28, 3) := by decide +kernel
theorem dX7_put_57 : decode cX7_put 57 = .ok (.aload_n 0, 1) := by decide +kernel
theorem dX7_put_58 : decode cX7_put 58 = .ok (.getfield 49, 3) := by decide +kernel
theorem dX7_put_61 : decode cX7_put 61 = .ok (.iload_n 2, 1) := by decide +kernel
theorem dX7_put_62 : decode cX7_put 62 = .ok (.iaload, 1) := by decide +kernel
theorem dX7_put_63 : decode cX7_put 63 = .ok (.iload_n 1, 1) := by decide +kernel
theorem dX7_put_64 : decode cX7_put 64 = .ok (.invokestatic 124, 3) := by decide +kernel
theorem dX7_put_67 : decode cX7_put 67 = .ok (.ifCond .ne 15, 3) := by decide +kernel
theorem dX7_put_70 : decode cX7_put 70 = .ok (.aload_n 0, 1) := by decide +kernel
theorem dX7_put_71 : decode cX7_put 71 = .ok (.getfield 49, 3) := by decide +kernel
theorem dX7_put_74 : decode cX7_put 74 = .ok (.iload_n 2, 1) := by decide +kernel
theorem dX7_put_75 : decode cX7_put 75 = .ok (.iload_n 1, 1) := by decide +kernel
theorem dX7_put_76 : decode cX7_put 76 = .ok (.invokestatic 138, 3) := by decide +kernel
theorem dX7_put_79 : decode cX7_put 79 = .ok (.ifCond .eq 6, 3) := by decide +kernel
theorem dX7_put_82 : decode cX7_put 82 = .ok (.bipush (-4), 2) := by decide +kernel
theorem dX7_put_84 : decode cX7_put 84 = .ok (.ireturn, 1) := by decide +kernel
theorem dX7_put_85 : decode cX7_put 85 = .ok (.aload_n 0, 1) := by decide +kernel
theorem dX7_put_86 : decode cX7_put 86 = .ok (.invokevirtual 192, 3) := by decide +kernel
theorem dX7_put_89 : decode cX7_put 89 = .ok (.aload_n 0, 1) := by decide +kernel
theorem dX7_put_90 : decode cX7_put 90 = .ok (.getfield 25, 3) := by decide +kernel
theorem dX7_put_93 : decode cX7_put 93 = .ok (.bipush 24, 2) := by decide +kernel
theorem dX7_put_95 : decode cX7_put 95 = .ok (.iload_n 2, 1) := by decide +kernel
theorem dX7_put_96 : decode cX7_put 96 = .ok (.iadd, 1) := by decide +kernel
theorem dX7_put_97 : decode cX7_put 97 = .ok (.dup2, 1) := by decide +kernel
theorem dX7_put_98 : decode cX7_put 98 = .ok (.iaload, 1) := by decide +kernel
theorem dX7_put_99 : decode cX7_put 99 = .ok (.iconst 1, 1) := by decide +kernel
theorem dX7_put_100 : decode cX7_put 100 = .ok (.iload_n 1, 1) := by decide +kernel
theorem dX7_put_101 : decode cX7_put 101 = .ok (.ishl, 1) := by decide +kernel
theorem dX7_put_102 : decode cX7_put 102 = .ok (.ior, 1) := by decide +kernel
theorem dX7_put_103 : decode cX7_put 103 = .ok (.iastore, 1) := by decide +kernel
theorem dX7_put_104 : decode cX7_put 104 = .ok (.aload_n 0, 1) := by decide +kernel
theorem dX7_put_105 : decode cX7_put 105 = .ok (.getfield 25, 3) := by decide +kernel
theorem dX7_put_108 : decode cX7_put 108 = .ok (.bipush 24, 2) := by decide +kernel
theorem dX7_put_110 : decode cX7_put 110 = .ok (.iload_n 2, 1) := by decide +kernel
theorem dX7_put_111 : decode cX7_put 111 = .ok (.iadd, 1) := by decide +kernel
theorem dX7_put_112 : decode cX7_put 112 = .ok (.iaload, 1) := by decide +kernel
theorem dX7_put_113 : decode cX7_put 113 = .ok (.invokestatic 198, 3) := by decide +kernel
theorem dX7_put_116 : decode cX7_put 116 = .ok (.ireturn, 1) := by decide +kernel
theorem dX7_liesOver_0 : decode cX7_liesOver 0 = .ok (.iconst 0, 1) := by decide +kernel
theorem dX7_liesOver_1 : decode cX7_liesOver 1 = .ok (.istore_n 2, 1) := by decide +kernel
theorem dX7_liesOver_2 : decode cX7_liesOver 2 = .ok (.iconst 0, 1) := by decide +kernel
theorem dX7_liesOver_3 : decode cX7_liesOver 3 = .ok (.istore_n 3, 1) := by decide +kernel
theorem dX7_liesOver_4 : decode cX7_liesOver 4 = .ok (.iload_n 3, 1) := by decide +kernel
theorem dX7_liesOver_5 : decode cX7_liesOver 5 = .ok (.aload_n 0, 1) := by decide +kernel
theorem dX7_liesOver_6 : decode cX7_liesOver 6 = .ok (.getfield 74, 3) := by decide +kernel
theorem dX7_liesOver_9 : decode cX7_liesOver 9 = .ok (.if_icmp .ge 33, 3) := by decide +kernel
theorem dX7_liesOver_12 : decode cX7_liesOver 12 = .ok (.iload_n 2, 1) := by decide +kernel
theorem dX7_liesOver_13 : decode cX7_liesOver 13 = .ok (.aload_n 0, 1) := by decide +kernel
theorem dX7_liesOver_14 : decode cX7_liesOver 14 = .ok (.getfield 25, 3) := by decide +kernel
theorem dX7_liesOver_17 : decode cX7_liesOver 17 = .ok (.bipush 24, 2) := by decide +kernel
theorem dX7_liesOver_19 : decode cX7_liesOver 19 = .ok (.iload_n 3, 1) := by decide +kernel
theorem dX7_liesOver_20 : decode cX7_liesOver 20 = .ok (.iadd, 1) := by decide +kernel
theorem dX7_liesOver_21 : decode cX7_liesOver 21 = .ok (.iaload, 1) := by decide +kernel
theorem dX7_liesOver_22 : decode cX7_liesOver 22 = .ok (.iload_n 1, 1) := by decide +kernel
theorem dX7_liesOver_23 : decode cX7_liesOver 23 = .ok (.invokestatic 124, 3) := by decide +kernel
theorem dX7_liesOver_26 : decode cX7_liesOver 26 = .ok (.ifCond .eq 7, 3) := by decide +kernel
theorem dX7_liesOver_29 : decode cX7_liesOver 29 = .ok (.iconst 1, 1) := by decide +kernel
theorem dX7_liesOver_30 : decode cX7_liesOver 30 = .ok (.goto 4, 3) := by decide +kernel
theorem dX7_liesOver_33 : decode cX7_liesOver 33 = .ok (.iconst 0, 1) := by decide +kernel
theorem dX7_liesOver_34 : decode cX7_liesOver 34 = .ok (.iadd, 1) := by decide +kernel
theorem dX7_liesOver_35 : decode cX7_liesOver 35 = .ok (.istore_n 2, 1) := by decide +kernel
theorem dX7_liesOver_36 : decode cX7_liesOver 36 = .ok (.iinc 3 1, 3) := by decide +kernel
theorem dX7_liesOver_39 : decode cX7_liesOver 39 = .ok (.goto (-35), 3) := by decide +kernel
theorem dX7_liesOver_42 : decode cX7_liesOver 42 = .ok (.iload_n 2, 1) := by decide +kernel
theorem dX7_liesOver_43 : decode cX7_liesOver 43 = .ok (.ireturn, 1) := by decide +kernel
theorem dX7_lift_0 : decode cX7_lift 0 = .ok (.aload_n 0, 1) := by decide +kernel
theorem dX7_lift_1 : decode cX7_lift 1 = .ok (.iload_n 1, 1) := by decide +kernel
theorem dX7_lift_2 : decode cX7_lift 2 = .ok (.invokevirtual 172, 3) := by decide +kernel
theorem dX7_lift_5 : decode cX7_lift 5 = .ok (.ifCond .ne 6, 3) := by decide +kernel
theorem dX7_lift_8 : decode cX7_lift 8 = .ok (.bipush (-2), 2) := by decide +kernel
theorem dX7_lift_10 : decode cX7_lift 10 = .ok (.ireturn, 1) := by decide +kernel
theorem dX7_lift_11 : decode cX7_lift 11 = .ok (.aload_n 0, 1) := by decide +kernel
theorem dX7_lift_12 : decode cX7_lift 12 = .ok (.iload_n 1, 1) := by decide +kernel
theorem dX7_lift_13 : decode cX7_lift 13 = .ok (.invokevirtual 204, 3) := by decide +kernel
theorem dX7_lift_16 : decode cX7_lift 16 = .ok (.istore_n 2, 1) := by decide +kernel
theorem dX7_lift_17 : decode cX7_lift 17 = .ok (.aload_n 0, 1) := by decide +kernel
theorem dX7_lift_18 : decode cX7_lift 18 = .ok (.iload_n 1, 1) := by decide +kernel
theorem dX7_lift_19 : decode cX7_lift 19 = .ok (.invokevirtual 169, 3) := by decide +kernel
theorem dX7_lift_22 : decode cX7_lift 22 = .ok (.ifCond .eq 7, 3) := by decide +kernel
theorem dX7_lift_25 : decode cX7_lift 25 = .ok (.iload_n 2, 1) := by decide +kernel
theorem dX7_lift_26 : decode cX7_lift 26 = .ok (.ifCond .ne 6, 3) := by decide +kernel
theorem dX7_lift_29 : decode cX7_lift 29 = .ok (.bipush (-4), 2) := by decide +kernel
theorem dX7_lift_31 : decode cX7_lift 31 = .ok (.ireturn, 1) := by decide +kernel
theorem dX7_lift_32 : decode cX7_lift 32 = .ok (.aload_n 0, 1) := by decide +kernel
theorem dX7_lift_33 : decode cX7_lift 33 = .ok (.invokevirtual 192, 3) := by decide +kernel
theorem dX7_lift_36 : decode cX7_lift 36 = .ok (.iconst 0, 1) := by decide +kernel
theorem dX7_lift_37 : decode cX7_lift 37 = .ok (.istore_n 3, 1) := by decide +kernel
theorem dX7_lift_38 : decode cX7_lift 38 = .ok (.iload_n 3, 1) := by decide +kernel
theorem dX7_lift_39 : decode cX7_lift 39 = .ok (.aload_n 0, 1) := by decide +kernel
theorem dX7_lift_40 : decode cX7_lift 40 = .ok (.getfield 74, 3) := by decide +kernel
theorem dX7_lift_43 : decode cX7_lift 43 = .ok (.if_icmp .ge 26, 3) := by decide +kernel
theorem dX7_lift_46 : decode cX7_lift 46 = .ok (.aload_n 0, 1) := by decide +kernel
theorem dX7_lift_47 : decode cX7_lift 47 = .ok (.getfield 25, 3) := by decide +kernel
theorem dX7_lift_50 : decode cX7_lift 50 = .ok (.bipush 24, 2) := by decide +kernel
theorem dX7_lift_52 : decode cX7_lift 52 = .ok (.iload_n 3, 1) := by decide +kernel
theorem dX7_lift_53 : decode cX7_lift 53 = .ok (.iadd, 1) := by decide +kernel
theorem dX7_lift_54 : decode cX7_lift 54 = .ok (.dup2, 1) := by decide +kernel
theorem dX7_lift_55 : decode cX7_lift 55 = .ok (.iaload, 1) := by decide +kernel
theorem dX7_lift_56 : decode cX7_lift 56 = .ok (.iconst 1, 1) := by decide +kernel
theorem dX7_lift_57 : decode cX7_lift 57 = .ok (.iload_n 1, 1) := by decide +kernel
theorem dX7_lift_58 : decode cX7_lift 58 = .ok (.ishl, 1) := by decide +kernel
theorem dX7_lift_59 : decode cX7_lift 59 = .ok (.iconst (-1), 1) := by decide +kernel
theorem dX7_lift_60 : decode cX7_lift 60 = .ok (.ixor, 1) := by decide +kernel
theorem dX7_lift_61 : decode cX7_lift 61 = .ok (.iand, 1) := by decide +kernel
theorem dX7_lift_62 : decode cX7_lift 62 = .ok (.iastore, 1) := by decide +kernel
theorem dX7_lift_63 : decode cX7_lift 63 = .ok (.iinc 3 1, 3) := by decide +kernel
theorem dX7_lift_66 : decode cX7_lift 66 = .ok (.goto (-28), 3) := by decide +kernel
theorem dX7_lift_69 : decode cX7_lift 69 = .ok (.iload_n 2, 1) := by decide +kernel
theorem dX7_lift_70 : decode cX7_lift 70 = .ok (.ireturn, 1) := by decide +kernel
theorem dX7_knot_0 : decode cX7_knot 0 = .ok (.aload_n 0, 1) := by decide +kernel
theorem dX7_knot_1 : decode cX7_knot 1 = .ok (.iload_n 1, 1) := by decide +kernel
theorem dX7_knot_2 : decode cX7_knot 2 = .ok (.iload_n 2, 1) := by decide +kernel
theorem dX7_knot_3 : decode cX7_knot 3 = .ok (.invokevirtual 201, 3) := by decide +kernel
theorem dX7_knot_6 : decode cX7_knot 6 = .ok (.ifCond .ne 6, 3) := by decide +kernel
theorem dX7_knot_9 : decode cX7_knot 9 = .ok (.bipush (-2), 2) := by decide +kernel
theorem dX7_knot_11 : decode cX7_knot 11 = .ok (.ireturn, 1) := by decide +kernel
theorem dX7_knot_12 : decode cX7_knot 12 = .ok (.iload_n 3, 1) := by decide +kernel
theorem dX7_knot_13 : decode cX7_knot 13 = .ok (.i2l, 1) := by decide +kernel
theorem dX7_knot_14 : decode cX7_knot 14 = .ok (.lconst 0, 1) := by decide +kernel
theorem dX7_knot_15 : decode cX7_knot 15 = .ok (.lconst 1, 1) := by decide +kernel
theorem dX7_knot_16 : decode cX7_knot 16 = .ok (.invokestatic 78, 3) := by decide +kernel
theorem dX7_knot_19 : decode cX7_knot 19 = .ok (.ifCond .ne 6, 3) := by decide +kernel
theorem dX7_knot_22 : decode cX7_knot 22 = .ok (.bipush (-3), 2) := by decide +kernel
theorem dX7_knot_24 : decode cX7_knot 24 = .ok (.ireturn, 1) := by decide +kernel
theorem dX7_knot_25 : decode cX7_knot 25 = .ok (.aload_n 0, 1) := by decide +kernel
theorem dX7_knot_26 : decode cX7_knot 26 = .ok (.iload_n 1, 1) := by decide +kernel
theorem dX7_knot_27 : decode cX7_knot 27 = .ok (.invokevirtual 169, 3) := by decide +kernel
theorem dX7_knot_30 : decode cX7_knot 30 = .ok (.ifCond .eq 11, 3) := by decide +kernel
theorem dX7_knot_33 : decode cX7_knot 33 = .ok (.aload_n 0, 1) := by decide +kernel
theorem dX7_knot_34 : decode cX7_knot 34 = .ok (.iload_n 2, 1) := by decide +kernel
theorem dX7_knot_35 : decode cX7_knot 35 = .ok (.invokevirtual 169, 3) := by decide +kernel
theorem dX7_knot_38 : decode cX7_knot 38 = .ok (.ifCond .ne 6, 3) := by decide +kernel
theorem dX7_knot_41 : decode cX7_knot 41 = .ok (.bipush (-4), 2) := by decide +kernel
theorem dX7_knot_43 : decode cX7_knot 43 = .ok (.ireturn, 1) := by decide +kernel
theorem dX7_knot_44 : decode cX7_knot 44 = .ok (.aload_n 0, 1) := by decide +kernel
theorem dX7_knot_45 : decode cX7_knot 45 = .ok (.invokevirtual 192, 3) := by decide +kernel
theorem dX7_knot_48 : decode cX7_knot 48 = .ok (.aload_n 0, 1) := by decide +kernel
theorem dX7_knot_49 : decode cX7_knot 49 = .ok (.getfield 25, 3) := by decide +kernel
theorem dX7_knot_52 : decode cX7_knot 52 = .ok (.bipush 32, 2) := by decide +kernel
theorem dX7_knot_54 : decode cX7_knot 54 = .ok (.iload_n 1, 1) := by decide +kernel
theorem dX7_knot_55 : decode cX7_knot 55 = .ok (.iadd, 1) := by decide +kernel
theorem dX7_knot_56 : decode cX7_knot 56 = .ok (.iaload, 1) := by decide +kernel
theorem dX7_knot_57 : decode cX7_knot 57 = .ok (.iload_n 2, 1) := by decide +kernel
theorem dX7_knot_58 : decode cX7_knot 58 = .ok (.invokestatic 124, 3) := by decide +kernel
theorem dX7_knot_61 : decode cX7_knot 61 = .ok (.ifCond .eq 7, 3) := by decide +kernel
theorem dX7_knot_64 : decode cX7_knot 64 = .ok (.iconst 1, 1) := by decide +kernel
theorem dX7_knot_65 : decode cX7_knot 65 = .ok (.goto 4, 3) := by decide +kernel
theorem dX7_knot_68 : decode cX7_knot 68 = .ok (.iconst 0, 1) := by decide +kernel
theorem dX7_knot_69 : decode cX7_knot 69 = .ok (.istore 4, 2) := by decide +kernel
theorem dX7_knot_71 : decode cX7_knot 71 = .ok (.aload_n 0, 1) := by decide +kernel
theorem dX7_knot_72 : decode cX7_knot 72 = .ok (.getfield 25, 3) := by decide +kernel
theorem dX7_knot_75 : decode cX7_knot 75 = .ok (.bipush 32, 2) := by decide +kernel
theorem dX7_knot_77 : decode cX7_knot 77 = .ok (.iload_n 1, 1) := by decide +kernel
theorem dX7_knot_78 : decode cX7_knot 78 = .ok (.iadd, 1) := by decide +kernel
theorem dX7_knot_79 : decode cX7_knot 79 = .ok (.aload_n 0, 1) := by decide +kernel
theorem dX7_knot_80 : decode cX7_knot 80 = .ok (.getfield 25, 3) := by decide +kernel
theorem dX7_knot_83 : decode cX7_knot 83 = .ok (.bipush 32, 2) := by decide +kernel
theorem dX7_knot_85 : decode cX7_knot 85 = .ok (.iload_n 1, 1) := by decide +kernel
theorem dX7_knot_86 : decode cX7_knot 86 = .ok (.iadd, 1) := by decide +kernel
theorem dX7_knot_87 : decode cX7_knot 87 = .ok (.iaload, 1) := by decide +kernel
theorem dX7_knot_88 : decode cX7_knot 88 = .ok (.iconst 1, 1) := by decide +kernel
theorem dX7_knot_89 : decode cX7_knot 89 = .ok (.iload_n 2, 1) := by decide +kernel
theorem dX7_knot_90 : decode cX7_knot 90 = .ok (.ishl, 1) := by decide +kernel
theorem dX7_knot_91 : decode cX7_knot 91 = .ok (.iconst (-1), 1) := by decide +kernel
theorem dX7_knot_92 : decode cX7_knot 92 = .ok (.ixor, 1) := by decide +kernel
theorem dX7_knot_93 : decode cX7_knot 93 = .ok (.iand, 1) := by decide +kernel
theorem dX7_knot_94 : decode cX7_knot 94 = .ok (.iload_n 3, 1) := by decide +kernel
theorem dX7_knot_95 : decode cX7_knot 95 = .ok (.iload_n 2, 1) := by decide +kernel
theorem dX7_knot_96 : decode cX7_knot 96 = .ok (.ishl, 1) := by decide +kernel
theorem dX7_knot_97 : decode cX7_knot 97 = .ok (.ior, 1) := by decide +kernel
theorem dX7_knot_98 : decode cX7_knot 98 = .ok (.iastore, 1) := by decide +kernel
theorem dX7_knot_99 : decode cX7_knot 99 = .ok (.aload_n 0, 1) := by decide +kernel
theorem dX7_knot_100 : decode cX7_knot 100 = .ok (.getfield 25, 3) := by decide +kernel
theorem dX7_knot_103 : decode cX7_knot 103 = .ok (.bipush 32, 2) := by decide +kernel
theorem dX7_knot_105 : decode cX7_knot 105 = .ok (.iload_n 2, 1) := by decide +kernel
theorem dX7_knot_106 : decode cX7_knot 106 = .ok (.iadd, 1) := by decide +kernel
theorem dX7_knot_107 : decode cX7_knot 107 = .ok (.aload_n 0, 1) := by decide +kernel
theorem dX7_knot_108 : decode cX7_knot 108 = .ok (.getfield 25, 3) := by decide +kernel
theorem dX7_knot_111 : decode cX7_knot 111 = .ok (.bipush 32, 2) := by decide +kernel
theorem dX7_knot_113 : decode cX7_knot 113 = .ok (.iload_n 2, 1) := by decide +kernel
theorem dX7_knot_114 : decode cX7_knot 114 = .ok (.iadd, 1) := by decide +kernel
theorem dX7_knot_115 : decode cX7_knot 115 = .ok (.iaload, 1) := by decide +kernel
theorem dX7_knot_116 : decode cX7_knot 116 = .ok (.iconst 1, 1) := by decide +kernel
theorem dX7_knot_117 : decode cX7_knot 117 = .ok (.iload_n 1, 1) := by decide +kernel
theorem dX7_knot_118 : decode cX7_knot 118 = .ok (.ishl, 1) := by decide +kernel
theorem dX7_knot_119 : decode cX7_knot 119 = .ok (.iconst (-1), 1) := by decide +kernel
theorem dX7_knot_120 : decode cX7_knot 120 = .ok (.ixor, 1) := by decide +kernel
theorem dX7_knot_121 : decode cX7_knot 121 = .ok (.iand, 1) := by decide +kernel
theorem dX7_knot_122 : decode cX7_knot 122 = .ok (.iload_n 3, 1) := by decide +kernel
theorem dX7_knot_123 : decode cX7_knot 123 = .ok (.iload_n 1, 1) := by decide +kernel
theorem dX7_knot_124 : decode cX7_knot 124 = .ok (.ishl, 1) := by decide +kernel
theorem dX7_knot_125 : decode cX7_knot 125 = .ok (.ior, 1) := by decide +kernel
theorem dX7_knot_126 : decode cX7_knot 126 = .ok (.iastore, 1) := by decide +kernel
theorem dX7_knot_127 : decode cX7_knot 127 = .ok (.iload 4, 2) := by decide +kernel
theorem dX7_knot_129 : decode cX7_knot 129 = .ok (.ireturn, 1) := by decide +kernel
theorem dX7_dye_0 : decode cX7_dye 0 = .ok (.aload_n 0, 1) := by decide +kernel
theorem dX7_dye_1 : decode cX7_dye 1 = .ok (.iload_n 1, 1) := by decide +kernel
theorem dX7_dye_2 : decode cX7_dye 2 = .ok (.invokevirtual 172, 3) := by decide +kernel
theorem dX7_dye_5 : decode cX7_dye 5 = .ok (.ifCond .ne 6, 3) := by decide +kernel
theorem dX7_dye_8 : decode cX7_dye 8 = .ok (.bipush (-2), 2) := by decide +kernel
theorem dX7_dye_10 : decode cX7_dye 10 = .ok (.ireturn, 1) := by decide +kernel
theorem dX7_dye_11 : decode cX7_dye 11 = .ok (.iload_n 2, 1) := by decide +kernel
theorem dX7_dye_12 : decode cX7_dye 12 = .ok (.i2l, 1) := by decide +kernel
theorem dX7_dye_13 : decode cX7_dye 13 = .ok (.lconst 0, 1) := by decide +kernel
theorem dX7_dye_14 : decode cX7_dye 14 = .ok (.ldc2_w 207, 3) := by decide +kernel
theorem dX7_dye_17 : decode cX7_dye 17 = .ok (.invokestatic 78, 3) := by decide +kernel
theorem dX7_dye_20 : decode cX7_dye 20 = .ok (.ifCond .ne 6, 3) := by decide +kernel
theorem dX7_dye_23 : decode cX7_dye 23 = .ok (.bipush (-3), 2) := by decide +kernel
theorem dX7_dye_25 : decode cX7_dye 25 = .ok (.ireturn, 1) := by decide +kernel
theorem dX7_dye_26 : decode cX7_dye 26 = .ok (.aload_n 0, 1) := by decide +kernel
theorem dX7_dye_27 : decode cX7_dye 27 = .ok (.iload_n 1, 1) := by decide +kernel
theorem dX7_dye_28 : decode cX7_dye 28 = .ok (.invokevirtual 169, 3) := by decide +kernel
theorem dX7_dye_31 : decode cX7_dye 31 = .ok (.ifCond .ne 6, 3) := by decide +kernel
theorem dX7_dye_34 : decode cX7_dye 34 = .ok (.bipush (-4), 2) := by decide +kernel
theorem dX7_dye_36 : decode cX7_dye 36 = .ok (.ireturn, 1) := by decide +kernel
theorem dX7_dye_37 : decode cX7_dye 37 = .ok (.aload_n 0, 1) := by decide +kernel
theorem dX7_dye_38 : decode cX7_dye 38 = .ok (.invokevirtual 192, 3) := by decide +kernel
theorem dX7_dye_41 : decode cX7_dye 41 = .ok (.aload_n 0, 1) := by decide +kernel
theorem dX7_dye_42 : decode cX7_dye 42 = .ok (.getfield 25, 3) := by decide +kernel
theorem dX7_dye_45 : decode cX7_dye 45 = .ok (.iconst 0, 1) := by decide +kernel
theorem dX7_dye_46 : decode cX7_dye 46 = .ok (.iload_n 1, 1) := by decide +kernel
theorem dX7_dye_47 : decode cX7_dye 47 = .ok (.iadd, 1) := by decide +kernel
theorem dX7_dye_48 : decode cX7_dye 48 = .ok (.iaload, 1) := by decide +kernel
theorem dX7_dye_49 : decode cX7_dye 49 = .ok (.istore_n 3, 1) := by decide +kernel
theorem dX7_dye_50 : decode cX7_dye 50 = .ok (.aload_n 0, 1) := by decide +kernel
theorem dX7_dye_51 : decode cX7_dye 51 = .ok (.getfield 25, 3) := by decide +kernel
theorem dX7_dye_54 : decode cX7_dye 54 = .ok (.iconst 0, 1) := by decide +kernel
theorem dX7_dye_55 : decode cX7_dye 55 = .ok (.iload_n 1, 1) := by decide +kernel
theorem dX7_dye_56 : decode cX7_dye 56 = .ok (.iadd, 1) := by decide +kernel
theorem dX7_dye_57 : decode cX7_dye 57 = .ok (.iload_n 2, 1) := by decide +kernel
theorem dX7_dye_58 : decode cX7_dye 58 = .ok (.iastore, 1) := by decide +kernel
theorem dX7_dye_59 : decode cX7_dye 59 = .ok (.iload_n 3, 1) := by decide +kernel
theorem dX7_dye_60 : decode cX7_dye 60 = .ok (.ireturn, 1) := by decide +kernel
theorem dX7_oneDay_0 : decode cX7_oneDay 0 = .ok (.iconst 0, 1) := by decide +kernel
theorem dX7_oneDay_1 : decode cX7_oneDay 1 = .ok (.istore_n 1, 1) := by decide +kernel
theorem dX7_oneDay_2 : decode cX7_oneDay 2 = .ok (.iconst 0, 1) := by decide +kernel
theorem dX7_oneDay_3 : decode cX7_oneDay 3 = .ok (.istore_n 2, 1) := by decide +kernel
theorem dX7_oneDay_4 : decode cX7_oneDay 4 = .ok (.iload_n 2, 1) := by decide +kernel
theorem dX7_oneDay_5 : decode cX7_oneDay 5 = .ok (.aload_n 0, 1) := by decide +kernel
theorem dX7_oneDay_6 : decode cX7_oneDay 6 = .ok (.getfield 156, 3) := by decide +kernel
theorem dX7_oneDay_9 : decode cX7_oneDay 9 = .ok (.if_icmp .ge 42, 3) := by decide +kernel
theorem dX7_oneDay_12 : decode cX7_oneDay 12 = .ok (.iload_n 1, 1) := by decide +kernel
theorem dX7_oneDay_13 : decode cX7_oneDay 13 = .ok (.aload_n 0, 1) := by decide +kernel
theorem dX7_oneDay_14 : decode cX7_oneDay 14 = .ok (.getfield 52, 3) := by decide +kernel
theorem dX7_oneDay_17 : decode cX7_oneDay 17 = .ok (.iload_n 2, 1) := by decide +kernel
theorem dX7_oneDay_18 : decode cX7_oneDay 18 = .ok (.iaload, 1) := by decide +kernel
theorem dX7_oneDay_19 : decode cX7_oneDay 19 = .ok (.aload_n 0, 1) := by decide +kernel
theorem dX7_oneDay_20 : decode cX7_oneDay 20 = .ok (.getfield 25, 3) := by decide +kernel
theorem dX7_oneDay_23 : decode cX7_oneDay 23 = .ok (.bipush 40, 2) := by decide +kernel
theorem dX7_oneDay_25 : decode cX7_oneDay 25 = .ok (.iaload, 1) := by decide +kernel
theorem dX7_oneDay_26 : decode cX7_oneDay 26 = .ok (.if_icmp .ne 16, 3) := by decide +kernel
theorem dX7_oneDay_29 : decode cX7_oneDay 29 = .ok (.aload_n 0, 1) := by decide +kernel
theorem dX7_oneDay_30 : decode cX7_oneDay 30 = .ok (.aload_n 0, 1) := by decide +kernel
theorem dX7_oneDay_31 : decode cX7_oneDay 31 = .ok (.getfield 16, 3) := by decide +kernel
theorem dX7_oneDay_34 : decode cX7_oneDay 34 = .ok (.iload_n 2, 1) := by decide +kernel
theorem dX7_oneDay_35 : decode cX7_oneDay 35 = .ok (.iaload, 1) := by decide +kernel
theorem dX7_oneDay_36 : decode cX7_oneDay 36 = .ok (.invokevirtual 195, 3) := by decide +kernel
theorem dX7_oneDay_39 : decode cX7_oneDay 39 = .ok (.goto 4, 3) := by decide +kernel
theorem dX7_oneDay_42 : decode cX7_oneDay 42 = .ok (.iconst 0, 1) := by decide +kernel
theorem dX7_oneDay_43 : decode cX7_oneDay 43 = .ok (.ior, 1) := by decide +kernel
theorem dX7_oneDay_44 : decode cX7_oneDay 44 = .ok (.istore_n 1, 1) := by decide +kernel
theorem dX7_oneDay_45 : decode cX7_oneDay 45 = .ok (.iinc 2 1, 3) := by decide +kernel
theorem dX7_oneDay_48 : decode cX7_oneDay 48 = .ok (.goto (-44), 3) := by decide +kernel
theorem dX7_oneDay_51 : decode cX7_oneDay 51 = .ok (.aload_n 0, 1) := by decide +kernel
theorem dX7_oneDay_52 : decode cX7_oneDay 52 = .ok (.getfield 25, 3) := by decide +kernel
theorem dX7_oneDay_55 : decode cX7_oneDay 55 = .ok (.bipush 40, 2) := by decide +kernel
theorem dX7_oneDay_57 : decode cX7_oneDay 57 = .ok (.dup2, 1) := by decide +kernel
theorem dX7_oneDay_58 : decode cX7_oneDay 58 = .ok (.iaload, 1) := by decide +kernel
theorem dX7_oneDay_59 : decode cX7_oneDay 59 = .ok (.iconst 1, 1) := by decide +kernel
theorem dX7_oneDay_60 : decode cX7_oneDay 60 = .ok (.iadd, 1) := by decide +kernel
theorem dX7_oneDay_61 : decode cX7_oneDay 61 = .ok (.iastore, 1) := by decide +kernel
theorem dX7_oneDay_62 : decode cX7_oneDay 62 = .ok (.iconst 0, 1) := by decide +kernel
theorem dX7_oneDay_63 : decode cX7_oneDay 63 = .ok (.istore_n 2, 1) := by decide +kernel
theorem dX7_oneDay_64 : decode cX7_oneDay 64 = .ok (.iload_n 2, 1) := by decide +kernel
theorem dX7_oneDay_65 : decode cX7_oneDay 65 = .ok (.aload_n 0, 1) := by decide +kernel
theorem dX7_oneDay_66 : decode cX7_oneDay 66 = .ok (.getfield 74, 3) := by decide +kernel
theorem dX7_oneDay_69 : decode cX7_oneDay 69 = .ok (.if_icmp .ge 75, 3) := by decide +kernel
theorem dX7_oneDay_72 : decode cX7_oneDay 72 = .ok (.aload_n 0, 1) := by decide +kernel
theorem dX7_oneDay_73 : decode cX7_oneDay 73 = .ok (.iload_n 2, 1) := by decide +kernel
theorem dX7_oneDay_74 : decode cX7_oneDay 74 = .ok (.invokevirtual 169, 3) := by decide +kernel
theorem dX7_oneDay_77 : decode cX7_oneDay 77 = .ok (.ifCond .eq 33, 3) := by decide +kernel
theorem dX7_oneDay_80 : decode cX7_oneDay 80 = .ok (.aload_n 0, 1) := by decide +kernel
theorem dX7_oneDay_81 : decode cX7_oneDay 81 = .ok (.getfield 7, 3) := by decide +kernel
theorem dX7_oneDay_84 : decode cX7_oneDay 84 = .ok (.iload_n 2, 1) := by decide +kernel
theorem dX7_oneDay_85 : decode cX7_oneDay 85 = .ok (.iaload, 1) := by decide +kernel
theorem dX7_oneDay_86 : decode cX7_oneDay 86 = .ok (.iconst 3, 1) := by decide +kernel
theorem dX7_oneDay_87 : decode cX7_oneDay 87 = .ok (.if_icmp .eq 23, 3) := by decide +kernel
theorem dX7_oneDay_90 : decode cX7_oneDay 90 = .ok (.aload_n 0, 1) := by decide +kernel
theorem dX7_oneDay_91 : decode cX7_oneDay 91 = .ok (.getfield 13, 3) := by decide +kernel
theorem dX7_oneDay_94 : decode cX7_oneDay 94 = .ok (.iload_n 2, 1) := by decide +kernel
theorem dX7_oneDay_95 : decode cX7_oneDay 95 = .ok (.iaload, 1) := by decide +kernel
theorem dX7_oneDay_96 : decode cX7_oneDay 96 = .ok (.aload_n 0, 1) := by decide +kernel
theorem dX7_oneDay_97 : decode cX7_oneDay 97 = .ok (.getfield 25, 3) := by decide +kernel
theorem dX7_oneDay_100 : decode cX7_oneDay 100 = .ok (.bipush 40, 2) := by decide +kernel
theorem dX7_oneDay_102 : decode cX7_oneDay 102 = .ok (.iaload, 1) := by decide +kernel
theorem dX7_oneDay_103 : decode cX7_oneDay 103 = .ok (.if_icmp .gt 7, 3) := by decide +kernel
theorem dX7_oneDay_106 : decode cX7_oneDay 106 = .ok (.iconst 1, 1) := by decide +kernel
theorem dX7_oneDay_107 : decode cX7_oneDay 107 = .ok (.goto 4, 3) := by decide +kernel
theorem dX7_oneDay_110 : decode cX7_oneDay 110 = .ok (.iconst 0, 1) := by decide +kernel
theorem dX7_oneDay_111 : decode cX7_oneDay 111 = .ok (.istore_n 3, 1) := by decide +kernel
theorem dX7_oneDay_112 : decode cX7_oneDay 112 = .ok (.aload_n 0, 1) := by decide +kernel
theorem dX7_oneDay_113 : decode cX7_oneDay 113 = .ok (.getfield 25, 3) := by decide +kernel
theorem dX7_oneDay_116 : decode cX7_oneDay 116 = .ok (.bipush 8, 2) := by decide +kernel
theorem dX7_oneDay_118 : decode cX7_oneDay 118 = .ok (.iload_n 2, 1) := by decide +kernel
theorem dX7_oneDay_119 : decode cX7_oneDay 119 = .ok (.iadd, 1) := by decide +kernel
theorem dX7_oneDay_120 : decode cX7_oneDay 120 = .ok (.iload_n 3, 1) := by decide +kernel
theorem dX7_oneDay_121 : decode cX7_oneDay 121 = .ok (.ifCond .eq 7, 3) := by decide +kernel
theorem dX7_oneDay_124 : decode cX7_oneDay 124 = .ok (.iconst 2, 1) := by decide +kernel
theorem dX7_oneDay_125 : decode cX7_oneDay 125 = .ok (.goto 12, 3) := by decide +kernel
theorem dX7_oneDay_128 : decode cX7_oneDay 128 = .ok (.aload_n 0, 1) := by decide +kernel
theorem dX7_oneDay_129 : decode cX7_oneDay 129 = .ok (.getfield 25, 3) := by decide +kernel
theorem dX7_oneDay_132 : decode cX7_oneDay 132 = .ok (.bipush 8, 2) := by decide +kernel
theorem dX7_oneDay_134 : decode cX7_oneDay 134 = .ok (.iload_n 2, 1) := by decide +kernel
theorem dX7_oneDay_135 : decode cX7_oneDay 135 = .ok (.iadd, 1) := by decide +kernel
theorem dX7_oneDay_136 : decode cX7_oneDay 136 = .ok (.iaload, 1) := by decide +kernel
theorem dX7_oneDay_137 : decode cX7_oneDay 137 = .ok (.iastore, 1) := by decide +kernel
theorem dX7_oneDay_138 : decode cX7_oneDay 138 = .ok (.iinc 2 1, 3) := by decide +kernel
theorem dX7_oneDay_141 : decode cX7_oneDay 141 = .ok (.goto (-77), 3) := by decide +kernel
theorem dX7_oneDay_144 : decode cX7_oneDay 144 = .ok (.iload_n 1, 1) := by decide +kernel
theorem dX7_oneDay_145 : decode cX7_oneDay 145 = .ok (.ireturn, 1) := by decide +kernel
theorem dX7_asTold_0 : decode cX7_asTold 0 = .ok (.iconst 0, 1) := by decide +kernel
theorem dX7_asTold_1 : decode cX7_asTold 1 = .ok (.istore_n 1, 1) := by decide +kernel
theorem dX7_asTold_2 : decode cX7_asTold 2 = .ok (.iload_n 1, 1) := by decide +kernel
theorem dX7_asTold_3 : decode cX7_asTold 3 = .ok (.bipush 6, 2) := by decide +kernel
theorem dX7_asTold_5 : decode cX7_asTold 5 = .ok (.if_icmp .ge 21, 3) := by decide +kernel
theorem dX7_asTold_8 : decode cX7_asTold 8 = .ok (.aload_n 0, 1) := by decide +kernel
theorem dX7_asTold_9 : decode cX7_asTold 9 = .ok (.getfield 52, 3) := by decide +kernel
theorem dX7_asTold_12 : decode cX7_asTold 12 = .ok (.iload_n 1, 1) := by decide +kernel
theorem dX7_asTold_13 : decode cX7_asTold 13 = .ok (.aload_n 0, 1) := by decide +kernel
theorem dX7_asTold_14 : decode cX7_asTold 14 = .ok (.getfield 19, 3) := by decide +kernel
theorem dX7_asTold_17 : decode cX7_asTold 17 = .ok (.iload_n 1, 1) := by decide +kernel
theorem dX7_asTold_18 : decode cX7_asTold 18 = .ok (.iaload, 1) := by decide +kernel
theorem dX7_asTold_19 : decode cX7_asTold 19 = .ok (.iastore, 1) := by decide +kernel
theorem dX7_asTold_20 : decode cX7_asTold 20 = .ok (.iinc 1 1, 3) := by decide +kernel
theorem dX7_asTold_23 : decode cX7_asTold 23 = .ok (.goto (-21), 3) := by decide +kernel
theorem dX7_asTold_26 : decode cX7_asTold 26 = .ok (.return_, 1) := by decide +kernel
theorem dX7_go_0 : decode cX7_go 0 = .ok (.iload_n 1, 1) := by decide +kernel
theorem dX7_go_1 : decode cX7_go 1 = .ok (.i2l, 1) := by decide +kernel
theorem dX7_go_2 : decode cX7_go 2 = .ok (.lconst 1, 1) := by decide +kernel
theorem dX7_go_3 : decode cX7_go 3 = .ok (.ldc2_w 209, 3) := by decide +kernel
theorem dX7_go_6 : decode cX7_go 6 = .ok (.invokestatic 78, 3) := by decide +kernel
theorem dX7_go_9 : decode cX7_go 9 = .ok (.ifCond .ne 6, 3) := by decide +kernel
theorem dX7_go_12 : decode cX7_go 12 = .ok (.bipush (-3), 2) := by decide +kernel
theorem dX7_go_14 : decode cX7_go 14 = .ok (.ireturn, 1) := by decide +kernel
theorem dX7_go_15 : decode cX7_go 15 = .ok (.aload_n 0, 1) := by decide +kernel
theorem dX7_go_16 : decode cX7_go 16 = .ok (.getfield 25, 3) := by decide +kernel
theorem dX7_go_19 : decode cX7_go 19 = .ok (.bipush 40, 2) := by decide +kernel
theorem dX7_go_21 : decode cX7_go 21 = .ok (.iaload, 1) := by decide +kernel
theorem dX7_go_22 : decode cX7_go 22 = .ok (.iload_n 1, 1) := by decide +kernel
theorem dX7_go_23 : decode cX7_go 23 = .ok (.iadd, 1) := by decide +kernel
theorem dX7_go_24 : decode cX7_go 24 = .ok (.sipush 999, 3) := by decide +kernel
theorem dX7_go_27 : decode cX7_go 27 = .ok (.if_icmp .le 6, 3) := by decide +kernel
theorem dX7_go_30 : decode cX7_go 30 = .ok (.bipush (-5), 2) := by decide +kernel
theorem dX7_go_32 : decode cX7_go 32 = .ok (.ireturn, 1) := by decide +kernel
theorem dX7_go_33 : decode cX7_go 33 = .ok (.aload_n 0, 1) := by decide +kernel
theorem dX7_go_34 : decode cX7_go 34 = .ok (.invokevirtual 192, 3) := by decide +kernel
theorem dX7_go_37 : decode cX7_go 37 = .ok (.aload_n 0, 1) := by decide +kernel
theorem dX7_go_38 : decode cX7_go 38 = .ok (.invokevirtual 211, 3) := by decide +kernel
theorem dX7_go_41 : decode cX7_go 41 = .ok (.aload_n 0, 1) := by decide +kernel
theorem dX7_go_42 : decode cX7_go 42 = .ok (.getfield 25, 3) := by decide +kernel
theorem dX7_go_45 : decode cX7_go 45 = .ok (.bipush 41, 2) := by decide +kernel
theorem dX7_go_47 : decode cX7_go 47 = .ok (.iaload, 1) := by decide +kernel
theorem dX7_go_48 : decode cX7_go 48 = .ok (.istore_n 2, 1) := by decide +kernel
theorem dX7_go_49 : decode cX7_go 49 = .ok (.iconst 0, 1) := by decide +kernel
theorem dX7_go_50 : decode cX7_go 50 = .ok (.istore_n 3, 1) := by decide +kernel
theorem dX7_go_51 : decode cX7_go 51 = .ok (.iload_n 3, 1) := by decide +kernel
theorem dX7_go_52 : decode cX7_go 52 = .ok (.iload_n 1, 1) := by decide +kernel
theorem dX7_go_53 : decode cX7_go 53 = .ok (.if_icmp .ge 14, 3) := by decide +kernel
theorem dX7_go_56 : decode cX7_go 56 = .ok (.aload_n 0, 1) := by decide +kernel
theorem dX7_go_57 : decode cX7_go 57 = .ok (.invokevirtual 214, 3) := by decide +kernel
theorem dX7_go_60 : decode cX7_go 60 = .ok (.pop, 1) := by decide +kernel
theorem dX7_go_61 : decode cX7_go 61 = .ok (.iinc 3 1, 3) := by decide +kernel
theorem dX7_go_64 : decode cX7_go 64 = .ok (.goto (-13), 3) := by decide +kernel
theorem dX7_go_67 : decode cX7_go 67 = .ok (.aload_n 0, 1) := by decide +kernel
theorem dX7_go_68 : decode cX7_go 68 = .ok (.getfield 25, 3) := by decide +kernel
theorem dX7_go_71 : decode cX7_go 71 = .ok (.bipush 41, 2) := by decide +kernel
theorem dX7_go_73 : decode cX7_go 73 = .ok (.iaload, 1) := by decide +kernel
theorem dX7_go_74 : decode cX7_go 74 = .ok (.iload_n 2, 1) := by decide +kernel
theorem dX7_go_75 : decode cX7_go 75 = .ok (.isub, 1) := by decide +kernel
theorem dX7_go_76 : decode cX7_go 76 = .ok (.ireturn, 1) := by decide +kernel
theorem dX7_undo_0 : decode cX7_undo 0 = .ok (.aload_n 0, 1) := by decide +kernel
theorem dX7_undo_1 : decode cX7_undo 1 = .ok (.getfield 166, 3) := by decide +kernel
theorem dX7_undo_4 : decode cX7_undo 4 = .ok (.ifCond .ne 6, 3) := by decide +kernel
theorem dX7_undo_7 : decode cX7_undo 7 = .ok (.bipush (-4), 2) := by decide +kernel
theorem dX7_undo_9 : decode cX7_undo 9 = .ok (.ireturn, 1) := by decide +kernel
theorem dX7_undo_10 : decode cX7_undo 10 = .ok (.aload_n 0, 1) := by decide +kernel
theorem dX7_undo_11 : decode cX7_undo 11 = .ok (.dup, 1) := by decide +kernel
theorem dX7_undo_12 : decode cX7_undo 12 = .ok (.getfield 166, 3) := by decide +kernel
theorem dX7_undo_15 : decode cX7_undo 15 = .ok (.iconst 1, 1) := by decide +kernel
theorem dX7_undo_16 : decode cX7_undo 16 = .ok (.isub, 1) := by decide +kernel
theorem dX7_undo_17 : decode cX7_undo 17 = .ok (.putfield 166, 3) := by decide +kernel
theorem dX7_undo_20 : decode cX7_undo 20 = .ok (.iconst 0, 1) := by decide +kernel
theorem dX7_undo_21 : decode cX7_undo 21 = .ok (.istore_n 1, 1) := by decide +kernel
theorem dX7_undo_22 : decode cX7_undo 22 = .ok (.iload_n 1, 1) := by decide +kernel
theorem dX7_undo_23 : decode cX7_undo 23 = .ok (.bipush 42, 2) := by decide +kernel
theorem dX7_undo_25 : decode cX7_undo 25 = .ok (.if_icmp .ge 29, 3) := by decide +kernel
theorem dX7_undo_28 : decode cX7_undo 28 = .ok (.aload_n 0, 1) := by decide +kernel
theorem dX7_undo_29 : decode cX7_undo 29 = .ok (.getfield 25, 3) := by decide +kernel
theorem dX7_undo_32 : decode cX7_undo 32 = .ok (.iload_n 1, 1) := by decide +kernel
theorem dX7_undo_33 : decode cX7_undo 33 = .ok (.aload_n 0, 1) := by decide +kernel
theorem dX7_undo_34 : decode cX7_undo 34 = .ok (.getfield 46, 3) := by decide +kernel
theorem dX7_undo_37 : decode cX7_undo 37 = .ok (.bipush 42, 2) := by decide +kernel
theorem dX7_undo_39 : decode cX7_undo 39 = .ok (.aload_n 0, 1) := by decide +kernel
theorem dX7_undo_40 : decode cX7_undo 40 = .ok (.getfield 166, 3) := by decide +kernel
theorem dX7_undo_43 : decode cX7_undo 43 = .ok (.imul, 1) := by decide +kernel
theorem dX7_undo_44 : decode cX7_undo 44 = .ok (.iload_n 1, 1) := by decide +kernel
theorem dX7_undo_45 : decode cX7_undo 45 = .ok (.iadd, 1) := by decide +kernel
theorem dX7_undo_46 : decode cX7_undo 46 = .ok (.iaload, 1) := by decide +kernel
theorem dX7_undo_47 : decode cX7_undo 47 = .ok (.iastore, 1) := by decide +kernel
theorem dX7_undo_48 : decode cX7_undo 48 = .ok (.iinc 1 1, 3) := by decide +kernel
theorem dX7_undo_51 : decode cX7_undo 51 = .ok (.goto (-29), 3) := by decide +kernel
theorem dX7_undo_54 : decode cX7_undo 54 = .ok (.aload_n 0, 1) := by decide +kernel
theorem dX7_undo_55 : decode cX7_undo 55 = .ok (.getfield 166, 3) := by decide +kernel
theorem dX7_undo_58 : decode cX7_undo 58 = .ok (.ireturn, 1) := by decide +kernel
theorem dX7_keep_0 : decode cX7_keep 0 = .ok (.iload_n 1, 1) := by decide +kernel
theorem dX7_keep_1 : decode cX7_keep 1 = .ok (.i2l, 1) := by decide +kernel
theorem dX7_keep_2 : decode cX7_keep 2 = .ok (.lconst 0, 1) := by decide +kernel
theorem dX7_keep_3 : decode cX7_keep 3 = .ok (.lconst 1, 1) := by decide +kernel
theorem dX7_keep_4 : decode cX7_keep 4 = .ok (.invokestatic 78, 3) := by decide +kernel
theorem dX7_keep_7 : decode cX7_keep 7 = .ok (.ifCond .ne 6, 3) := by decide +kernel
theorem dX7_keep_10 : decode cX7_keep 10 = .ok (.bipush (-2), 2) := by decide +kernel
theorem dX7_keep_12 : decode cX7_keep 12 = .ok (.ireturn, 1) := by decide +kernel
theorem dX7_keep_13 : decode cX7_keep 13 = .ok (.iconst 0, 1) := by decide +kernel
theorem dX7_keep_14 : decode cX7_keep 14 = .ok (.istore_n 2, 1) := by decide +kernel
theorem dX7_keep_15 : decode cX7_keep 15 = .ok (.iload_n 2, 1) := by decide +kernel
theorem dX7_keep_16 : decode cX7_keep 16 = .ok (.bipush 42, 2) := by decide +kernel
theorem dX7_keep_18 : decode cX7_keep 18 = .ok (.if_icmp .ge 26, 3) := by decide +kernel
theorem dX7_keep_21 : decode cX7_keep 21 = .ok (.aload_n 0, 1) := by decide +kernel
theorem dX7_keep_22 : decode cX7_keep 22 = .ok (.getfield 59, 3) := by decide +kernel
theorem dX7_keep_25 : decode cX7_keep 25 = .ok (.bipush 42, 2) := by decide +kernel
theorem dX7_keep_27 : decode cX7_keep 27 = .ok (.iload_n 1, 1) := by decide +kernel
theorem dX7_keep_28 : decode cX7_keep 28 = .ok (.imul, 1) := by decide +kernel
theorem dX7_keep_29 : decode cX7_keep 29 = .ok (.iload_n 2, 1) := by decide +kernel
theorem dX7_keep_30 : decode cX7_keep 30 = .ok (.iadd, 1) := by decide +kernel
theorem dX7_keep_31 : decode cX7_keep 31 = .ok (.aload_n 0, 1) := by decide +kernel
theorem dX7_keep_32 : decode cX7_keep 32 = .ok (.getfield 25, 3) := by decide +kernel
theorem dX7_keep_35 : decode cX7_keep 35 = .ok (.iload_n 2, 1) := by decide +kernel
theorem dX7_keep_36 : decode cX7_keep 36 = .ok (.iaload, 1) := by decide +kernel
theorem dX7_keep_37 : decode cX7_keep 37 = .ok (.iastore, 1) := by decide +kernel
theorem dX7_keep_38 : decode cX7_keep 38 = .ok (.iinc 2 1, 3) := by decide +kernel
theorem dX7_keep_41 : decode cX7_keep 41 = .ok (.goto (-26), 3) := by decide +kernel
theorem dX7_keep_44 : decode cX7_keep 44 = .ok (.aload_n 0, 1) := by decide +kernel
theorem dX7_keep_45 : decode cX7_keep 45 = .ok (.getfield 55, 3) := by decide +kernel
theorem dX7_keep_48 : decode cX7_keep 48 = .ok (.iload_n 1, 1) := by decide +kernel
theorem dX7_keep_49 : decode cX7_keep 49 = .ok (.iconst 1, 1) := by decide +kernel
theorem dX7_keep_50 : decode cX7_keep 50 = .ok (.bastore, 1) := by decide +kernel
theorem dX7_keep_51 : decode cX7_keep 51 = .ok (.aload_n 0, 1) := by decide +kernel
theorem dX7_keep_52 : decode cX7_keep 52 = .ok (.getfield 25, 3) := by decide +kernel
theorem dX7_keep_55 : decode cX7_keep 55 = .ok (.bipush 40, 2) := by decide +kernel
theorem dX7_keep_57 : decode cX7_keep 57 = .ok (.iaload, 1) := by decide +kernel
theorem dX7_keep_58 : decode cX7_keep 58 = .ok (.ireturn, 1) := by decide +kernel
theorem dX7_back_0 : decode cX7_back 0 = .ok (.iload_n 1, 1) := by decide +kernel
theorem dX7_back_1 : decode cX7_back 1 = .ok (.i2l, 1) := by decide +kernel
theorem dX7_back_2 : decode cX7_back 2 = .ok (.lconst 0, 1) := by decide +kernel
theorem dX7_back_3 : decode cX7_back 3 = .ok (.lconst 1, 1) := by decide +kernel
theorem dX7_back_4 : decode cX7_back 4 = .ok (.invokestatic 78, 3) := by decide +kernel
theorem dX7_back_7 : decode cX7_back 7 = .ok (.ifCond .ne 6, 3) := by decide +kernel
theorem dX7_back_10 : decode cX7_back 10 = .ok (.bipush (-2), 2) := by decide +kernel
theorem dX7_back_12 : decode cX7_back 12 = .ok (.ireturn, 1) := by decide +kernel
theorem dX7_back_13 : decode cX7_back 13 = .ok (.aload_n 0, 1) := by decide +kernel
theorem dX7_back_14 : decode cX7_back 14 = .ok (.getfield 55, 3) := by decide +kernel
theorem dX7_back_17 : decode cX7_back 17 = .ok (.iload_n 1, 1) := by decide +kernel
theorem dX7_back_18 : decode cX7_back 18 = .ok (.baload, 1) := by decide +kernel
theorem dX7_back_19 : decode cX7_back 19 = .ok (.ifCond .ne 6, 3) := by decide +kernel
theorem dX7_back_22 : decode cX7_back 22 = .ok (.bipush (-4), 2) := by decide +kernel
theorem dX7_back_24 : decode cX7_back 24 = .ok (.ireturn, 1) := by decide +kernel
theorem dX7_back_25 : decode cX7_back 25 = .ok (.iconst 0, 1) := by decide +kernel
theorem dX7_back_26 : decode cX7_back 26 = .ok (.istore_n 2, 1) := by decide +kernel
theorem dX7_back_27 : decode cX7_back 27 = .ok (.iload_n 2, 1) := by decide +kernel
theorem dX7_back_28 : decode cX7_back 28 = .ok (.bipush 42, 2) := by decide +kernel
theorem dX7_back_30 : decode cX7_back 30 = .ok (.if_icmp .ge 26, 3) := by decide +kernel
theorem dX7_back_33 : decode cX7_back 33 = .ok (.aload_n 0, 1) := by decide +kernel
theorem dX7_back_34 : decode cX7_back 34 = .ok (.getfield 25, 3) := by decide +kernel
theorem dX7_back_37 : decode cX7_back 37 = .ok (.iload_n 2, 1) := by decide +kernel
theorem dX7_back_38 : decode cX7_back 38 = .ok (.aload_n 0, 1) := by decide +kernel
theorem dX7_back_39 : decode cX7_back 39 = .ok (.getfield 59, 3) := by decide +kernel
theorem dX7_back_42 : decode cX7_back 42 = .ok (.bipush 42, 2) := by decide +kernel
theorem dX7_back_44 : decode cX7_back 44 = .ok (.iload_n 1, 1) := by decide +kernel
theorem dX7_back_45 : decode cX7_back 45 = .ok (.imul, 1) := by decide +kernel
theorem dX7_back_46 : decode cX7_back 46 = .ok (.iload_n 2, 1) := by decide +kernel
theorem dX7_back_47 : decode cX7_back 47 = .ok (.iadd, 1) := by decide +kernel
theorem dX7_back_48 : decode cX7_back 48 = .ok (.iaload, 1) := by decide +kernel
theorem dX7_back_49 : decode cX7_back 49 = .ok (.iastore, 1) := by decide +kernel
theorem dX7_back_50 : decode cX7_back 50 = .ok (.iinc 2 1, 3) := by decide +kernel
theorem dX7_back_53 : decode cX7_back 53 = .ok (.goto (-26), 3) := by decide +kernel
theorem dX7_back_56 : decode cX7_back 56 = .ok (.aload_n 0, 1) := by decide +kernel
theorem dX7_back_57 : decode cX7_back 57 = .ok (.iconst 0, 1) := by decide +kernel
theorem dX7_back_58 : decode cX7_back 58 = .ok (.putfield 166, 3) := by decide +kernel
theorem dX7_back_61 : decode cX7_back 61 = .ok (.aload_n 0, 1) := by decide +kernel
theorem dX7_back_62 : decode cX7_back 62 = .ok (.getfield 25, 3) := by decide +kernel
theorem dX7_back_65 : decode cX7_back 65 = .ok (.bipush 40, 2) := by decide +kernel
theorem dX7_back_67 : decode cX7_back 67 = .ok (.iaload, 1) := by decide +kernel
theorem dX7_back_68 : decode cX7_back 68 = .ok (.ireturn, 1) := by decide +kernel
theorem dX7_takes_0 : decode cX7_takes 0 = .ok (.aload_n 0, 1) := by decide +kernel
theorem dX7_takes_1 : decode cX7_takes 1 = .ok (.iload_n 1, 1) := by decide +kernel
theorem dX7_takes_2 : decode cX7_takes 2 = .ok (.invokevirtual 172, 3) := by decide +kernel
theorem dX7_takes_5 : decode cX7_takes 5 = .ok (.ifCond .eq 11, 3) := by decide +kernel
theorem dX7_takes_8 : decode cX7_takes 8 = .ok (.aload_n 0, 1) := by decide +kernel
theorem dX7_takes_9 : decode cX7_takes 9 = .ok (.iload_n 1, 1) := by decide +kernel
theorem dX7_takes_10 : decode cX7_takes 10 = .ok (.invokevirtual 186, 3) := by decide +kernel
theorem dX7_takes_13 : decode cX7_takes 13 = .ok (.goto 5, 3) := by decide +kernel
theorem dX7_takes_16 : decode cX7_takes 16 = .ok (.bipush (-2), 2) := by decide +kernel
theorem dX7_takes_18 : decode cX7_takes 18 = .ok (.ireturn, 1) := by decide +kernel
theorem dX7_loss_0 : decode cX7_loss 0 = .ok (.aload_n 0, 1) := by decide +kernel
theorem dX7_loss_1 : decode cX7_loss 1 = .ok (.iload_n 1, 1) := by decide +kernel
theorem dX7_loss_2 : decode cX7_loss 2 = .ok (.invokevirtual 172, 3) := by decide +kernel
theorem dX7_loss_5 : decode cX7_loss 5 = .ok (.ifCond .eq 15, 3) := by decide +kernel
theorem dX7_loss_8 : decode cX7_loss 8 = .ok (.aload_n 0, 1) := by decide +kernel
theorem dX7_loss_9 : decode cX7_loss 9 = .ok (.aload_n 0, 1) := by decide +kernel
theorem dX7_loss_10 : decode cX7_loss 10 = .ok (.iload_n 1, 1) := by decide +kernel
theorem dX7_loss_11 : decode cX7_loss 11 = .ok (.invokevirtual 186, 3) := by decide +kernel
theorem dX7_loss_14 : decode cX7_loss 14 = .ok (.invokevirtual 189, 3) := by decide +kernel
theorem dX7_loss_17 : decode cX7_loss 17 = .ok (.goto 5, 3) := by decide +kernel
theorem dX7_loss_20 : decode cX7_loss 20 = .ok (.bipush (-2), 2) := by decide +kernel
theorem dX7_loss_22 : decode cX7_loss 22 = .ok (.ireturn, 1) := by decide +kernel
theorem dX7_lifts_0 : decode cX7_lifts 0 = .ok (.aload_n 0, 1) := by decide +kernel
theorem dX7_lifts_1 : decode cX7_lifts 1 = .ok (.iload_n 1, 1) := by decide +kernel
theorem dX7_lifts_2 : decode cX7_lifts 2 = .ok (.invokevirtual 172, 3) := by decide +kernel
theorem dX7_lifts_5 : decode cX7_lifts 5 = .ok (.ifCond .ne 6, 3) := by decide +kernel
theorem dX7_lifts_8 : decode cX7_lifts 8 = .ok (.bipush (-2), 2) := by decide +kernel
theorem dX7_lifts_10 : decode cX7_lifts 10 = .ok (.ireturn, 1) := by decide +kernel
theorem dX7_lifts_11 : decode cX7_lifts 11 = .ok (.iload_n 2, 1) := by decide +kernel
theorem dX7_lifts_12 : decode cX7_lifts 12 = .ok (.i2l, 1) := by decide +kernel
theorem dX7_lifts_13 : decode cX7_lifts 13 = .ok (.lconst 0, 1) := by decide +kernel
theorem dX7_lifts_14 : decode cX7_lifts 14 = .ok (.lconst 1, 1) := by decide +kernel
theorem dX7_lifts_15 : decode cX7_lifts 15 = .ok (.invokestatic 78, 3) := by decide +kernel
theorem dX7_lifts_18 : decode cX7_lifts 18 = .ok (.ifCond .ne 6, 3) := by decide +kernel
theorem dX7_lifts_21 : decode cX7_lifts 21 = .ok (.bipush (-3), 2) := by decide +kernel
theorem dX7_lifts_23 : decode cX7_lifts 23 = .ok (.ireturn, 1) := by decide +kernel
theorem dX7_lifts_24 : decode cX7_lifts 24 = .ok (.aload_n 0, 1) := by decide +kernel
theorem dX7_lifts_25 : decode cX7_lifts 25 = .ok (.iload_n 1, 1) := by decide +kernel
theorem dX7_lifts_26 : decode cX7_lifts 26 = .ok (.invokevirtual 169, 3) := by decide +kernel
theorem dX7_lifts_29 : decode cX7_lifts 29 = .ok (.ifCond .ne 6, 3) := by decide +kernel
theorem dX7_lifts_32 : decode cX7_lifts 32 = .ok (.bipush (-4), 2) := by decide +kernel
theorem dX7_lifts_34 : decode cX7_lifts 34 = .ok (.ireturn, 1) := by decide +kernel
theorem dX7_lifts_35 : decode cX7_lifts 35 = .ok (.aload_n 0, 1) := by decide +kernel
theorem dX7_lifts_36 : decode cX7_lifts 36 = .ok (.getfield 25, 3) := by decide +kernel
theorem dX7_lifts_39 : decode cX7_lifts 39 = .ok (.bipush 24, 2) := by decide +kernel
theorem dX7_lifts_41 : decode cX7_lifts 41 = .ok (.iload_n 1, 1) := by decide +kernel
theorem dX7_lifts_42 : decode cX7_lifts 42 = .ok (.iadd, 1) := by decide +kernel
theorem dX7_lifts_43 : decode cX7_lifts 43 = .ok (.iaload, 1) := by decide +kernel
theorem dX7_lifts_44 : decode cX7_lifts 44 = .ok (.aload_n 0, 1) := by decide +kernel
theorem dX7_lifts_45 : decode cX7_lifts 45 = .ok (.invokevirtual 180, 3) := by decide +kernel
theorem dX7_lifts_48 : decode cX7_lifts 48 = .ok (.iand, 1) := by decide +kernel
theorem dX7_lifts_49 : decode cX7_lifts 49 = .ok (.istore_n 3, 1) := by decide +kernel
theorem dX7_lifts_50 : decode cX7_lifts 50 = .ok (.iload_n 2, 1) := by decide +kernel
theorem dX7_lifts_51 : decode cX7_lifts 51 = .ok (.ifCond .ne 10, 3) := by decide +kernel
theorem dX7_lifts_54 : decode cX7_lifts 54 = .ok (.iload_n 3, 1) := by decide +kernel
theorem dX7_lifts_55 : decode cX7_lifts 55 = .ok (.invokestatic 198, 3) := by decide +kernel
theorem dX7_lifts_58 : decode cX7_lifts 58 = .ok (.goto 4, 3) := by decide +kernel
theorem dX7_lifts_61 : decode cX7_lifts 61 = .ok (.iload_n 3, 1) := by decide +kernel
theorem dX7_lifts_62 : decode cX7_lifts 62 = .ok (.ireturn, 1) := by decide +kernel
theorem dX7_doomBy_0 : decode cX7_doomBy 0 = .ok (.iconst 0, 1) := by decide +kernel
theorem dX7_doomBy_1 : decode cX7_doomBy 1 = .ok (.istore_n 1, 1) := by decide +kernel
theorem dX7_doomBy_2 : decode cX7_doomBy 2 = .ok (.iload_n 1, 1) := by decide +kernel
theorem dX7_doomBy_3 : decode cX7_doomBy 3 = .ok (.bipush 42, 2) := by decide +kernel
theorem dX7_doomBy_5 : decode cX7_doomBy 5 = .ok (.if_icmp .ge 21, 3) := by decide +kernel
theorem dX7_doomBy_8 : decode cX7_doomBy 8 = .ok (.aload_n 0, 1) := by decide +kernel
theorem dX7_doomBy_9 : decode cX7_doomBy 9 = .ok (.getfield 62, 3) := by decide +kernel
theorem dX7_doomBy_12 : decode cX7_doomBy 12 = .ok (.iload_n 1, 1) := by decide +kernel
theorem dX7_doomBy_13 : decode cX7_doomBy 13 = .ok (.aload_n 0, 1) := by decide +kernel
theorem dX7_doomBy_14 : decode cX7_doomBy 14 = .ok (.getfield 25, 3) := by decide +kernel
theorem dX7_doomBy_17 : decode cX7_doomBy 17 = .ok (.iload_n 1, 1) := by decide +kernel
theorem dX7_doomBy_18 : decode cX7_doomBy 18 = .ok (.iaload, 1) := by decide +kernel
theorem dX7_doomBy_19 : decode cX7_doomBy 19 = .ok (.iastore, 1) := by decide +kernel
theorem dX7_doomBy_20 : decode cX7_doomBy 20 = .ok (.iinc 1 1, 3) := by decide +kernel
theorem dX7_doomBy_23 : decode cX7_doomBy 23 = .ok (.goto (-21), 3) := by decide +kernel
theorem dX7_doomBy_26 : decode cX7_doomBy 26 = .ok (.aload_n 0, 1) := by decide +kernel
theorem dX7_doomBy_27 : decode cX7_doomBy 27 = .ok (.iconst 0, 1) := by decide +kernel
theorem dX7_doomBy_28 : decode cX7_doomBy 28 = .ok (.putfield 217, 3) := by decide +kernel
theorem dX7_doomBy_31 : decode cX7_doomBy 31 = .ok (.aload_n 0, 1) := by decide +kernel
theorem dX7_doomBy_32 : decode cX7_doomBy 32 = .ok (.getfield 25, 3) := by decide +kernel
theorem dX7_doomBy_35 : decode cX7_doomBy 35 = .ok (.bipush 40, 2) := by decide +kernel
theorem dX7_doomBy_37 : decode cX7_doomBy 37 = .ok (.iaload, 1) := by decide +kernel
theorem dX7_doomBy_38 : decode cX7_doomBy 38 = .ok (.bipush 99, 2) := by decide +kernel
theorem dX7_doomBy_40 : decode cX7_doomBy 40 = .ok (.if_icmp .gt 19, 3) := by decide +kernel
theorem dX7_doomBy_43 : decode cX7_doomBy 43 = .ok (.aload_n 0, 1) := by decide +kernel
theorem dX7_doomBy_44 : decode cX7_doomBy 44 = .ok (.dup, 1) := by decide +kernel
theorem dX7_doomBy_45 : decode cX7_doomBy 45 = .ok (.getfield 217, 3) := by decide +kernel
theorem dX7_doomBy_48 : decode cX7_doomBy 48 = .ok (.aload_n 0, 1) := by decide +kernel
theorem dX7_doomBy_49 : decode cX7_doomBy 49 = .ok (.invokevirtual 214, 3) := by decide +kernel
theorem dX7_doomBy_52 : decode cX7_doomBy 52 = .ok (.ior, 1) := by decide +kernel
theorem dX7_doomBy_53 : decode cX7_doomBy 53 = .ok (.putfield 217, 3) := by decide +kernel
theorem dX7_doomBy_56 : decode cX7_doomBy 56 = .ok (.goto (-25), 3) := by decide +kernel
theorem dX7_doomBy_59 : decode cX7_doomBy 59 = .ok (.aload_n 0, 1) := by decide +kernel
theorem dX7_doomBy_60 : decode cX7_doomBy 60 = .ok (.getfield 25, 3) := by decide +kernel
theorem dX7_doomBy_63 : decode cX7_doomBy 63 = .ok (.bipush 41, 2) := by decide +kernel
theorem dX7_doomBy_65 : decode cX7_doomBy 65 = .ok (.iaload, 1) := by decide +kernel
theorem dX7_doomBy_66 : decode cX7_doomBy 66 = .ok (.aload_n 0, 1) := by decide +kernel
theorem dX7_doomBy_67 : decode cX7_doomBy 67 = .ok (.getfield 62, 3) := by decide +kernel
theorem dX7_doomBy_70 : decode cX7_doomBy 70 = .ok (.bipush 41, 2) := by decide +kernel
theorem dX7_doomBy_72 : decode cX7_doomBy 72 = .ok (.iaload, 1) := by decide +kernel
theorem dX7_doomBy_73 : decode cX7_doomBy 73 = .ok (.isub, 1) := by decide +kernel
theorem dX7_doomBy_74 : decode cX7_doomBy 74 = .ok (.istore_n 1, 1) := by decide +kernel
theorem dX7_doomBy_75 : decode cX7_doomBy 75 = .ok (.iconst 0, 1) := by decide +kernel
theorem dX7_doomBy_76 : decode cX7_doomBy 76 = .ok (.istore_n 2, 1) := by decide +kernel
theorem dX7_doomBy_77 : decode cX7_doomBy 77 = .ok (.iload_n 2, 1) := by decide +kernel
theorem dX7_doomBy_78 : decode cX7_doomBy 78 = .ok (.bipush 42, 2) := by decide +kernel
theorem dX7_doomBy_80 : decode cX7_doomBy 80 = .ok (.if_icmp .ge 21, 3) := by decide +kernel
theorem dX7_doomBy_83 : decode cX7_doomBy 83 = .ok (.aload_n 0, 1) := by decide +kernel
theorem dX7_doomBy_84 : decode cX7_doomBy 84 = .ok (.getfield 25, 3) := by decide +kernel
theorem dX7_doomBy_87 : decode cX7_doomBy 87 = .ok (.iload_n 2, 1) := by decide +kernel
theorem dX7_doomBy_88 : decode cX7_doomBy 88 = .ok (.aload_n 0, 1) := by decide +kernel
theorem dX7_doomBy_89 : decode cX7_doomBy 89 = .ok (.getfield 62, 3) := by decide +kernel
theorem dX7_doomBy_92 : decode cX7_doomBy 92 = .ok (.iload_n 2, 1) := by decide +kernel
theorem dX7_doomBy_93 : decode cX7_doomBy 93 = .ok (.iaload, 1) := by decide +kernel
theorem dX7_doomBy_94 : decode cX7_doomBy 94 = .ok (.iastore, 1) := by decide +kernel
theorem dX7_doomBy_95 : decode cX7_doomBy 95 = .ok (.iinc 2 1, 3) := by decide +kernel
theorem dX7_doomBy_98 : decode cX7_doomBy 98 = .ok (.goto (-21), 3) := by decide +kernel
theorem dX7_doomBy_101 : decode cX7_doomBy 101 = .ok (.iload_n 1, 1) := by decide +kernel
theorem dX7_doomBy_102 : decode cX7_doomBy 102 = .ok (.ireturn, 1) := by decide +kernel
theorem dX7_doom_0 : decode cX7_doom 0 = .ok (.iload_n 1, 1) := by decide +kernel
theorem dX7_doom_1 : decode cX7_doom 1 = .ok (.i2l, 1) := by decide +kernel
theorem dX7_doom_2 : decode cX7_doom 2 = .ok (.lconst 0, 1) := by decide +kernel
theorem dX7_doom_3 : decode cX7_doom 3 = .ok (.lconst 1, 1) := by decide +kernel
theorem dX7_doom_4 : decode cX7_doom 4 = .ok (.invokestatic 78, 3) := by decide +kernel
theorem dX7_doom_7 : decode cX7_doom 7 = .ok (.ifCond .ne 6, 3) := by decide +kernel
theorem dX7_doom_10 : decode cX7_doom 10 = .ok (.bipush (-3), 2) := by decide +kernel
theorem dX7_doom_12 : decode cX7_doom 12 = .ok (.ireturn, 1) := by decide +kernel
theorem dX7_doom_13 : decode cX7_doom 13 = .ok (.aload_n 0, 1) := by decide +kernel
theorem dX7_doom_14 : decode cX7_doom 14 = .ok (.invokevirtual 211, 3) := by decide +kernel
theorem dX7_doom_17 : decode cX7_doom 17 = .ok (.aload_n 0, 1) := by decide +kernel
theorem dX7_doom_18 : decode cX7_doom 18 = .ok (.invokevirtual 220, 3) := by decide +kernel
theorem dX7_doom_21 : decode cX7_doom 21 = .ok (.istore_n 2, 1) := by decide +kernel
theorem dX7_doom_22 : decode cX7_doom 22 = .ok (.iload_n 1, 1) := by decide +kernel
theorem dX7_doom_23 : decode cX7_doom 23 = .ok (.ifCond .ne 7, 3) := by decide +kernel
theorem dX7_doom_26 : decode cX7_doom 26 = .ok (.iload_n 2, 1) := by decide +kernel
theorem dX7_doom_27 : decode cX7_doom 27 = .ok (.goto 7, 3) := by decide +kernel
theorem dX7_doom_30 : decode cX7_doom 30 = .ok (.aload_n 0, 1) := by decide +kernel
theorem dX7_doom_31 : decode cX7_doom 31 = .ok (.getfield 217, 3) := by decide +kernel
theorem dX7_doom_34 : decode cX7_doom 34 = .ok (.ireturn, 1) := by decide +kernel
theorem dX7_nextRow_0 : decode cX7_nextRow 0 = .ok (.iload_n 1, 1) := by decide +kernel
theorem dX7_nextRow_1 : decode cX7_nextRow 1 = .ok (.iconst 2, 1) := by decide +kernel
theorem dX7_nextRow_2 : decode cX7_nextRow 2 = .ok (.isub, 1) := by decide +kernel
theorem dX7_nextRow_3 : decode cX7_nextRow 3 = .ok (.istore_n 2, 1) := by decide +kernel
theorem dX7_nextRow_4 : decode cX7_nextRow 4 = .ok (.iload_n 2, 1) := by decide +kernel
theorem dX7_nextRow_5 : decode cX7_nextRow 5 = .ok (.ifCond .lt 36, 3) := by decide +kernel
theorem dX7_nextRow_8 : decode cX7_nextRow 8 = .ok (.aload_n 0, 1) := by decide +kernel
theorem dX7_nextRow_9 : decode cX7_nextRow 9 = .ok (.getfield 52, 3) := by decide +kernel
theorem dX7_nextRow_12 : decode cX7_nextRow 12 = .ok (.aload_n 0, 1) := by decide +kernel
theorem dX7_nextRow_13 : decode cX7_nextRow 13 = .ok (.getfield 65, 3) := by decide +kernel
theorem dX7_nextRow_16 : decode cX7_nextRow 16 = .ok (.iload_n 2, 1) := by decide +kernel
theorem dX7_nextRow_17 : decode cX7_nextRow 17 = .ok (.iaload, 1) := by decide +kernel
theorem dX7_nextRow_18 : decode cX7_nextRow 18 = .ok (.iaload, 1) := by decide +kernel
theorem dX7_nextRow_19 : decode cX7_nextRow 19 = .ok (.aload_n 0, 1) := by decide +kernel
theorem dX7_nextRow_20 : decode cX7_nextRow 20 = .ok (.getfield 52, 3) := by decide +kernel
theorem dX7_nextRow_23 : decode cX7_nextRow 23 = .ok (.aload_n 0, 1) := by decide +kernel
theorem dX7_nextRow_24 : decode cX7_nextRow 24 = .ok (.getfield 65, 3) := by decide +kernel
theorem dX7_nextRow_27 : decode cX7_nextRow 27 = .ok (.iload_n 2, 1) := by decide +kernel
theorem dX7_nextRow_28 : decode cX7_nextRow 28 = .ok (.iconst 1, 1) := by decide +kernel
theorem dX7_nextRow_29 : decode cX7_nextRow 29 = .ok (.iadd, 1) := by decide +kernel
theorem dX7_nextRow_30 : decode cX7_nextRow 30 = .ok (.iaload, 1) := by decide +kernel
theorem dX7_nextRow_31 : decode cX7_nextRow 31 = .ok (.iaload, 1) := by decide +kernel
theorem dX7_nextRow_32 : decode cX7_nextRow 32 = .ok (.if_icmp .lt 9, 3) := by decide +kernel
theorem dX7_nextRow_35 : decode cX7_nextRow 35 = .ok (.iinc 2 (-1), 3) := by decide +kernel
theorem dX7_nextRow_38 : decode cX7_nextRow 38 = .ok (.goto (-34), 3) := by decide +kernel
theorem dX7_nextRow_41 : decode cX7_nextRow 41 = .ok (.iload_n 2, 1) := by decide +kernel
theorem dX7_nextRow_42 : decode cX7_nextRow 42 = .ok (.ifCond .ge 5, 3) := by decide +kernel
theorem dX7_nextRow_45 : decode cX7_nextRow 45 = .ok (.iconst 0, 1) := by decide +kernel
theorem dX7_nextRow_46 : decode cX7_nextRow 46 = .ok (.ireturn, 1) := by decide +kernel
theorem dX7_nextRow_47 : decode cX7_nextRow 47 = .ok (.iload_n 1, 1) := by decide +kernel
theorem dX7_nextRow_48 : decode cX7_nextRow 48 = .ok (.iconst 1, 1) := by decide +kernel
theorem dX7_nextRow_49 : decode cX7_nextRow 49 = .ok (.isub, 1) := by decide +kernel
theorem dX7_nextRow_50 : decode cX7_nextRow 50 = .ok (.istore_n 3, 1) := by decide +kernel
theorem dX7_nextRow_51 : decode cX7_nextRow 51 = .ok (.aload_n 0, 1) := by decide +kernel
theorem dX7_nextRow_52 : decode cX7_nextRow 52 = .ok (.getfield 52, 3) := by decide +kernel
theorem dX7_nextRow_55 : decode cX7_nextRow 55 = .ok (.aload_n 0, 1) := by decide +kernel
theorem dX7_nextRow_56 : decode cX7_nextRow 56 = .ok (.getfield 65, 3) := by decide +kernel
theorem dX7_nextRow_59 : decode cX7_nextRow 59 = .ok (.iload_n 3, 1) := by decide +kernel
theorem dX7_nextRow_60 : decode cX7_nextRow 60 = .ok (.iaload, 1) := by decide +kernel
theorem dX7_nextRow_61 : decode cX7_nextRow 61 = .ok (.iaload, 1) := by decide +kernel
theorem dX7_nextRow_62 : decode cX7_nextRow 62 = .ok (.aload_n 0, 1) := by decide +kernel
theorem dX7_nextRow_63 : decode cX7_nextRow 63 = .ok (.getfield 52, 3) := by decide +kernel
theorem dX7_nextRow_66 : decode cX7_nextRow 66 = .ok (.aload_n 0, 1) := by decide +kernel
theorem dX7_nextRow_67 : decode cX7_nextRow 67 = .ok (.getfield 65, 3) := by decide +kernel
theorem dX7_nextRow_70 : decode cX7_nextRow 70 = .ok (.iload_n 2, 1) := by decide +kernel
theorem dX7_nextRow_71 : decode cX7_nextRow 71 = .ok (.iaload, 1) := by decide +kernel
theorem dX7_nextRow_72 : decode cX7_nextRow 72 = .ok (.iaload, 1) := by decide +kernel
theorem dX7_nextRow_73 : decode cX7_nextRow 73 = .ok (.if_icmp .gt 9, 3) := by decide +kernel
theorem dX7_nextRow_76 : decode cX7_nextRow 76 = .ok (.iinc 3 (-1), 3) := by decide +kernel
theorem dX7_nextRow_79 : decode cX7_nextRow 79 = .ok (.goto (-28), 3) := by decide +kernel
theorem dX7_nextRow_82 : decode cX7_nextRow 82 = .ok (.aload_n 0, 1) := by decide +kernel
theorem dX7_nextRow_83 : decode cX7_nextRow 83 = .ok (.aload_n 0, 1) := by decide +kernel
theorem dX7_nextRow_84 : decode cX7_nextRow 84 = .ok (.getfield 65, 3) := by decide +kernel
theorem dX7_nextRow_87 : decode cX7_nextRow 87 = .ok (.iload_n 2, 1) := by decide +kernel
theorem dX7_nextRow_88 : decode cX7_nextRow 88 = .ok (.iaload, 1) := by decide +kernel
theorem dX7_nextRow_89 : decode cX7_nextRow 89 = .ok (.aload_n 0, 1) := by decide +kernel
theorem dX7_nextRow_90 : decode cX7_nextRow 90 = .ok (.getfield 65, 3) := by decide +kernel
theorem dX7_nextRow_93 : decode cX7_nextRow 93 = .ok (.iload_n 3, 1) := by decide +kernel
theorem dX7_nextRow_94 : decode cX7_nextRow 94 = .ok (.iaload, 1) := by decide +kernel
theorem dX7_nextRow_95 : decode cX7_nextRow 95 = .ok (.invokevirtual 223, 3) := by decide +kernel
theorem dX7_nextRow_98 : decode cX7_nextRow 98 = .ok (.iload_n 1, 1) := by decide +kernel
theorem dX7_nextRow_99 : decode cX7_nextRow 99 = .ok (.iconst 1, 1) := by decide +kernel
theorem dX7_nextRow_100 : decode cX7_nextRow 100 = .ok (.isub, 1) := by decide +kernel
theorem dX7_nextRow_101 : decode cX7_nextRow 101 = .ok (.istore 4, 2) := by decide +kernel
theorem dX7_nextRow_103 : decode cX7_nextRow 103 = .ok (.iload_n 2, 1) := by decide +kernel
theorem dX7_nextRow_104 : decode cX7_nextRow 104 = .ok (.iconst 1, 1) := by decide +kernel
theorem dX7_nextRow_105 : decode cX7_nextRow 105 = .ok (.iadd, 1) := by decide +kernel
theorem dX7_nextRow_106 : decode cX7_nextRow 106 = .ok (.istore 5, 2) := by decide +kernel
theorem dX7_nextRow_108 : decode cX7_nextRow 108 = .ok (.iload 5, 2) := by decide +kernel
theorem dX7_nextRow_110 : decode cX7_nextRow 110 = .ok (.iload 4, 2) := by decide +kernel
theorem dX7_nextRow_112 : decode cX7_nextRow 112 = .ok (.if_icmp .ge 30, 3) := by decide +kernel
theorem dX7_nextRow_115 : decode cX7_nextRow 115 = .ok (.aload_n 0, 1) := by decide +kernel
theorem dX7_nextRow_116 : decode cX7_nextRow 116 = .ok (.aload_n 0, 1) := by decide +kernel
theorem dX7_nextRow_117 : decode cX7_nextRow 117 = .ok (.getfield 65, 3) := by decide +kernel
theorem dX7_nextRow_120 : decode cX7_nextRow 120 = .ok (.iload 5, 2) := by decide +kernel
theorem dX7_nextRow_122 : decode cX7_nextRow 122 = .ok (.iaload, 1) := by decide +kernel
theorem dX7_nextRow_123 : decode cX7_nextRow 123 = .ok (.aload_n 0, 1) := by decide +kernel
theorem dX7_nextRow_124 : decode cX7_nextRow 124 = .ok (.getfield 65, 3) := by decide +kernel
theorem dX7_nextRow_127 : decode cX7_nextRow 127 = .ok (.iload 4, 2) := by decide +kernel
theorem dX7_nextRow_129 : decode cX7_nextRow 129 = .ok (.iaload, 1) := by decide +kernel
theorem dX7_nextRow_130 : decode cX7_nextRow 130 = .ok (.invokevirtual 223, 3) := by decide +kernel
theorem dX7_nextRow_133 : decode cX7_nextRow 133 = .ok (.iinc 4 (-1), 3) := by decide +kernel
theorem dX7_nextRow_136 : decode cX7_nextRow 136 = .ok (.iinc 5 1, 3) := by decide +kernel
theorem dX7_nextRow_139 : decode cX7_nextRow 139 = .ok (.goto (-31), 3) := by decide +kernel
theorem dX7_nextRow_142 : decode cX7_nextRow 142 = .ok (.iconst 1, 1) := by decide +kernel
theorem dX7_nextRow_143 : decode cX7_nextRow 143 = .ok (.ireturn, 1) := by decide +kernel
theorem dX7_exchange_0 : decode cX7_exchange 0 = .ok (.aload_n 0, 1) := by decide +kernel
theorem dX7_exchange_1 : decode cX7_exchange 1 = .ok (.getfield 52, 3) := by decide +kernel
theorem dX7_exchange_4 : decode cX7_exchange 4 = .ok (.iload_n 1, 1) := by decide +kernel
theorem dX7_exchange_5 : decode cX7_exchange 5 = .ok (.iaload, 1) := by decide +kernel
theorem dX7_exchange_6 : decode cX7_exchange 6 = .ok (.istore_n 3, 1) := by decide +kernel
theorem dX7_exchange_7 : decode cX7_exchange 7 = .ok (.aload_n 0, 1) := by decide +kernel
theorem dX7_exchange_8 : decode cX7_exchange 8 = .ok (.getfield 52, 3) := by decide +kernel
theorem dX7_exchange_11 : decode cX7_exchange 11 = .ok (.iload_n 1, 1) := by decide +kernel
theorem dX7_exchange_12 : decode cX7_exchange 12 = .ok (.aload_n 0, 1) := by decide +kernel
theorem dX7_exchange_13 : decode cX7_exchange 13 = .ok (.getfield 52, 3) := by decide +kernel
theorem dX7_exchange_16 : decode cX7_exchange 16 = .ok (.iload_n 2, 1) := by decide +kernel
theorem dX7_exchange_17 : decode cX7_exchange 17 = .ok (.iaload, 1) := by decide +kernel
theorem dX7_exchange_18 : decode cX7_exchange 18 = .ok (.iastore, 1) := by decide +kernel
theorem dX7_exchange_19 : decode cX7_exchange 19 = .ok (.aload_n 0, 1) := by decide +kernel
theorem dX7_exchange_20 : decode cX7_exchange 20 = .ok (.getfield 52, 3) := by decide +kernel
theorem dX7_exchange_23 : decode cX7_exchange 23 = .ok (.iload_n 2, 1) := by decide +kernel
theorem dX7_exchange_24 : decode cX7_exchange 24 = .ok (.iload_n 3, 1) := by decide +kernel
theorem dX7_exchange_25 : decode cX7_exchange 25 = .ok (.iastore, 1) := by decide +kernel
theorem dX7_exchange_26 : decode cX7_exchange 26 = .ok (.return_, 1) := by decide +kernel
theorem dX7_swapped_0 : decode cX7_swapped 0 = .ok (.iload_n 1, 1) := by decide +kernel
theorem dX7_swapped_1 : decode cX7_swapped 1 = .ok (.i2l, 1) := by decide +kernel
theorem dX7_swapped_2 : decode cX7_swapped 2 = .ok (.ldc2_w 227, 3) := by decide +kernel
theorem dX7_swapped_5 : decode cX7_swapped 5 = .ok (.aload_n 0, 1) := by decide +kernel
theorem dX7_swapped_6 : decode cX7_swapped 6 = .ok (.getfield 156, 3) := by decide +kernel
theorem dX7_swapped_9 : decode cX7_swapped 9 = .ok (.iconst 1, 1) := by decide +kernel
theorem dX7_swapped_10 : decode cX7_swapped 10 = .ok (.isub, 1) := by decide +kernel
theorem dX7_swapped_11 : decode cX7_swapped 11 = .ok (.i2l, 1) := by decide +kernel
theorem dX7_swapped_12 : decode cX7_swapped 12 = .ok (.invokestatic 78, 3) := by decide +kernel
theorem dX7_swapped_15 : decode cX7_swapped 15 = .ok (.ifCond .ne 6, 3) := by decide +kernel
theorem dX7_swapped_18 : decode cX7_swapped 18 = .ok (.bipush (-2), 2) := by decide +kernel
theorem dX7_swapped_20 : decode cX7_swapped 20 = .ok (.ireturn, 1) := by decide +kernel
theorem dX7_swapped_21 : decode cX7_swapped 21 = .ok (.aload_n 0, 1) := by decide +kernel
theorem dX7_swapped_22 : decode cX7_swapped 22 = .ok (.invokevirtual 211, 3) := by decide +kernel
theorem dX7_swapped_25 : decode cX7_swapped 25 = .ok (.iconst 0, 1) := by decide +kernel
theorem dX7_swapped_26 : decode cX7_swapped 26 = .ok (.istore_n 2, 1) := by decide +kernel
theorem dX7_swapped_27 : decode cX7_swapped 27 = .ok (.iconst 0, 1) := by decide +kernel
theorem dX7_swapped_28 : decode cX7_swapped 28 = .ok (.istore_n 3, 1) := by decide +kernel
theorem dX7_swapped_29 : decode cX7_swapped 29 = .ok (.iload_n 3, 1) := by decide +kernel
theorem dX7_swapped_30 : decode cX7_swapped 30 = .ok (.aload_n 0, 1) := by decide +kernel
theorem dX7_swapped_31 : decode cX7_swapped 31 = .ok (.getfield 156, 3) := by decide +kernel
theorem dX7_swapped_34 : decode cX7_swapped 34 = .ok (.if_icmp .ge 35, 3) := by decide +kernel
theorem dX7_swapped_37 : decode cX7_swapped 37 = .ok (.aload_n 0, 1) := by decide +kernel
theorem dX7_swapped_38 : decode cX7_swapped 38 = .ok (.getfield 19, 3) := by decide +kernel
theorem dX7_swapped_41 : decode cX7_swapped 41 = .ok (.iload_n 3, 1) := by decide +kernel
theorem dX7_swapped_42 : decode cX7_swapped 42 = .ok (.iaload, 1) := by decide +kernel
theorem dX7_swapped_43 : decode cX7_swapped 43 = .ok (.aload_n 0, 1) := by decide +kernel
theorem dX7_swapped_44 : decode cX7_swapped 44 = .ok (.getfield 25, 3) := by decide +kernel
theorem dX7_swapped_47 : decode cX7_swapped 47 = .ok (.bipush 40, 2) := by decide +kernel
theorem dX7_swapped_49 : decode cX7_swapped 49 = .ok (.iaload, 1) := by decide +kernel
theorem dX7_swapped_50 : decode cX7_swapped 50 = .ok (.if_icmp .lt 13, 3) := by decide +kernel
theorem dX7_swapped_53 : decode cX7_swapped 53 = .ok (.aload_n 0, 1) := by decide +kernel
theorem dX7_swapped_54 : decode cX7_swapped 54 = .ok (.getfield 65, 3) := by decide +kernel
theorem dX7_swapped_57 : decode cX7_swapped 57 = .ok (.iload_n 2, 1) := by decide +kernel
theorem dX7_swapped_58 : decode cX7_swapped 58 = .ok (.iload_n 3, 1) := by decide +kernel
theorem dX7_swapped_59 : decode cX7_swapped 59 = .ok (.iastore, 1) := by decide +kernel
theorem dX7_swapped_60 : decode cX7_swapped 60 = .ok (.iinc 2 1, 3) := by decide +kernel
theorem dX7_swapped_63 : decode cX7_swapped 63 = .ok (.iinc 3 1, 3) := by decide +kernel
theorem dX7_swapped_66 : decode cX7_swapped 66 = .ok (.goto (-37), 3) := by decide +kernel
theorem dX7_swapped_69 : decode cX7_swapped 69 = .ok (.iconst 0, 1) := by decide +kernel
theorem dX7_swapped_70 : decode cX7_swapped 70 = .ok (.istore_n 3, 1) := by decide +kernel
theorem dX7_swapped_71 : decode cX7_swapped 71 = .ok (.iload_n 3, 1) := by decide +kernel
theorem dX7_swapped_72 : decode cX7_swapped 72 = .ok (.iload_n 2, 1) := by decide +kernel
theorem dX7_swapped_73 : decode cX7_swapped 73 = .ok (.if_icmp .ge 69, 3) := by decide +kernel
theorem dX7_swapped_76 : decode cX7_swapped 76 = .ok (.iload_n 3, 1) := by decide +kernel
theorem dX7_swapped_77 : decode cX7_swapped 77 = .ok (.iconst 1, 1) := by decide +kernel
theorem dX7_swapped_78 : decode cX7_swapped 78 = .ok (.iadd, 1) := by decide +kernel
theorem dX7_swapped_79 : decode cX7_swapped 79 = .ok (.istore 4, 2) := by decide +kernel
theorem dX7_swapped_81 : decode cX7_swapped 81 = .ok (.iload 4, 2) := by decide +kernel
theorem dX7_swapped_83 : decode cX7_swapped 83 = .ok (.iload_n 2, 1) := by decide +kernel
theorem dX7_swapped_84 : decode cX7_swapped 84 = .ok (.if_icmp .ge 52, 3) := by decide +kernel
theorem dX7_swapped_87 : decode cX7_swapped 87 = .ok (.aload_n 0, 1) := by decide +kernel
theorem dX7_swapped_88 : decode cX7_swapped 88 = .ok (.getfield 52, 3) := by decide +kernel
theorem dX7_swapped_91 : decode cX7_swapped 91 = .ok (.aload_n 0, 1) := by decide +kernel
theorem dX7_swapped_92 : decode cX7_swapped 92 = .ok (.getfield 65, 3) := by decide +kernel
theorem dX7_swapped_95 : decode cX7_swapped 95 = .ok (.iload 4, 2) := by decide +kernel
theorem dX7_swapped_97 : decode cX7_swapped 97 = .ok (.iaload, 1) := by decide +kernel
theorem dX7_swapped_98 : decode cX7_swapped 98 = .ok (.iaload, 1) := by decide +kernel
theorem dX7_swapped_99 : decode cX7_swapped 99 = .ok (.aload_n 0, 1) := by decide +kernel
theorem dX7_swapped_100 : decode cX7_swapped 100 = .ok (.getfield 52, 3) := by decide +kernel
theorem dX7_swapped_103 : decode cX7_swapped 103 = .ok (.aload_n 0, 1) := by decide +kernel
theorem dX7_swapped_104 : decode cX7_swapped 104 = .ok (.getfield 65, 3) := by decide +kernel
theorem dX7_swapped_107 : decode cX7_swapped 107 = .ok (.iload_n 3, 1) := by decide +kernel
theorem dX7_swapped_108 : decode cX7_swapped 108 = .ok (.iaload, 1) := by decide +kernel
theorem dX7_swapped_109 : decode cX7_swapped 109 = .ok (.iaload, 1) := by decide +kernel
theorem dX7_swapped_110 : decode cX7_swapped 110 = .ok (.if_icmp .ge 20, 3) := by decide +kernel
theorem dX7_swapped_113 : decode cX7_swapped 113 = .ok (.aload_n 0, 1) := by decide +kernel
theorem dX7_swapped_114 : decode cX7_swapped 114 = .ok (.aload_n 0, 1) := by decide +kernel
theorem dX7_swapped_115 : decode cX7_swapped 115 = .ok (.getfield 65, 3) := by decide +kernel
theorem dX7_swapped_118 : decode cX7_swapped 118 = .ok (.iload_n 3, 1) := by decide +kernel
theorem dX7_swapped_119 : decode cX7_swapped 119 = .ok (.iaload, 1) := by decide +kernel
theorem dX7_swapped_120 : decode cX7_swapped 120 = .ok (.aload_n 0, 1) := by decide +kernel
theorem dX7_swapped_121 : decode cX7_swapped 121 = .ok (.getfield 65, 3) := by decide +kernel
theorem dX7_swapped_124 : decode cX7_swapped 124 = .ok (.iload 4, 2) := by decide +kernel
theorem dX7_swapped_126 : decode cX7_swapped 126 = .ok (.iaload, 1) := by decide +kernel
theorem dX7_swapped_127 : decode cX7_swapped 127 = .ok (.invokevirtual 223, 3) := by decide +kernel
theorem dX7_swapped_130 : decode cX7_swapped 130 = .ok (.iinc 4 1, 3) := by decide +kernel
theorem dX7_swapped_133 : decode cX7_swapped 133 = .ok (.goto (-52), 3) := by decide +kernel
theorem dX7_swapped_136 : decode cX7_swapped 136 = .ok (.iinc 3 1, 3) := by decide +kernel
theorem dX7_swapped_139 : decode cX7_swapped 139 = .ok (.goto (-68), 3) := by decide +kernel
theorem dX7_swapped_142 : decode cX7_swapped 142 = .ok (.iconst (-1), 1) := by decide +kernel
theorem dX7_swapped_143 : decode cX7_swapped 143 = .ok (.istore_n 3, 1) := by decide +kernel
theorem dX7_swapped_144 : decode cX7_swapped 144 = .ok (.iconst 1, 1) := by decide +kernel
theorem dX7_swapped_145 : decode cX7_swapped 145 = .ok (.istore 4, 2) := by decide +kernel
theorem dX7_swapped_147 : decode cX7_swapped 147 = .ok (.iload 4, 2) := by decide +kernel
theorem dX7_swapped_149 : decode cX7_swapped 149 = .ok (.ifCond .eq 85, 3) := by decide +kernel
theorem dX7_swapped_152 : decode cX7_swapped 152 = .ok (.aload_n 0, 1) := by decide +kernel
theorem dX7_swapped_153 : decode cX7_swapped 153 = .ok (.invokevirtual 220, 3) := by decide +kernel
theorem dX7_swapped_156 : decode cX7_swapped 156 = .ok (.istore 5, 2) := by decide +kernel
theorem dX7_swapped_158 : decode cX7_swapped 158 = .ok (.iload_n 3, 1) := by decide +kernel
theorem dX7_swapped_159 : decode cX7_swapped 159 = .ok (.ifCond .lt 9, 3) := by decide +kernel
theorem dX7_swapped_162 : decode cX7_swapped 162 = .ok (.iload 5, 2) := by decide +kernel
theorem dX7_swapped_164 : decode cX7_swapped 164 = .ok (.iload_n 3, 1) := by decide +kernel
theorem dX7_swapped_165 : decode cX7_swapped 165 = .ok (.if_icmp .ge 7, 3) := by decide +kernel
theorem dX7_swapped_168 : decode cX7_swapped 168 = .ok (.iconst 1, 1) := by decide +kernel
theorem dX7_swapped_169 : decode cX7_swapped 169 = .ok (.goto 4, 3) := by decide +kernel
theorem dX7_swapped_172 : decode cX7_swapped 172 = .ok (.iconst 0, 1) := by decide +kernel
theorem dX7_swapped_173 : decode cX7_swapped 173 = .ok (.istore 6, 2) := by decide +kernel
theorem dX7_swapped_175 : decode cX7_swapped 175 = .ok (.iload 6, 2) := by decide +kernel
theorem dX7_swapped_177 : decode cX7_swapped 177 = .ok (.ifCond .eq 8, 3) := by decide +kernel
theorem dX7_swapped_180 : decode cX7_swapped 180 = .ok (.iload 5, 2) := by decide +kernel
theorem dX7_swapped_182 : decode cX7_swapped 182 = .ok (.goto 4, 3) := by decide +kernel
theorem dX7_swapped_185 : decode cX7_swapped 185 = .ok (.iload_n 3, 1) := by decide +kernel
theorem dX7_swapped_186 : decode cX7_swapped 186 = .ok (.istore_n 3, 1) := by decide +kernel
theorem dX7_swapped_187 : decode cX7_swapped 187 = .ok (.iconst 0, 1) := by decide +kernel
theorem dX7_swapped_188 : decode cX7_swapped 188 = .ok (.istore 7, 2) := by decide +kernel
theorem dX7_swapped_190 : decode cX7_swapped 190 = .ok (.iload 7, 2) := by decide +kernel
theorem dX7_swapped_192 : decode cX7_swapped 192 = .ok (.aload_n 0, 1) := by decide +kernel
theorem dX7_swapped_193 : decode cX7_swapped 193 = .ok (.getfield 156, 3) := by decide +kernel
theorem dX7_swapped_196 : decode cX7_swapped 196 = .ok (.if_icmp .ge 28, 3) := by decide +kernel
theorem dX7_swapped_199 : decode cX7_swapped 199 = .ok (.iload 6, 2) := by decide +kernel
theorem dX7_swapped_201 : decode cX7_swapped 201 = .ok (.ifCond .eq 23, 3) := by decide +kernel
theorem dX7_swapped_204 : decode cX7_swapped 204 = .ok (.aload_n 0, 1) := by decide +kernel
theorem dX7_swapped_205 : decode cX7_swapped 205 = .ok (.getfield 68, 3) := by decide +kernel
theorem dX7_swapped_208 : decode cX7_swapped 208 = .ok (.iload 7, 2) := by decide +kernel
theorem dX7_swapped_210 : decode cX7_swapped 210 = .ok (.aload_n 0, 1) := by decide +kernel
theorem dX7_swapped_211 : decode cX7_swapped 211 = .ok (.getfield 52, 3) := by decide +kernel
theorem dX7_swapped_214 : decode cX7_swapped 214 = .ok (.iload 7, 2) := by decide +kernel
theorem dX7_swapped_216 : decode cX7_swapped 216 = .ok (.iaload, 1) := by decide +kernel
theorem dX7_swapped_217 : decode cX7_swapped 217 = .ok (.iastore, 1) := by decide +kernel
theorem dX7_swapped_218 : decode cX7_swapped 218 = .ok (.iinc 7 1, 3) := by decide +kernel
theorem dX7_swapped_221 : decode cX7_swapped 221 = .ok (.goto (-31), 3) := by decide +kernel
theorem dX7_swapped_224 : decode cX7_swapped 224 = .ok (.aload_n 0, 1) := by decide +kernel
theorem dX7_swapped_225 : decode cX7_swapped 225 = .ok (.iload_n 2, 1) := by decide +kernel
theorem dX7_swapped_226 : decode cX7_swapped 226 = .ok (.invokevirtual 229, 3) := by decide +kernel
theorem dX7_swapped_229 : decode cX7_swapped 229 = .ok (.istore 4, 2) := by decide +kernel
theorem dX7_swapped_231 : decode cX7_swapped 231 = .ok (.goto (-84), 3) := by decide +kernel
theorem dX7_swapped_234 : decode cX7_swapped 234 = .ok (.iload_n 1, 1) := by decide +kernel
theorem dX7_swapped_235 : decode cX7_swapped 235 = .ok (.ifCond .ge 7, 3) := by decide +kernel
theorem dX7_swapped_238 : decode cX7_swapped 238 = .ok (.iload_n 3, 1) := by decide +kernel
theorem dX7_swapped_239 : decode cX7_swapped 239 = .ok (.goto 9, 3) := by decide +kernel
theorem dX7_swapped_242 : decode cX7_swapped 242 = .ok (.aload_n 0, 1) := by decide +kernel
theorem dX7_swapped_243 : decode cX7_swapped 243 = .ok (.getfield 68, 3) := by decide +kernel
theorem dX7_swapped_246 : decode cX7_swapped 246 = .ok (.iload_n 1, 1) := by decide +kernel
theorem dX7_swapped_247 : decode cX7_swapped 247 = .ok (.iaload, 1) := by decide +kernel
theorem dX7_swapped_248 : decode cX7_swapped 248 = .ok (.ireturn, 1) := by decide +kernel
theorem dX7_tailOf_0 : decode cX7_tailOf 0 = .ok (.aload_n 0, 1) := by decide +kernel
theorem dX7_tailOf_1 : decode cX7_tailOf 1 = .ok (.getfield 25, 3) := by decide +kernel
theorem dX7_tailOf_4 : decode cX7_tailOf 4 = .ok (.bipush 8, 2) := by decide +kernel
theorem dX7_tailOf_6 : decode cX7_tailOf 6 = .ok (.iload_n 1, 1) := by decide +kernel
theorem dX7_tailOf_7 : decode cX7_tailOf 7 = .ok (.iadd, 1) := by decide +kernel
theorem dX7_tailOf_8 : decode cX7_tailOf 8 = .ok (.iaload, 1) := by decide +kernel
theorem dX7_tailOf_9 : decode cX7_tailOf 9 = .ok (.iconst 1, 1) := by decide +kernel
theorem dX7_tailOf_10 : decode cX7_tailOf 10 = .ok (.if_icmp .ne 32, 3) := by decide +kernel
theorem dX7_tailOf_13 : decode cX7_tailOf 13 = .ok (.aload_n 0, 1) := by decide +kernel
theorem dX7_tailOf_14 : decode cX7_tailOf 14 = .ok (.getfield 7, 3) := by decide +kernel
theorem dX7_tailOf_17 : decode cX7_tailOf 17 = .ok (.iload_n 1, 1) := by decide +kernel
theorem dX7_tailOf_18 : decode cX7_tailOf 18 = .ok (.iaload, 1) := by decide +kernel
theorem dX7_tailOf_19 : decode cX7_tailOf 19 = .ok (.iconst 3, 1) := by decide +kernel
theorem dX7_tailOf_20 : decode cX7_tailOf 20 = .ok (.if_icmp .eq 22, 3) := by decide +kernel
theorem dX7_tailOf_23 : decode cX7_tailOf 23 = .ok (.aload_n 0, 1) := by decide +kernel
theorem dX7_tailOf_24 : decode cX7_tailOf 24 = .ok (.getfield 13, 3) := by decide +kernel
theorem dX7_tailOf_27 : decode cX7_tailOf 27 = .ok (.iload_n 1, 1) := by decide +kernel
theorem dX7_tailOf_28 : decode cX7_tailOf 28 = .ok (.iaload, 1) := by decide +kernel
theorem dX7_tailOf_29 : decode cX7_tailOf 29 = .ok (.aload_n 0, 1) := by decide +kernel
theorem dX7_tailOf_30 : decode cX7_tailOf 30 = .ok (.getfield 25, 3) := by decide +kernel
theorem dX7_tailOf_33 : decode cX7_tailOf 33 = .ok (.bipush 16, 2) := by decide +kernel
theorem dX7_tailOf_35 : decode cX7_tailOf 35 = .ok (.iload_n 1, 1) := by decide +kernel
theorem dX7_tailOf_36 : decode cX7_tailOf 36 = .ok (.iadd, 1) := by decide +kernel
theorem dX7_tailOf_37 : decode cX7_tailOf 37 = .ok (.iaload, 1) := by decide +kernel
theorem dX7_tailOf_38 : decode cX7_tailOf 38 = .ok (.isub, 1) := by decide +kernel
theorem dX7_tailOf_39 : decode cX7_tailOf 39 = .ok (.goto 4, 3) := by decide +kernel
theorem dX7_tailOf_42 : decode cX7_tailOf 42 = .ok (.iconst 0, 1) := by decide +kernel
theorem dX7_tailOf_43 : decode cX7_tailOf 43 = .ok (.ireturn, 1) := by decide +kernel
theorem dX7_mayHave_0 : decode cX7_mayHave 0 = .ok (.aload_n 0, 1) := by decide +kernel
theorem dX7_mayHave_1 : decode cX7_mayHave 1 = .ok (.iload_n 2, 1) := by decide +kernel
theorem dX7_mayHave_2 : decode cX7_mayHave 2 = .ok (.invokevirtual 169, 3) := by decide +kernel
theorem dX7_mayHave_5 : decode cX7_mayHave 5 = .ok (.ifCond .eq 36, 3) := by decide +kernel
theorem dX7_mayHave_8 : decode cX7_mayHave 8 = .ok (.aload_n 0, 1) := by decide +kernel
theorem dX7_mayHave_9 : decode cX7_mayHave 9 = .ok (.getfield 7, 3) := by decide +kernel
theorem dX7_mayHave_12 : decode cX7_mayHave 12 = .ok (.iload_n 2, 1) := by decide +kernel
theorem dX7_mayHave_13 : decode cX7_mayHave 13 = .ok (.iaload, 1) := by decide +kernel
theorem dX7_mayHave_14 : decode cX7_mayHave 14 = .ok (.iconst 3, 1) := by decide +kernel
theorem dX7_mayHave_15 : decode cX7_mayHave 15 = .ok (.if_icmp .eq 26, 3) := by decide +kernel
theorem dX7_mayHave_18 : decode cX7_mayHave 18 = .ok (.aload_n 0, 1) := by decide +kernel
theorem dX7_mayHave_19 : decode cX7_mayHave 19 = .ok (.getfield 25, 3) := by decide +kernel
theorem dX7_mayHave_22 : decode cX7_mayHave 22 = .ok (.iconst 0, 1) := by decide +kernel
theorem dX7_mayHave_23 : decode cX7_mayHave 23 = .ok (.iload_n 1, 1) := by decide +kernel
theorem dX7_mayHave_24 : decode cX7_mayHave 24 = .ok (.iadd, 1) := by decide +kernel
theorem dX7_mayHave_25 : decode cX7_mayHave 25 = .ok (.iaload, 1) := by decide +kernel
theorem dX7_mayHave_26 : decode cX7_mayHave 26 = .ok (.aload_n 0, 1) := by decide +kernel
theorem dX7_mayHave_27 : decode cX7_mayHave 27 = .ok (.getfield 25, 3) := by decide +kernel
theorem dX7_mayHave_30 : decode cX7_mayHave 30 = .ok (.iconst 0, 1) := by decide +kernel
theorem dX7_mayHave_31 : decode cX7_mayHave 31 = .ok (.iload_n 2, 1) := by decide +kernel
theorem dX7_mayHave_32 : decode cX7_mayHave 32 = .ok (.iadd, 1) := by decide +kernel
theorem dX7_mayHave_33 : decode cX7_mayHave 33 = .ok (.iaload, 1) := by decide +kernel
theorem dX7_mayHave_34 : decode cX7_mayHave 34 = .ok (.if_icmp .ne 7, 3) := by decide +kernel
theorem dX7_mayHave_37 : decode cX7_mayHave 37 = .ok (.iconst 1, 1) := by decide +kernel
theorem dX7_mayHave_38 : decode cX7_mayHave 38 = .ok (.goto 4, 3) := by decide +kernel
theorem dX7_mayHave_41 : decode cX7_mayHave 41 = .ok (.iconst 0, 1) := by decide +kernel
theorem dX7_mayHave_42 : decode cX7_mayHave 42 = .ok (.ireturn, 1) := by decide +kernel
theorem dX7_findMosts_0 : decode cX7_findMosts 0 = .ok (.iconst 0, 1) := by decide +kernel
theorem dX7_findMosts_1 : decode cX7_findMosts 1 = .ok (.istore_n 1, 1) := by decide +kernel
theorem dX7_findMosts_2 : decode cX7_findMosts 2 = .ok (.iload_n 1, 1) := by decide +kernel
theorem dX7_findMosts_3 : decode cX7_findMosts 3 = .ok (.sipush 256, 3) := by decide +kernel
theorem dX7_findMosts_6 : decode cX7_findMosts 6 = .ok (.if_icmp .ge 25, 3) := by decide +kernel
theorem dX7_findMosts_9 : decode cX7_findMosts 9 = .ok (.aload_n 0, 1) := by decide +kernel
theorem dX7_findMosts_10 : decode cX7_findMosts 10 = .ok (.getfield 71, 3) := by decide +kernel
theorem dX7_findMosts_13 : decode cX7_findMosts 13 = .ok (.sipush 256, 3) := by decide +kernel
theorem dX7_findMosts_16 : decode cX7_findMosts 16 = .ok (.aload_n 0, 1) := by decide +kernel
theorem dX7_findMosts_17 : decode cX7_findMosts 17 = .ok (.getfield 74, 3) := by decide +kernel
theorem dX7_findMosts_20 : decode cX7_findMosts 20 = .ok (.imul, 1) := by decide +kernel
theorem dX7_findMosts_21 : decode cX7_findMosts 21 = .ok (.iload_n 1, 1) := by decide +kernel
theorem dX7_findMosts_22 : decode cX7_findMosts 22 = .ok (.iadd, 1) := by decide +kernel
theorem dX7_findMosts_23 : decode cX7_findMosts 23 = .ok (.iconst 0, 1) := by decide +kernel
theorem dX7_findMosts_24 : decode cX7_findMosts 24 = .ok (.iastore, 1) := by decide +kernel
theorem dX7_findMosts_25 : decode cX7_findMosts 25 = .ok (.iinc 1 1, 3) := by decide +kernel
theorem dX7_findMosts_28 : decode cX7_findMosts 28 = .ok (.goto (-26), 3) := by decide +kernel
theorem dX7_findMosts_31 : decode cX7_findMosts 31 = .ok (.aload_n 0, 1) := by decide +kernel
theorem dX7_findMosts_32 : decode cX7_findMosts 32 = .ok (.getfield 74, 3) := by decide +kernel
theorem dX7_findMosts_35 : decode cX7_findMosts 35 = .ok (.iconst 1, 1) := by decide +kernel
theorem dX7_findMosts_36 : decode cX7_findMosts 36 = .ok (.isub, 1) := by decide +kernel
theorem dX7_findMosts_37 : decode cX7_findMosts 37 = .ok (.istore_n 1, 1) := by decide +kernel
theorem dX7_findMosts_38 : decode cX7_findMosts 38 = .ok (.iload_n 1, 1) := by decide +kernel
theorem dX7_findMosts_39 : decode cX7_findMosts 39 = .ok (.ifCond .lt 141, 3) := by decide +kernel
theorem dX7_findMosts_42 : decode cX7_findMosts 42 = .ok (.iconst 0, 1) := by decide +kernel
theorem dX7_findMosts_43 : decode cX7_findMosts 43 = .ok (.istore_n 2, 1) := by decide +kernel
theorem dX7_findMosts_44 : decode cX7_findMosts 44 = .ok (.iload_n 2, 1) := by decide +kernel
theorem dX7_findMosts_45 : decode cX7_findMosts 45 = .ok (.sipush 256, 3) := by decide +kernel
theorem dX7_findMosts_48 : decode cX7_findMosts 48 = .ok (.if_icmp .ge 126, 3) := by decide +kernel
theorem dX7_findMosts_51 : decode cX7_findMosts 51 = .ok (.aload_n 0, 1) := by decide +kernel
theorem dX7_findMosts_52 : decode cX7_findMosts 52 = .ok (.getfield 71, 3) := by decide +kernel
theorem dX7_findMosts_55 : decode cX7_findMosts 55 = .ok (.sipush 256, 3) := by decide +kernel
theorem dX7_findMosts_58 : decode cX7_findMosts 58 = .ok (.iload_n 1, 1) := by decide +kernel
theorem dX7_findMosts_59 : decode cX7_findMosts 59 = .ok (.iconst 1, 1) := by decide +kernel
theorem dX7_findMosts_60 : decode cX7_findMosts 60 = .ok (.iadd, 1) := by decide +kernel
theorem dX7_findMosts_61 : decode cX7_findMosts 61 = .ok (.imul, 1) := by decide +kernel
theorem dX7_findMosts_62 : decode cX7_findMosts 62 = .ok (.iload_n 2, 1) := by decide +kernel
theorem dX7_findMosts_63 : decode cX7_findMosts 63 = .ok (.iadd, 1) := by decide +kernel
theorem dX7_findMosts_64 : decode cX7_findMosts 64 = .ok (.iaload, 1) := by decide +kernel
theorem dX7_findMosts_65 : decode cX7_findMosts 65 = .ok (.istore_n 3, 1) := by decide +kernel
theorem dX7_findMosts_66 : decode cX7_findMosts 66 = .ok (.iconst 0, 1) := by decide +kernel
theorem dX7_findMosts_67 : decode cX7_findMosts 67 = .ok (.istore 4, 2) := by decide +kernel
theorem dX7_findMosts_69 : decode cX7_findMosts 69 = .ok (.iload 4, 2) := by decide +kernel
theorem dX7_findMosts_71 : decode cX7_findMosts 71 = .ok (.aload_n 0, 1) := by decide +kernel
theorem dX7_findMosts_72 : decode cX7_findMosts 72 = .ok (.getfield 74, 3) := by decide +kernel
theorem dX7_findMosts_75 : decode cX7_findMosts 75 = .ok (.if_icmp .ge 80, 3) := by decide +kernel
theorem dX7_findMosts_78 : decode cX7_findMosts 78 = .ok (.aload_n 0, 1) := by decide +kernel
theorem dX7_findMosts_79 : decode cX7_findMosts 79 = .ok (.iload_n 1, 1) := by decide +kernel
theorem dX7_findMosts_80 : decode cX7_findMosts 80 = .ok (.invokevirtual 232, 3) := by decide +kernel
theorem dX7_findMosts_83 : decode cX7_findMosts 83 = .ok (.ifCond .le 72, 3) := by decide +kernel
theorem dX7_findMosts_86 : decode cX7_findMosts 86 = .ok (.aload_n 0, 1) := by decide +kernel
theorem dX7_findMosts_87 : decode cX7_findMosts 87 = .ok (.iload_n 1, 1) := by decide +kernel
theorem dX7_findMosts_88 : decode cX7_findMosts 88 = .ok (.iload 4, 2) := by decide +kernel
theorem dX7_findMosts_90 : decode cX7_findMosts 90 = .ok (.invokevirtual 235, 3) := by decide +kernel
theorem dX7_findMosts_93 : decode cX7_findMosts 93 = .ok (.ifCond .eq 40, 3) := by decide +kernel
theorem dX7_findMosts_96 : decode cX7_findMosts 96 = .ok (.iload_n 2, 1) := by decide +kernel
theorem dX7_findMosts_97 : decode cX7_findMosts 97 = .ok (.iload 4, 2) := by decide +kernel
theorem dX7_findMosts_99 : decode cX7_findMosts 99 = .ok (.invokestatic 124, 3) := by decide +kernel
theorem dX7_findMosts_102 : decode cX7_findMosts 102 = .ok (.ifCond .ne 31, 3) := by decide +kernel
theorem dX7_findMosts_105 : decode cX7_findMosts 105 = .ok (.aload_n 0, 1) := by decide +kernel
theorem dX7_findMosts_106 : decode cX7_findMosts 106 = .ok (.iload_n 1, 1) := by decide +kernel
theorem dX7_findMosts_107 : decode cX7_findMosts 107 = .ok (.invokevirtual 232, 3) := by decide +kernel
theorem dX7_findMosts_110 : decode cX7_findMosts 110 = .ok (.aload_n 0, 1) := by decide +kernel
theorem dX7_findMosts_111 : decode cX7_findMosts 111 = .ok (.getfield 71, 3) := by decide +kernel
theorem dX7_findMosts_114 : decode cX7_findMosts 114 = .ok (.sipush 256, 3) := by decide +kernel
theorem dX7_findMosts_117 : decode cX7_findMosts 117 = .ok (.iload_n 1, 1) := by decide +kernel
theorem dX7_findMosts_118 : decode cX7_findMosts 118 = .ok (.iconst 1, 1) := by decide +kernel
theorem dX7_findMosts_119 : decode cX7_findMosts 119 = .ok (.iadd, 1) := by decide +kernel
theorem dX7_findMosts_120 : decode cX7_findMosts 120 = .ok (.imul, 1) := by decide +kernel
theorem dX7_findMosts_121 : decode cX7_findMosts 121 = .ok (.iload_n 2, 1) := by decide +kernel
theorem dX7_findMosts_122 : decode cX7_findMosts 122 = .ok (.iconst 1, 1) := by decide +kernel
theorem dX7_findMosts_123 : decode cX7_findMosts 123 = .ok (.iload 4, 2) := by decide +kernel
theorem dX7_findMosts_125 : decode cX7_findMosts 125 = .ok (.ishl, 1) := by decide +kernel
theorem dX7_findMosts_126 : decode cX7_findMosts 126 = .ok (.ior, 1) := by decide +kernel
theorem dX7_findMosts_127 : decode cX7_findMosts 127 = .ok (.iadd, 1) := by decide +kernel
theorem dX7_findMosts_128 : decode cX7_findMosts 128 = .ok (.iaload, 1) := by decide +kernel
theorem dX7_findMosts_129 : decode cX7_findMosts 129 = .ok (.iadd, 1) := by decide +kernel
theorem dX7_findMosts_130 : decode cX7_findMosts 130 = .ok (.goto 4, 3) := by decide +kernel
theorem dX7_findMosts_133 : decode cX7_findMosts 133 = .ok (.iconst 0, 1) := by decide +kernel
theorem dX7_findMosts_134 : decode cX7_findMosts 134 = .ok (.istore 5, 2) := by decide +kernel
theorem dX7_findMosts_136 : decode cX7_findMosts 136 = .ok (.iload 5, 2) := by decide +kernel
theorem dX7_findMosts_138 : decode cX7_findMosts 138 = .ok (.iload_n 3, 1) := by decide +kernel
theorem dX7_findMosts_139 : decode cX7_findMosts 139 = .ok (.if_icmp .le 8, 3) := by decide +kernel
theorem dX7_findMosts_142 : decode cX7_findMosts 142 = .ok (.iload 5, 2) := by decide +kernel
theorem dX7_findMosts_144 : decode cX7_findMosts 144 = .ok (.goto 4, 3) := by decide +kernel
theorem dX7_findMosts_147 : decode cX7_findMosts 147 = .ok (.iload_n 3, 1) := by decide +kernel
theorem dX7_findMosts_148 : decode cX7_findMosts 148 = .ok (.istore_n 3, 1) := by decide +kernel
theorem dX7_findMosts_149 : decode cX7_findMosts 149 = .ok (.iinc 4 1, 3) := by decide +kernel
theorem dX7_findMosts_152 : decode cX7_findMosts 152 = .ok (.goto (-83), 3) := by decide +kernel
theorem dX7_findMosts_155 : decode cX7_findMosts 155 = .ok (.aload_n 0, 1) := by decide +kernel
theorem dX7_findMosts_156 : decode cX7_findMosts 156 = .ok (.getfield 71, 3) := by decide +kernel
theorem dX7_findMosts_159 : decode cX7_findMosts 159 = .ok (.sipush 256, 3) := by decide +kernel
theorem dX7_findMosts_162 : decode cX7_findMosts 162 = .ok (.iload_n 1, 1) := by decide +kernel
theorem dX7_findMosts_163 : decode cX7_findMosts 163 = .ok (.imul, 1) := by decide +kernel
theorem dX7_findMosts_164 : decode cX7_findMosts 164 = .ok (.iload_n 2, 1) := by decide +kernel
theorem dX7_findMosts_165 : decode cX7_findMosts 165 = .ok (.iadd, 1) := by decide +kernel
theorem dX7_findMosts_166 : decode cX7_findMosts 166 = .ok (.iload_n 3, 1) := by decide +kernel
theorem dX7_findMosts_167 : decode cX7_findMosts 167 = .ok (.iastore, 1) := by decide +kernel
theorem dX7_findMosts_168 : decode cX7_findMosts 168 = .ok (.iinc 2 1, 3) := by decide +kernel
theorem dX7_findMosts_171 : decode cX7_findMosts 171 = .ok (.goto (-127), 3) := by decide +kernel
theorem dX7_findMosts_174 : decode cX7_findMosts 174 = .ok (.iinc 1 (-1), 3) := by decide +kernel
theorem dX7_findMosts_177 : decode cX7_findMosts 177 = .ok (.goto (-139), 3) := by decide +kernel
theorem dX7_findMosts_180 : decode cX7_findMosts 180 = .ok (.return_, 1) := by decide +kernel
theorem dX7_tails_0 : decode cX7_tails 0 = .ok (.iload_n 1, 1) := by decide +kernel
theorem dX7_tails_1 : decode cX7_tails 1 = .ok (.iconst (-1), 1) := by decide +kernel
theorem dX7_tails_2 : decode cX7_tails 2 = .ok (.if_icmp .eq 14, 3) := by decide +kernel
theorem dX7_tails_5 : decode cX7_tails 5 = .ok (.aload_n 0, 1) := by decide +kernel
theorem dX7_tails_6 : decode cX7_tails 6 = .ok (.iload_n 1, 1) := by decide +kernel
theorem dX7_tails_7 : decode cX7_tails 7 = .ok (.invokevirtual 172, 3) := by decide +kernel
theorem dX7_tails_10 : decode cX7_tails 10 = .ok (.ifCond .ne 6, 3) := by decide +kernel
theorem dX7_tails_13 : decode cX7_tails 13 = .ok (.bipush (-2), 2) := by decide +kernel
theorem dX7_tails_15 : decode cX7_tails 15 = .ok (.ireturn, 1) := by decide +kernel
theorem dX7_tails_16 : decode cX7_tails 16 = .ok (.aload_n 0, 1) := by decide +kernel
theorem dX7_tails_17 : decode cX7_tails 17 = .ok (.invokevirtual 238, 3) := by decide +kernel
theorem dX7_tails_20 : decode cX7_tails 20 = .ok (.iload_n 1, 1) := by decide +kernel
theorem dX7_tails_21 : decode cX7_tails 21 = .ok (.ifCond .ge 10, 3) := by decide +kernel
theorem dX7_tails_24 : decode cX7_tails 24 = .ok (.aload_n 0, 1) := by decide +kernel
theorem dX7_tails_25 : decode cX7_tails 25 = .ok (.getfield 71, 3) := by decide +kernel
theorem dX7_tails_28 : decode cX7_tails 28 = .ok (.iconst 0, 1) := by decide +kernel
theorem dX7_tails_29 : decode cX7_tails 29 = .ok (.iaload, 1) := by decide +kernel
theorem dX7_tails_30 : decode cX7_tails 30 = .ok (.ireturn, 1) := by decide +kernel
theorem dX7_tails_31 : decode cX7_tails 31 = .ok (.iconst 0, 1) := by decide +kernel
theorem dX7_tails_32 : decode cX7_tails 32 = .ok (.istore_n 2, 1) := by decide +kernel
theorem dX7_tails_33 : decode cX7_tails 33 = .ok (.iconst (-1), 1) := by decide +kernel
theorem dX7_tails_34 : decode cX7_tails 34 = .ok (.istore_n 3, 1) := by decide +kernel
theorem dX7_tails_35 : decode cX7_tails 35 = .ok (.iconst 0, 1) := by decide +kernel
theorem dX7_tails_36 : decode cX7_tails 36 = .ok (.istore 4, 2) := by decide +kernel
theorem dX7_tails_38 : decode cX7_tails 38 = .ok (.iload 4, 2) := by decide +kernel
theorem dX7_tails_40 : decode cX7_tails 40 = .ok (.iload_n 1, 1) := by decide +kernel
theorem dX7_tails_41 : decode cX7_tails 41 = .ok (.if_icmp .gt 178, 3) := by decide +kernel
theorem dX7_tails_44 : decode cX7_tails 44 = .ok (.iconst (-1), 1) := by decide +kernel
theorem dX7_tails_45 : decode cX7_tails 45 = .ok (.istore_n 3, 1) := by decide +kernel
theorem dX7_tails_46 : decode cX7_tails 46 = .ok (.aload_n 0, 1) := by decide +kernel
theorem dX7_tails_47 : decode cX7_tails 47 = .ok (.getfield 71, 3) := by decide +kernel
theorem dX7_tails_50 : decode cX7_tails 50 = .ok (.sipush 256, 3) := by decide +kernel
theorem dX7_tails_53 : decode cX7_tails 53 = .ok (.iload 4, 2) := by decide +kernel
theorem dX7_tails_55 : decode cX7_tails 55 = .ok (.iconst 1, 1) := by decide +kernel
theorem dX7_tails_56 : decode cX7_tails 56 = .ok (.iadd, 1) := by decide +kernel
theorem dX7_tails_57 : decode cX7_tails 57 = .ok (.imul, 1) := by decide +kernel
theorem dX7_tails_58 : decode cX7_tails 58 = .ok (.iload_n 2, 1) := by decide +kernel
theorem dX7_tails_59 : decode cX7_tails 59 = .ok (.iadd, 1) := by decide +kernel
theorem dX7_tails_60 : decode cX7_tails 60 = .ok (.iaload, 1) := by decide +kernel
theorem dX7_tails_61 : decode cX7_tails 61 = .ok (.aload_n 0, 1) := by decide +kernel
theorem dX7_tails_62 : decode cX7_tails 62 = .ok (.getfield 71, 3) := by decide +kernel
theorem dX7_tails_65 : decode cX7_tails 65 = .ok (.sipush 256, 3) := by decide +kernel
theorem dX7_tails_68 : decode cX7_tails 68 = .ok (.iload 4, 2) := by decide +kernel
theorem dX7_tails_70 : decode cX7_tails 70 = .ok (.imul, 1) := by decide +kernel
theorem dX7_tails_71 : decode cX7_tails 71 = .ok (.iload_n 2, 1) := by decide +kernel
theorem dX7_tails_72 : decode cX7_tails 72 = .ok (.iadd, 1) := by decide +kernel
theorem dX7_tails_73 : decode cX7_tails 73 = .ok (.iaload, 1) := by decide +kernel
theorem dX7_tails_74 : decode cX7_tails 74 = .ok (.if_icmp .ne 7, 3) := by decide +kernel
theorem dX7_tails_77 : decode cX7_tails 77 = .ok (.iconst 1, 1) := by decide +kernel
theorem dX7_tails_78 : decode cX7_tails 78 = .ok (.goto 4, 3) := by decide +kernel
theorem dX7_tails_81 : decode cX7_tails 81 = .ok (.iconst 0, 1) := by decide +kernel
theorem dX7_tails_82 : decode cX7_tails 82 = .ok (.istore 5, 2) := by decide +kernel
theorem dX7_tails_84 : decode cX7_tails 84 = .ok (.aload_n 0, 1) := by decide +kernel
theorem dX7_tails_85 : decode cX7_tails 85 = .ok (.getfield 74, 3) := by decide +kernel
theorem dX7_tails_88 : decode cX7_tails 88 = .ok (.iconst 1, 1) := by decide +kernel
theorem dX7_tails_89 : decode cX7_tails 89 = .ok (.isub, 1) := by decide +kernel
theorem dX7_tails_90 : decode cX7_tails 90 = .ok (.istore 6, 2) := by decide +kernel
theorem dX7_tails_92 : decode cX7_tails 92 = .ok (.iload 6, 2) := by decide +kernel
theorem dX7_tails_94 : decode cX7_tails 94 = .ok (.ifCond .lt 105, 3) := by decide +kernel
theorem dX7_tails_97 : decode cX7_tails 97 = .ok (.iload 5, 2) := by decide +kernel
theorem dX7_tails_99 : decode cX7_tails 99 = .ok (.ifCond .ne 100, 3) := by decide +kernel
theorem dX7_tails_102 : decode cX7_tails 102 = .ok (.aload_n 0, 1) := by decide +kernel
theorem dX7_tails_103 : decode cX7_tails 103 = .ok (.iload 4, 2) := by decide +kernel
theorem dX7_tails_105 : decode cX7_tails 105 = .ok (.invokevirtual 232, 3) := by decide +kernel
theorem dX7_tails_108 : decode cX7_tails 108 = .ok (.ifCond .le 70, 3) := by decide +kernel
theorem dX7_tails_111 : decode cX7_tails 111 = .ok (.aload_n 0, 1) := by decide +kernel
theorem dX7_tails_112 : decode cX7_tails 112 = .ok (.iload 4, 2) := by decide +kernel
theorem dX7_tails_114 : decode cX7_tails 114 = .ok (.iload 6, 2) := by decide +kernel
theorem dX7_tails_116 : decode cX7_tails 116 = .ok (.invokevirtual 235, 3) := by decide +kernel
theorem dX7_tails_119 : decode cX7_tails 119 = .ok (.ifCond .eq 59, 3) := by decide +kernel
theorem dX7_tails_122 : decode cX7_tails 122 = .ok (.iload_n 2, 1) := by decide +kernel
theorem dX7_tails_123 : decode cX7_tails 123 = .ok (.iload 6, 2) := by decide +kernel
theorem dX7_tails_125 : decode cX7_tails 125 = .ok (.invokestatic 124, 3) := by decide +kernel
theorem dX7_tails_128 : decode cX7_tails 128 = .ok (.ifCond .ne 50, 3) := by decide +kernel
theorem dX7_tails_131 : decode cX7_tails 131 = .ok (.aload_n 0, 1) := by decide +kernel
theorem dX7_tails_132 : decode cX7_tails 132 = .ok (.iload 4, 2) := by decide +kernel
theorem dX7_tails_134 : decode cX7_tails 134 = .ok (.invokevirtual 232, 3) := by decide +kernel
theorem dX7_tails_137 : decode cX7_tails 137 = .ok (.aload_n 0, 1) := by decide +kernel
theorem dX7_tails_138 : decode cX7_tails 138 = .ok (.getfield 71, 3) := by decide +kernel
theorem dX7_tails_141 : decode cX7_tails 141 = .ok (.sipush 256, 3) := by decide +kernel
theorem dX7_tails_144 : decode cX7_tails 144 = .ok (.iload 4, 2) := by decide +kernel
theorem dX7_tails_146 : decode cX7_tails 146 = .ok (.iconst 1, 1) := by decide +kernel
theorem dX7_tails_147 : decode cX7_tails 147 = .ok (.iadd, 1) := by decide +kernel
theorem dX7_tails_148 : decode cX7_tails 148 = .ok (.imul, 1) := by decide +kernel
theorem dX7_tails_149 : decode cX7_tails 149 = .ok (.iload_n 2, 1) := by decide +kernel
theorem dX7_tails_150 : decode cX7_tails 150 = .ok (.iconst 1, 1) := by decide +kernel
theorem dX7_tails_151 : decode cX7_tails 151 = .ok (.iload 6, 2) := by decide +kernel
theorem dX7_tails_153 : decode cX7_tails 153 = .ok (.ishl, 1) := by decide +kernel
theorem dX7_tails_154 : decode cX7_tails 154 = .ok (.ior, 1) := by decide +kernel
theorem dX7_tails_155 : decode cX7_tails 155 = .ok (.iadd, 1) := by decide +kernel
theorem dX7_tails_156 : decode cX7_tails 156 = .ok (.iaload, 1) := by decide +kernel
theorem dX7_tails_157 : decode cX7_tails 157 = .ok (.iadd, 1) := by decide +kernel
theorem dX7_tails_158 : decode cX7_tails 158 = .ok (.aload_n 0, 1) := by decide +kernel
theorem dX7_tails_159 : decode cX7_tails 159 = .ok (.getfield 71, 3) := by decide +kernel
theorem dX7_tails_162 : decode cX7_tails 162 = .ok (.sipush 256, 3) := by decide +kernel
theorem dX7_tails_165 : decode cX7_tails 165 = .ok (.iload 4, 2) := by decide +kernel
theorem dX7_tails_167 : decode cX7_tails 167 = .ok (.imul, 1) := by decide +kernel
theorem dX7_tails_168 : decode cX7_tails 168 = .ok (.iload_n 2, 1) := by decide +kernel
theorem dX7_tails_169 : decode cX7_tails 169 = .ok (.iadd, 1) := by decide +kernel
theorem dX7_tails_170 : decode cX7_tails 170 = .ok (.iaload, 1) := by decide +kernel
theorem dX7_tails_171 : decode cX7_tails 171 = .ok (.if_icmp .ne 7, 3) := by decide +kernel
theorem dX7_tails_174 : decode cX7_tails 174 = .ok (.iconst 1, 1) := by decide +kernel
theorem dX7_tails_175 : decode cX7_tails 175 = .ok (.goto 4, 3) := by decide +kernel
theorem dX7_tails_178 : decode cX7_tails 178 = .ok (.iconst 0, 1) := by decide +kernel
theorem dX7_tails_179 : decode cX7_tails 179 = .ok (.istore 7, 2) := by decide +kernel
theorem dX7_tails_181 : decode cX7_tails 181 = .ok (.iload 7, 2) := by decide +kernel
theorem dX7_tails_183 : decode cX7_tails 183 = .ok (.ifCond .eq 8, 3) := by decide +kernel
theorem dX7_tails_186 : decode cX7_tails 186 = .ok (.iload 6, 2) := by decide +kernel
theorem dX7_tails_188 : decode cX7_tails 188 = .ok (.goto 4, 3) := by decide +kernel
theorem dX7_tails_191 : decode cX7_tails 191 = .ok (.iload_n 3, 1) := by decide +kernel
theorem dX7_tails_192 : decode cX7_tails 192 = .ok (.istore_n 3, 1) := by decide +kernel
theorem dX7_tails_193 : decode cX7_tails 193 = .ok (.iinc 6 (-1), 3) := by decide +kernel
theorem dX7_tails_196 : decode cX7_tails 196 = .ok (.goto (-104), 3) := by decide +kernel
theorem dX7_tails_199 : decode cX7_tails 199 = .ok (.iload_n 2, 1) := by decide +kernel
theorem dX7_tails_200 : decode cX7_tails 200 = .ok (.iload_n 3, 1) := by decide +kernel
theorem dX7_tails_201 : decode cX7_tails 201 = .ok (.ifCond .ge 7, 3) := by decide +kernel
theorem dX7_tails_204 : decode cX7_tails 204 = .ok (.iconst 0, 1) := by decide +kernel
theorem dX7_tails_205 : decode cX7_tails 205 = .ok (.goto 6, 3) := by decide +kernel
theorem dX7_tails_208 : decode cX7_tails 208 = .ok (.iconst 1, 1) := by decide +kernel
theorem dX7_tails_209 : decode cX7_tails 209 = .ok (.iload_n 3, 1) := by decide +kernel
theorem dX7_tails_210 : decode cX7_tails 210 = .ok (.ishl, 1) := by decide +kernel
theorem dX7_tails_211 : decode cX7_tails 211 = .ok (.ior, 1) := by decide +kernel
theorem dX7_tails_212 : decode cX7_tails 212 = .ok (.istore_n 2, 1) := by decide +kernel
theorem dX7_tails_213 : decode cX7_tails 213 = .ok (.iinc 4 1, 3) := by decide +kernel
theorem dX7_tails_216 : decode cX7_tails 216 = .ok (.goto (-178), 3) := by decide +kernel
theorem dX7_tails_219 : decode cX7_tails 219 = .ok (.iload_n 3, 1) := by decide +kernel
theorem dX7_tails_220 : decode cX7_tails 220 = .ok (.ireturn, 1) := by decide +kernel
theorem dX7_canGive_0 : decode cX7_canGive 0 = .ok (.aload_n 0, 1) := by decide +kernel
theorem dX7_canGive_1 : decode cX7_canGive 1 = .ok (.iload_n 1, 1) := by decide +kernel
theorem dX7_canGive_2 : decode cX7_canGive 2 = .ok (.invokevirtual 177, 3) := by decide +kernel
theorem dX7_canGive_5 : decode cX7_canGive 5 = .ok (.iload_n 2, 1) := by decide +kernel
theorem dX7_canGive_6 : decode cX7_canGive 6 = .ok (.isub, 1) := by decide +kernel
theorem dX7_canGive_7 : decode cX7_canGive 7 = .ok (.istore_n 3, 1) := by decide +kernel
theorem dX7_canGive_8 : decode cX7_canGive 8 = .ok (.iload_n 3, 1) := by decide +kernel
theorem dX7_canGive_9 : decode cX7_canGive 9 = .ok (.ifCond .ge 7, 3) := by decide +kernel
theorem dX7_canGive_12 : decode cX7_canGive 12 = .ok (.iconst 0, 1) := by decide +kernel
theorem dX7_canGive_13 : decode cX7_canGive 13 = .ok (.goto 20, 3) := by decide +kernel
theorem dX7_canGive_16 : decode cX7_canGive 16 = .ok (.aload_n 0, 1) := by decide +kernel
theorem dX7_canGive_17 : decode cX7_canGive 17 = .ok (.getfield 7, 3) := by decide +kernel
theorem dX7_canGive_20 : decode cX7_canGive 20 = .ok (.iload_n 1, 1) := by decide +kernel
theorem dX7_canGive_21 : decode cX7_canGive 21 = .ok (.iaload, 1) := by decide +kernel
theorem dX7_canGive_22 : decode cX7_canGive 22 = .ok (.iconst 1, 1) := by decide +kernel
theorem dX7_canGive_23 : decode cX7_canGive 23 = .ok (.if_icmp .ne 9, 3) := by decide +kernel
theorem dX7_canGive_26 : decode cX7_canGive 26 = .ok (.iload_n 3, 1) := by decide +kernel
theorem dX7_canGive_27 : decode cX7_canGive 27 = .ok (.iconst 2, 1) := by decide +kernel
theorem dX7_canGive_28 : decode cX7_canGive 28 = .ok (.idiv, 1) := by decide +kernel
theorem dX7_canGive_29 : decode cX7_canGive 29 = .ok (.goto 4, 3) := by decide +kernel
theorem dX7_canGive_32 : decode cX7_canGive 32 = .ok (.iload_n 3, 1) := by decide +kernel
theorem dX7_canGive_33 : decode cX7_canGive 33 = .ok (.ireturn, 1) := by decide +kernel
theorem dX7_given_0 : decode cX7_given 0 = .ok (.aload_n 0, 1) := by decide +kernel
theorem dX7_given_1 : decode cX7_given 1 = .ok (.iload_n 1, 1) := by decide +kernel
theorem dX7_given_2 : decode cX7_given 2 = .ok (.invokevirtual 172, 3) := by decide +kernel
theorem dX7_given_5 : decode cX7_given 5 = .ok (.ifCond .ne 6, 3) := by decide +kernel
theorem dX7_given_8 : decode cX7_given 8 = .ok (.bipush (-2), 2) := by decide +kernel
theorem dX7_given_10 : decode cX7_given 10 = .ok (.ireturn, 1) := by decide +kernel
theorem dX7_given_11 : decode cX7_given 11 = .ok (.iload_n 2, 1) := by decide +kernel
theorem dX7_given_12 : decode cX7_given 12 = .ok (.i2l, 1) := by decide +kernel
theorem dX7_given_13 : decode cX7_given 13 = .ok (.lconst 1, 1) := by decide +kernel
theorem dX7_given_14 : decode cX7_given 14 = .ok (.ldc2_w 209, 3) := by decide +kernel
theorem dX7_given_17 : decode cX7_given 17 = .ok (.invokestatic 78, 3) := by decide +kernel
theorem dX7_given_20 : decode cX7_given 20 = .ok (.ifCond .eq 15, 3) := by decide +kernel
theorem dX7_given_23 : decode cX7_given 23 = .ok (.iload_n 3, 1) := by decide +kernel
theorem dX7_given_24 : decode cX7_given 24 = .ok (.i2l, 1) := by decide +kernel
theorem dX7_given_25 : decode cX7_given 25 = .ok (.lconst 0, 1) := by decide +kernel
theorem dX7_given_26 : decode cX7_given 26 = .ok (.ldc2_w 209, 3) := by decide +kernel
theorem dX7_given_29 : decode cX7_given 29 = .ok (.invokestatic 78, 3) := by decide +kernel
theorem dX7_given_32 : decode cX7_given 32 = .ok (.ifCond .ne 6, 3) := by decide +kernel
theorem dX7_given_35 : decode cX7_given 35 = .ok (.bipush (-3), 2) := by decide +kernel
theorem dX7_given_37 : decode cX7_given 37 = .ok (.ireturn, 1) := by decide +kernel
theorem dX7_given_38 : decode cX7_given 38 = .ok (.aload_n 0, 1) := by decide +kernel
theorem dX7_given_39 : decode cX7_given 39 = .ok (.iload_n 1, 1) := by decide +kernel
theorem dX7_given_40 : decode cX7_given 40 = .ok (.invokevirtual 169, 3) := by decide +kernel
theorem dX7_given_43 : decode cX7_given 43 = .ok (.ifCond .ne 6, 3) := by decide +kernel
theorem dX7_given_46 : decode cX7_given 46 = .ok (.bipush (-4), 2) := by decide +kernel
theorem dX7_given_48 : decode cX7_given 48 = .ok (.ireturn, 1) := by decide +kernel
theorem dX7_given_49 : decode cX7_given 49 = .ok (.iconst 0, 1) := by decide +kernel
theorem dX7_given_50 : decode cX7_given 50 = .ok (.istore 4, 2) := by decide +kernel
theorem dX7_given_52 : decode cX7_given 52 = .ok (.iconst 0, 1) := by decide +kernel
theorem dX7_given_53 : decode cX7_given 53 = .ok (.istore 5, 2) := by decide +kernel
theorem dX7_given_55 : decode cX7_given 55 = .ok (.iconst (-1), 1) := by decide +kernel
theorem dX7_given_56 : decode cX7_given 56 = .ok (.istore 6, 2) := by decide +kernel
theorem dX7_given_58 : decode cX7_given 58 = .ok (.iconst 0, 1) := by decide +kernel
theorem dX7_given_59 : decode cX7_given 59 = .ok (.istore 7, 2) := by decide +kernel
theorem dX7_given_61 : decode cX7_given 61 = .ok (.iload 7, 2) := by decide +kernel
theorem dX7_given_63 : decode cX7_given 63 = .ok (.aload_n 0, 1) := by decide +kernel
theorem dX7_given_64 : decode cX7_given 64 = .ok (.getfield 74, 3) := by decide +kernel
theorem dX7_given_67 : decode cX7_given 67 = .ok (.if_icmp .ge 94, 3) := by decide +kernel
theorem dX7_given_70 : decode cX7_given 70 = .ok (.iload 7, 2) := by decide +kernel
theorem dX7_given_72 : decode cX7_given 72 = .ok (.iload_n 1, 1) := by decide +kernel
theorem dX7_given_73 : decode cX7_given 73 = .ok (.if_icmp .eq 82, 3) := by decide +kernel
theorem dX7_given_76 : decode cX7_given 76 = .ok (.aload_n 0, 1) := by decide +kernel
theorem dX7_given_77 : decode cX7_given 77 = .ok (.iload 7, 2) := by decide +kernel
theorem dX7_given_79 : decode cX7_given 79 = .ok (.invokevirtual 169, 3) := by decide +kernel
theorem dX7_given_82 : decode cX7_given 82 = .ok (.ifCond .eq 73, 3) := by decide +kernel
theorem dX7_given_85 : decode cX7_given 85 = .ok (.aload_n 0, 1) := by decide +kernel
theorem dX7_given_86 : decode cX7_given 86 = .ok (.getfield 7, 3) := by decide +kernel
theorem dX7_given_89 : decode cX7_given 89 = .ok (.iload 7, 2) := by decide +kernel
theorem dX7_given_91 : decode cX7_given 91 = .ok (.iaload, 1) := by decide +kernel
theorem dX7_given_92 : decode cX7_given 92 = .ok (.iconst 3, 1) := by decide +kernel
theorem dX7_given_93 : decode cX7_given 93 = .ok (.if_icmp .eq 62, 3) := by decide +kernel
theorem dX7_given_96 : decode cX7_given 96 = .ok (.iload 4, 2) := by decide +kernel
theorem dX7_given_98 : decode cX7_given 98 = .ok (.aload_n 0, 1) := by decide +kernel
theorem dX7_given_99 : decode cX7_given 99 = .ok (.iload 7, 2) := by decide +kernel
theorem dX7_given_101 : decode cX7_given 101 = .ok (.iload_n 3, 1) := by decide +kernel
theorem dX7_given_102 : decode cX7_given 102 = .ok (.invokevirtual 241, 3) := by decide +kernel
theorem dX7_given_105 : decode cX7_given 105 = .ok (.iadd, 1) := by decide +kernel
theorem dX7_given_106 : decode cX7_given 106 = .ok (.istore 4, 2) := by decide +kernel
theorem dX7_given_108 : decode cX7_given 108 = .ok (.aload_n 0, 1) := by decide +kernel
theorem dX7_given_109 : decode cX7_given 109 = .ok (.iload 7, 2) := by decide +kernel
theorem dX7_given_111 : decode cX7_given 111 = .ok (.iload_n 3, 1) := by decide +kernel
theorem dX7_given_112 : decode cX7_given 112 = .ok (.invokevirtual 241, 3) := by decide +kernel
theorem dX7_given_115 : decode cX7_given 115 = .ok (.iload 5, 2) := by decide +kernel
theorem dX7_given_117 : decode cX7_given 117 = .ok (.if_icmp .le 8, 3) := by decide +kernel
theorem dX7_given_120 : decode cX7_given 120 = .ok (.iload 7, 2) := by decide +kernel
theorem dX7_given_122 : decode cX7_given 122 = .ok (.goto 5, 3) := by decide +kernel
theorem dX7_given_125 : decode cX7_given 125 = .ok (.iload 6, 2) := by decide +kernel
theorem dX7_given_127 : decode cX7_given 127 = .ok (.istore 6, 2) := by decide +kernel
theorem dX7_given_129 : decode cX7_given 129 = .ok (.aload_n 0, 1) := by decide +kernel
theorem dX7_given_130 : decode cX7_given 130 = .ok (.iload 7, 2) := by decide +kernel
theorem dX7_given_132 : decode cX7_given 132 = .ok (.iload_n 3, 1) := by decide +kernel
theorem dX7_given_133 : decode cX7_given 133 = .ok (.invokevirtual 241, 3) := by decide +kernel
theorem dX7_given_136 : decode cX7_given 136 = .ok (.iload 5, 2) := by decide +kernel
theorem dX7_given_138 : decode cX7_given 138 = .ok (.if_icmp .le 13, 3) := by decide +kernel
theorem dX7_given_141 : decode cX7_given 141 = .ok (.aload_n 0, 1) := by decide +kernel
theorem dX7_given_142 : decode cX7_given 142 = .ok (.iload 7, 2) := by decide +kernel
theorem dX7_given_144 : decode cX7_given 144 = .ok (.iload_n 3, 1) := by decide +kernel
theorem dX7_given_145 : decode cX7_given 145 = .ok (.invokevirtual 241, 3) := by decide +kernel
theorem dX7_given_148 : decode cX7_given 148 = .ok (.goto 5, 3) := by decide +kernel
theorem dX7_given_151 : decode cX7_given 151 = .ok (.iload 5, 2) := by decide +kernel
theorem dX7_given_153 : decode cX7_given 153 = .ok (.istore 5, 2) := by decide +kernel
theorem dX7_given_155 : decode cX7_given 155 = .ok (.iinc 7 1, 3) := by decide +kernel
theorem dX7_given_158 : decode cX7_given 158 = .ok (.goto (-97), 3) := by decide +kernel
theorem dX7_given_161 : decode cX7_given 161 = .ok (.iload 4, 2) := by decide +kernel
theorem dX7_given_163 : decode cX7_given 163 = .ok (.iload_n 2, 1) := by decide +kernel
theorem dX7_given_164 : decode cX7_given 164 = .ok (.if_icmp .lt 8, 3) := by decide +kernel
theorem dX7_given_167 : decode cX7_given 167 = .ok (.iload 6, 2) := by decide +kernel
theorem dX7_given_169 : decode cX7_given 169 = .ok (.goto 4, 3) := by decide +kernel
theorem dX7_given_172 : decode cX7_given 172 = .ok (.iconst (-1), 1) := by decide +kernel
theorem dX7_given_173 : decode cX7_given 173 = .ok (.ireturn, 1) := by decide +kernel
theorem dX7_common_0 : decode cX7_common 0 = .ok (.iload_n 0, 1) := by decide +kernel
theorem dX7_common_1 : decode cX7_common 1 = .ok (.istore_n 2, 1) := by decide +kernel
theorem dX7_common_2 : decode cX7_common 2 = .ok (.iload_n 1, 1) := by decide +kernel
theorem dX7_common_3 : decode cX7_common 3 = .ok (.istore_n 3, 1) := by decide +kernel
theorem dX7_common_4 : decode cX7_common 4 = .ok (.iload_n 3, 1) := by decide +kernel
theorem dX7_common_5 : decode cX7_common 5 = .ok (.ifCond .eq 16, 3) := by decide +kernel
theorem dX7_common_8 : decode cX7_common 8 = .ok (.iload_n 2, 1) := by decide +kernel
theorem dX7_common_9 : decode cX7_common 9 = .ok (.iload_n 3, 1) := by decide +kernel
theorem dX7_common_10 : decode cX7_common 10 = .ok (.irem, 1) := by decide +kernel
theorem dX7_common_11 : decode cX7_common 11 = .ok (.istore 4, 2) := by decide +kernel
theorem dX7_common_13 : decode cX7_common 13 = .ok (.iload_n 3, 1) := by decide +kernel
theorem dX7_common_14 : decode cX7_common 14 = .ok (.istore_n 2, 1) := by decide +kernel
theorem dX7_common_15 : decode cX7_common 15 = .ok (.iload 4, 2) := by decide +kernel
theorem dX7_common_17 : decode cX7_common 17 = .ok (.istore_n 3, 1) := by decide +kernel
theorem dX7_common_18 : decode cX7_common 18 = .ok (.goto (-14), 3) := by decide +kernel
theorem dX7_common_21 : decode cX7_common 21 = .ok (.iload_n 2, 1) := by decide +kernel
theorem dX7_common_22 : decode cX7_common 22 = .ok (.ireturn, 1) := by decide +kernel
theorem dX7_part_0 : decode cX7_part 0 = .ok (.iload_n 0, 1) := by decide +kernel
theorem dX7_part_1 : decode cX7_part 1 = .ok (.iload_n 1, 1) := by decide +kernel
theorem dX7_part_2 : decode cX7_part 2 = .ok (.invokestatic 244, 3) := by decide +kernel
theorem dX7_part_5 : decode cX7_part 5 = .ok (.istore_n 3, 1) := by decide +kernel
theorem dX7_part_6 : decode cX7_part 6 = .ok (.iload_n 2, 1) := by decide +kernel
theorem dX7_part_7 : decode cX7_part 7 = .ok (.ifCond .ne 9, 3) := by decide +kernel
theorem dX7_part_10 : decode cX7_part 10 = .ok (.iload_n 0, 1) := by decide +kernel
theorem dX7_part_11 : decode cX7_part 11 = .ok (.iload_n 3, 1) := by decide +kernel
theorem dX7_part_12 : decode cX7_part 12 = .ok (.idiv, 1) := by decide +kernel
theorem dX7_part_13 : decode cX7_part 13 = .ok (.goto 6, 3) := by decide +kernel
theorem dX7_part_16 : decode cX7_part 16 = .ok (.iload_n 1, 1) := by decide +kernel
theorem dX7_part_17 : decode cX7_part 17 = .ok (.iload_n 3, 1) := by decide +kernel
theorem dX7_part_18 : decode cX7_part 18 = .ok (.idiv, 1) := by decide +kernel
theorem dX7_part_19 : decode cX7_part 19 = .ok (.ireturn, 1) := by decide +kernel
theorem dX7_cat_0 : decode cX7_cat 0 = .ok (.aload_n 0, 1) := by decide +kernel
theorem dX7_cat_1 : decode cX7_cat 1 = .ok (.iload_n 1, 1) := by decide +kernel
theorem dX7_cat_2 : decode cX7_cat 2 = .ok (.invokevirtual 172, 3) := by decide +kernel
theorem dX7_cat_5 : decode cX7_cat 5 = .ok (.ifCond .ne 6, 3) := by decide +kernel
theorem dX7_cat_8 : decode cX7_cat 8 = .ok (.bipush (-2), 2) := by decide +kernel
theorem dX7_cat_10 : decode cX7_cat 10 = .ok (.ireturn, 1) := by decide +kernel
theorem dX7_cat_11 : decode cX7_cat 11 = .ok (.iload_n 2, 1) := by decide +kernel
theorem dX7_cat_12 : decode cX7_cat 12 = .ok (.i2l, 1) := by decide +kernel
theorem dX7_cat_13 : decode cX7_cat 13 = .ok (.lconst 0, 1) := by decide +kernel
theorem dX7_cat_14 : decode cX7_cat 14 = .ok (.lconst 1, 1) := by decide +kernel
theorem dX7_cat_15 : decode cX7_cat 15 = .ok (.invokestatic 78, 3) := by decide +kernel
theorem dX7_cat_18 : decode cX7_cat 18 = .ok (.ifCond .ne 6, 3) := by decide +kernel
theorem dX7_cat_21 : decode cX7_cat 21 = .ok (.bipush (-3), 2) := by decide +kernel
theorem dX7_cat_23 : decode cX7_cat 23 = .ok (.ireturn, 1) := by decide +kernel
theorem dX7_cat_24 : decode cX7_cat 24 = .ok (.aload_n 0, 1) := by decide +kernel
theorem dX7_cat_25 : decode cX7_cat 25 = .ok (.invokevirtual 180, 3) := by decide +kernel
theorem dX7_cat_28 : decode cX7_cat 28 = .ok (.ifCond .ne 6, 3) := by decide +kernel
theorem dX7_cat_31 : decode cX7_cat 31 = .ok (.bipush (-4), 2) := by decide +kernel
theorem dX7_cat_33 : decode cX7_cat 33 = .ok (.ireturn, 1) := by decide +kernel
theorem dX7_cat_34 : decode cX7_cat 34 = .ok (.iconst 0, 1) := by decide +kernel
theorem dX7_cat_35 : decode cX7_cat 35 = .ok (.istore_n 3, 1) := by decide +kernel
theorem dX7_cat_36 : decode cX7_cat 36 = .ok (.iconst 0, 1) := by decide +kernel
theorem dX7_cat_37 : decode cX7_cat 37 = .ok (.istore 4, 2) := by decide +kernel
theorem dX7_cat_39 : decode cX7_cat 39 = .ok (.iload 4, 2) := by decide +kernel
theorem dX7_cat_41 : decode cX7_cat 41 = .ok (.aload_n 0, 1) := by decide +kernel
theorem dX7_cat_42 : decode cX7_cat 42 = .ok (.getfield 74, 3) := by decide +kernel
theorem dX7_cat_45 : decode cX7_cat 45 = .ok (.if_icmp .ge 30, 3) := by decide +kernel
theorem dX7_cat_48 : decode cX7_cat 48 = .ok (.iload_n 3, 1) := by decide +kernel
theorem dX7_cat_49 : decode cX7_cat 49 = .ok (.aload_n 0, 1) := by decide +kernel
theorem dX7_cat_50 : decode cX7_cat 50 = .ok (.iload 4, 2) := by decide +kernel
theorem dX7_cat_52 : decode cX7_cat 52 = .ok (.invokevirtual 186, 3) := by decide +kernel
theorem dX7_cat_55 : decode cX7_cat 55 = .ok (.iload_n 1, 1) := by decide +kernel
theorem dX7_cat_56 : decode cX7_cat 56 = .ok (.invokestatic 124, 3) := by decide +kernel
theorem dX7_cat_59 : decode cX7_cat 59 = .ok (.ifCond .eq 7, 3) := by decide +kernel
theorem dX7_cat_62 : decode cX7_cat 62 = .ok (.iconst 1, 1) := by decide +kernel
theorem dX7_cat_63 : decode cX7_cat 63 = .ok (.goto 4, 3) := by decide +kernel
theorem dX7_cat_66 : decode cX7_cat 66 = .ok (.iconst 0, 1) := by decide +kernel
theorem dX7_cat_67 : decode cX7_cat 67 = .ok (.iadd, 1) := by decide +kernel
theorem dX7_cat_68 : decode cX7_cat 68 = .ok (.istore_n 3, 1) := by decide +kernel
theorem dX7_cat_69 : decode cX7_cat 69 = .ok (.iinc 4 1, 3) := by decide +kernel
theorem dX7_cat_72 : decode cX7_cat 72 = .ok (.goto (-33), 3) := by decide +kernel
theorem dX7_cat_75 : decode cX7_cat 75 = .ok (.iload_n 3, 1) := by decide +kernel
theorem dX7_cat_76 : decode cX7_cat 76 = .ok (.aload_n 0, 1) := by decide +kernel
theorem dX7_cat_77 : decode cX7_cat 77 = .ok (.invokevirtual 180, 3) := by decide +kernel
theorem dX7_cat_80 : decode cX7_cat 80 = .ok (.invokestatic 198, 3) := by decide +kernel
theorem dX7_cat_83 : decode cX7_cat 83 = .ok (.iload_n 2, 1) := by decide +kernel
theorem dX7_cat_84 : decode cX7_cat 84 = .ok (.invokestatic 247, 3) := by decide +kernel
theorem dX7_cat_87 : decode cX7_cat 87 = .ok (.ireturn, 1) := by decide +kernel
theorem dX7_mean_0 : decode cX7_mean 0 = .ok (.iload_n 1, 1) := by decide +kernel
theorem dX7_mean_1 : decode cX7_mean 1 = .ok (.i2l, 1) := by decide +kernel
theorem dX7_mean_2 : decode cX7_mean 2 = .ok (.lconst 0, 1) := by decide +kernel
theorem dX7_mean_3 : decode cX7_mean 3 = .ok (.lconst 1, 1) := by decide +kernel
theorem dX7_mean_4 : decode cX7_mean 4 = .ok (.invokestatic 78, 3) := by decide +kernel
theorem dX7_mean_7 : decode cX7_mean 7 = .ok (.ifCond .ne 6, 3) := by decide +kernel
theorem dX7_mean_10 : decode cX7_mean 10 = .ok (.bipush (-3), 2) := by decide +kernel
theorem dX7_mean_12 : decode cX7_mean 12 = .ok (.ireturn, 1) := by decide +kernel
theorem dX7_mean_13 : decode cX7_mean 13 = .ok (.aload_n 0, 1) := by decide +kernel
theorem dX7_mean_14 : decode cX7_mean 14 = .ok (.invokevirtual 180, 3) := by decide +kernel
theorem dX7_mean_17 : decode cX7_mean 17 = .ok (.ifCond .ne 6, 3) := by decide +kernel
theorem dX7_mean_20 : decode cX7_mean 20 = .ok (.bipush (-4), 2) := by decide +kernel
theorem dX7_mean_22 : decode cX7_mean 22 = .ok (.ireturn, 1) := by decide +kernel
theorem dX7_mean_23 : decode cX7_mean 23 = .ok (.iconst 0, 1) := by decide +kernel
theorem dX7_mean_24 : decode cX7_mean 24 = .ok (.istore_n 2, 1) := by decide +kernel
theorem dX7_mean_25 : decode cX7_mean 25 = .ok (.iconst 0, 1) := by decide +kernel
theorem dX7_mean_26 : decode cX7_mean 26 = .ok (.istore_n 3, 1) := by decide +kernel
theorem dX7_mean_27 : decode cX7_mean 27 = .ok (.iload_n 3, 1) := by decide +kernel
theorem dX7_mean_28 : decode cX7_mean 28 = .ok (.aload_n 0, 1) := by decide +kernel
theorem dX7_mean_29 : decode cX7_mean 29 = .ok (.getfield 74, 3) := by decide +kernel
theorem dX7_mean_32 : decode cX7_mean 32 = .ok (.if_icmp .ge 21, 3) := by decide +kernel
theorem dX7_mean_35 : decode cX7_mean 35 = .ok (.iload_n 2, 1) := by decide +kernel
theorem dX7_mean_36 : decode cX7_mean 36 = .ok (.aload_n 0, 1) := by decide +kernel
theorem dX7_mean_37 : decode cX7_mean 37 = .ok (.aload_n 0, 1) := by decide +kernel
theorem dX7_mean_38 : decode cX7_mean 38 = .ok (.iload_n 3, 1) := by decide +kernel
theorem dX7_mean_39 : decode cX7_mean 39 = .ok (.invokevirtual 186, 3) := by decide +kernel
theorem dX7_mean_42 : decode cX7_mean 42 = .ok (.invokevirtual 189, 3) := by decide +kernel
theorem dX7_mean_45 : decode cX7_mean 45 = .ok (.iadd, 1) := by decide +kernel
theorem dX7_mean_46 : decode cX7_mean 46 = .ok (.istore_n 2, 1) := by decide +kernel
theorem dX7_mean_47 : decode cX7_mean 47 = .ok (.iinc 3 1, 3) := by decide +kernel
theorem dX7_mean_50 : decode cX7_mean 50 = .ok (.goto (-23), 3) := by decide +kernel
theorem dX7_mean_53 : decode cX7_mean 53 = .ok (.iload_n 2, 1) := by decide +kernel
theorem dX7_mean_54 : decode cX7_mean 54 = .ok (.aload_n 0, 1) := by decide +kernel
theorem dX7_mean_55 : decode cX7_mean 55 = .ok (.invokevirtual 180, 3) := by decide +kernel
theorem dX7_mean_58 : decode cX7_mean 58 = .ok (.invokestatic 198, 3) := by decide +kernel
theorem dX7_mean_61 : decode cX7_mean 61 = .ok (.iload_n 1, 1) := by decide +kernel
theorem dX7_mean_62 : decode cX7_mean 62 = .ok (.invokestatic 247, 3) := by decide +kernel
theorem dX7_mean_65 : decode cX7_mean 65 = .ok (.ireturn, 1) := by decide +kernel
theorem dX7_whose_0 : decode cX7_whose 0 = .ok (.iload_n 1, 1) := by decide +kernel
theorem dX7_whose_1 : decode cX7_whose 1 = .ok (.i2l, 1) := by decide +kernel
theorem dX7_whose_2 : decode cX7_whose 2 = .ok (.lconst 0, 1) := by decide +kernel
theorem dX7_whose_3 : decode cX7_whose 3 = .ok (.iconst 1, 1) := by decide +kernel
theorem dX7_whose_4 : decode cX7_whose 4 = .ok (.aload_n 0, 1) := by decide +kernel
theorem dX7_whose_5 : decode cX7_whose 5 = .ok (.getfield 74, 3) := by decide +kernel
theorem dX7_whose_8 : decode cX7_whose 8 = .ok (.ishl, 1) := by decide +kernel
theorem dX7_whose_9 : decode cX7_whose 9 = .ok (.iconst 1, 1) := by decide +kernel
theorem dX7_whose_10 : decode cX7_whose 10 = .ok (.isub, 1) := by decide +kernel
theorem dX7_whose_11 : decode cX7_whose 11 = .ok (.i2l, 1) := by decide +kernel
theorem dX7_whose_12 : decode cX7_whose 12 = .ok (.invokestatic 78, 3) := by decide +kernel
theorem dX7_whose_15 : decode cX7_whose 15 = .ok (.ifCond .ne 6, 3) := by decide +kernel
theorem dX7_whose_18 : decode cX7_whose 18 = .ok (.bipush (-2), 2) := by decide +kernel
theorem dX7_whose_20 : decode cX7_whose 20 = .ok (.ireturn, 1) := by decide +kernel
theorem dX7_whose_21 : decode cX7_whose 21 = .ok (.iconst 0, 1) := by decide +kernel
theorem dX7_whose_22 : decode cX7_whose 22 = .ok (.istore_n 2, 1) := by decide +kernel
theorem dX7_whose_23 : decode cX7_whose 23 = .ok (.iconst 0, 1) := by decide +kernel
theorem dX7_whose_24 : decode cX7_whose 24 = .ok (.istore_n 3, 1) := by decide +kernel
theorem dX7_whose_25 : decode cX7_whose 25 = .ok (.iload_n 3, 1) := by decide +kernel
theorem dX7_whose_26 : decode cX7_whose 26 = .ok (.aload_n 0, 1) := by decide +kernel
theorem dX7_whose_27 : decode cX7_whose 27 = .ok (.getfield 74, 3) := by decide +kernel
theorem dX7_whose_30 : decode cX7_whose 30 = .ok (.if_icmp .ge 28, 3) := by decide +kernel
theorem dX7_whose_33 : decode cX7_whose 33 = .ok (.iload_n 2, 1) := by decide +kernel
theorem dX7_whose_34 : decode cX7_whose 34 = .ok (.aload_n 0, 1) := by decide +kernel
theorem dX7_whose_35 : decode cX7_whose 35 = .ok (.iload_n 3, 1) := by decide +kernel
theorem dX7_whose_36 : decode cX7_whose 36 = .ok (.invokevirtual 186, 3) := by decide +kernel
theorem dX7_whose_39 : decode cX7_whose 39 = .ok (.iload_n 1, 1) := by decide +kernel
theorem dX7_whose_40 : decode cX7_whose 40 = .ok (.if_icmp .ne 9, 3) := by decide +kernel
theorem dX7_whose_43 : decode cX7_whose 43 = .ok (.iconst 1, 1) := by decide +kernel
theorem dX7_whose_44 : decode cX7_whose 44 = .ok (.iload_n 3, 1) := by decide +kernel
theorem dX7_whose_45 : decode cX7_whose 45 = .ok (.ishl, 1) := by decide +kernel
theorem dX7_whose_46 : decode cX7_whose 46 = .ok (.goto 4, 3) := by decide +kernel
theorem dX7_whose_49 : decode cX7_whose 49 = .ok (.iconst 0, 1) := by decide +kernel
theorem dX7_whose_50 : decode cX7_whose 50 = .ok (.ior, 1) := by decide +kernel
theorem dX7_whose_51 : decode cX7_whose 51 = .ok (.istore_n 2, 1) := by decide +kernel
theorem dX7_whose_52 : decode cX7_whose 52 = .ok (.iinc 3 1, 3) := by decide +kernel
theorem dX7_whose_55 : decode cX7_whose 55 = .ok (.goto (-30), 3) := by decide +kernel
theorem dX7_whose_58 : decode cX7_whose 58 = .ok (.iload_n 2, 1) := by decide +kernel
theorem dX7_whose_59 : decode cX7_whose 59 = .ok (.ireturn, 1) := by decide +kernel
theorem dX7_fourth_0 : decode cX7_fourth 0 = .ok (.iload_n 1, 1) := by decide +kernel
theorem dX7_fourth_1 : decode cX7_fourth 1 = .ok (.i2l, 1) := by decide +kernel
theorem dX7_fourth_2 : decode cX7_fourth 2 = .ok (.lconst 0, 1) := by decide +kernel
theorem dX7_fourth_3 : decode cX7_fourth 3 = .ok (.lconst 1, 1) := by decide +kernel
theorem dX7_fourth_4 : decode cX7_fourth 4 = .ok (.invokestatic 78, 3) := by decide +kernel
theorem dX7_fourth_7 : decode cX7_fourth 7 = .ok (.ifCond .ne 6, 3) := by decide +kernel
theorem dX7_fourth_10 : decode cX7_fourth 10 = .ok (.bipush (-3), 2) := by decide +kernel
theorem dX7_fourth_12 : decode cX7_fourth 12 = .ok (.ireturn, 1) := by decide +kernel
theorem dX7_fourth_13 : decode cX7_fourth 13 = .ok (.iconst (-1), 1) := by decide +kernel
theorem dX7_fourth_14 : decode cX7_fourth 14 = .ok (.istore_n 2, 1) := by decide +kernel
theorem dX7_fourth_15 : decode cX7_fourth 15 = .ok (.iconst (-1), 1) := by decide +kernel
theorem dX7_fourth_16 : decode cX7_fourth 16 = .ok (.istore_n 3, 1) := by decide +kernel
theorem dX7_fourth_17 : decode cX7_fourth 17 = .ok (.iconst 0, 1) := by decide +kernel
theorem dX7_fourth_18 : decode cX7_fourth 18 = .ok (.istore 4, 2) := by decide +kernel
theorem dX7_fourth_20 : decode cX7_fourth 20 = .ok (.iload 4, 2) := by decide +kernel
theorem dX7_fourth_22 : decode cX7_fourth 22 = .ok (.aload_n 0, 1) := by decide +kernel
theorem dX7_fourth_23 : decode cX7_fourth 23 = .ok (.getfield 74, 3) := by decide +kernel
theorem dX7_fourth_26 : decode cX7_fourth 26 = .ok (.if_icmp .ge 46, 3) := by decide +kernel
theorem dX7_fourth_29 : decode cX7_fourth 29 = .ok (.aload_n 0, 1) := by decide +kernel
theorem dX7_fourth_30 : decode cX7_fourth 30 = .ok (.iload 4, 2) := by decide +kernel
theorem dX7_fourth_32 : decode cX7_fourth 32 = .ok (.invokevirtual 186, 3) := by decide +kernel
theorem dX7_fourth_35 : decode cX7_fourth 35 = .ok (.istore 5, 2) := by decide +kernel
theorem dX7_fourth_37 : decode cX7_fourth 37 = .ok (.iload 5, 2) := by decide +kernel
theorem dX7_fourth_39 : decode cX7_fourth 39 = .ok (.ifCond .eq 27, 3) := by decide +kernel
theorem dX7_fourth_42 : decode cX7_fourth 42 = .ok (.iload_n 2, 1) := by decide +kernel
theorem dX7_fourth_43 : decode cX7_fourth 43 = .ok (.ifCond .lt 13, 3) := by decide +kernel
theorem dX7_fourth_46 : decode cX7_fourth 46 = .ok (.aload_n 0, 1) := by decide +kernel
theorem dX7_fourth_47 : decode cX7_fourth 47 = .ok (.iload 5, 2) := by decide +kernel
theorem dX7_fourth_49 : decode cX7_fourth 49 = .ok (.invokevirtual 189, 3) := by decide +kernel
theorem dX7_fourth_52 : decode cX7_fourth 52 = .ok (.iload_n 3, 1) := by decide +kernel
theorem dX7_fourth_53 : decode cX7_fourth 53 = .ok (.if_icmp .ge 13, 3) := by decide +kernel
theorem dX7_fourth_56 : decode cX7_fourth 56 = .ok (.iload 4, 2) := by decide +kernel
theorem dX7_fourth_58 : decode cX7_fourth 58 = .ok (.istore_n 2, 1) := by decide +kernel
theorem dX7_fourth_59 : decode cX7_fourth 59 = .ok (.aload_n 0, 1) := by decide +kernel
theorem dX7_fourth_60 : decode cX7_fourth 60 = .ok (.iload 5, 2) := by decide +kernel
theorem dX7_fourth_62 : decode cX7_fourth 62 = .ok (.invokevirtual 189, 3) := by decide +kernel
theorem dX7_fourth_65 : decode cX7_fourth 65 = .ok (.istore_n 3, 1) := by decide +kernel
theorem dX7_fourth_66 : decode cX7_fourth 66 = .ok (.iinc 4 1, 3) := by decide +kernel
theorem dX7_fourth_69 : decode cX7_fourth 69 = .ok (.goto (-49), 3) := by decide +kernel
theorem dX7_fourth_72 : decode cX7_fourth 72 = .ok (.iload_n 1, 1) := by decide +kernel
theorem dX7_fourth_73 : decode cX7_fourth 73 = .ok (.ifCond .ne 7, 3) := by decide +kernel
theorem dX7_fourth_76 : decode cX7_fourth 76 = .ok (.iload_n 2, 1) := by decide +kernel
theorem dX7_fourth_77 : decode cX7_fourth 77 = .ok (.goto 4, 3) := by decide +kernel
theorem dX7_fourth_80 : decode cX7_fourth 80 = .ok (.iload_n 3, 1) := by decide +kernel
theorem dX7_fourth_81 : decode cX7_fourth 81 = .ok (.ireturn, 1) := by decide +kernel
theorem dX7_count_0 : decode cX7_count 0 = .ok (.iconst 0, 1) := by decide +kernel
theorem dX7_count_1 : decode cX7_count 1 = .ok (.istore_n 2, 1) := by decide +kernel
theorem dX7_count_2 : decode cX7_count 2 = .ok (.iconst 0, 1) := by decide +kernel
theorem dX7_count_3 : decode cX7_count 3 = .ok (.istore_n 3, 1) := by decide +kernel
theorem dX7_count_4 : decode cX7_count 4 = .ok (.iconst 0, 1) := by decide +kernel
theorem dX7_count_5 : decode cX7_count 5 = .ok (.istore 4, 2) := by decide +kernel
theorem dX7_count_7 : decode cX7_count 7 = .ok (.iload 4, 2) := by decide +kernel
theorem dX7_count_9 : decode cX7_count 9 = .ok (.aload_n 0, 1) := by decide +kernel
theorem dX7_count_10 : decode cX7_count 10 = .ok (.getfield 74, 3) := by decide +kernel
theorem dX7_count_13 : decode cX7_count 13 = .ok (.if_icmp .ge 41, 3) := by decide +kernel
theorem dX7_count_16 : decode cX7_count 16 = .ok (.iload_n 2, 1) := by decide +kernel
theorem dX7_count_17 : decode cX7_count 17 = .ok (.aload_n 0, 1) := by decide +kernel
theorem dX7_count_18 : decode cX7_count 18 = .ok (.getfield 25, 3) := by decide +kernel
theorem dX7_count_21 : decode cX7_count 21 = .ok (.bipush 32, 2) := by decide +kernel
theorem dX7_count_23 : decode cX7_count 23 = .ok (.iload 4, 2) := by decide +kernel
theorem dX7_count_25 : decode cX7_count 25 = .ok (.iadd, 1) := by decide +kernel
theorem dX7_count_26 : decode cX7_count 26 = .ok (.iaload, 1) := by decide +kernel
theorem dX7_count_27 : decode cX7_count 27 = .ok (.invokestatic 198, 3) := by decide +kernel
theorem dX7_count_30 : decode cX7_count 30 = .ok (.iadd, 1) := by decide +kernel
theorem dX7_count_31 : decode cX7_count 31 = .ok (.istore_n 2, 1) := by decide +kernel
theorem dX7_count_32 : decode cX7_count 32 = .ok (.iload_n 3, 1) := by decide +kernel
theorem dX7_count_33 : decode cX7_count 33 = .ok (.aload_n 0, 1) := by decide +kernel
theorem dX7_count_34 : decode cX7_count 34 = .ok (.getfield 25, 3) := by decide +kernel
theorem dX7_count_37 : decode cX7_count 37 = .ok (.bipush 24, 2) := by decide +kernel
theorem dX7_count_39 : decode cX7_count 39 = .ok (.iload 4, 2) := by decide +kernel
theorem dX7_count_41 : decode cX7_count 41 = .ok (.iadd, 1) := by decide +kernel
theorem dX7_count_42 : decode cX7_count 42 = .ok (.iaload, 1) := by decide +kernel
theorem dX7_count_43 : decode cX7_count 43 = .ok (.invokestatic 198, 3) := by decide +kernel
theorem dX7_count_46 : decode cX7_count 46 = .ok (.iadd, 1) := by decide +kernel
theorem dX7_count_47 : decode cX7_count 47 = .ok (.istore_n 3, 1) := by decide +kernel
theorem dX7_count_48 : decode cX7_count 48 = .ok (.iinc 4 1, 3) := by decide +kernel
theorem dX7_count_51 : decode cX7_count 51 = .ok (.goto (-44), 3) := by decide +kernel
theorem dX7_count_54 : decode cX7_count 54 = .ok (.iload_n 1, 1) := by decide +kernel
theorem dX7_count_55 : decode cX7_count 55 = .ok (.tableswitch 96 0 8 #[49, 54, 59, 67, 72, 80, 84, 86, 91], 49) := by decide +kernel
theorem dX7_count_104 : decode cX7_count 104 = .ok (.aload_n 0, 1) := by decide +kernel
theorem dX7_count_105 : decode cX7_count 105 = .ok (.getfield 74, 3) := by decide +kernel
theorem dX7_count_108 : decode cX7_count 108 = .ok (.ireturn, 1) := by decide +kernel
theorem dX7_count_109 : decode cX7_count 109 = .ok (.aload_n 0, 1) := by decide +kernel
theorem dX7_count_110 : decode cX7_count 110 = .ok (.getfield 156, 3) := by decide +kernel
theorem dX7_count_113 : decode cX7_count 113 = .ok (.ireturn, 1) := by decide +kernel
theorem dX7_count_114 : decode cX7_count 114 = .ok (.aload_n 0, 1) := by decide +kernel
theorem dX7_count_115 : decode cX7_count 115 = .ok (.getfield 25, 3) := by decide +kernel
theorem dX7_count_118 : decode cX7_count 118 = .ok (.bipush 40, 2) := by decide +kernel
theorem dX7_count_120 : decode cX7_count 120 = .ok (.iaload, 1) := by decide +kernel
theorem dX7_count_121 : decode cX7_count 121 = .ok (.ireturn, 1) := by decide +kernel
theorem dX7_count_122 : decode cX7_count 122 = .ok (.aload_n 0, 1) := by decide +kernel
theorem dX7_count_123 : decode cX7_count 123 = .ok (.invokevirtual 180, 3) := by decide +kernel
theorem dX7_count_126 : decode cX7_count 126 = .ok (.ireturn, 1) := by decide +kernel
theorem dX7_count_127 : decode cX7_count 127 = .ok (.aload_n 0, 1) := by decide +kernel
theorem dX7_count_128 : decode cX7_count 128 = .ok (.getfield 25, 3) := by decide +kernel
theorem dX7_count_131 : decode cX7_count 131 = .ok (.bipush 41, 2) := by decide +kernel
theorem dX7_count_133 : decode cX7_count 133 = .ok (.iaload, 1) := by decide +kernel
theorem dX7_count_134 : decode cX7_count 134 = .ok (.ireturn, 1) := by decide +kernel
theorem dX7_count_135 : decode cX7_count 135 = .ok (.iload_n 2, 1) := by decide +kernel
theorem dX7_count_136 : decode cX7_count 136 = .ok (.iconst 2, 1) := by decide +kernel
theorem dX7_count_137 : decode cX7_count 137 = .ok (.idiv, 1) := by decide +kernel
theorem dX7_count_138 : decode cX7_count 138 = .ok (.ireturn, 1) := by decide +kernel
theorem dX7_count_139 : decode cX7_count 139 = .ok (.iload_n 3, 1) := by decide +kernel
theorem dX7_count_140 : decode cX7_count 140 = .ok (.ireturn, 1) := by decide +kernel
theorem dX7_count_141 : decode cX7_count 141 = .ok (.aload_n 0, 1) := by decide +kernel
theorem dX7_count_142 : decode cX7_count 142 = .ok (.getfield 166, 3) := by decide +kernel
theorem dX7_count_145 : decode cX7_count 145 = .ok (.ireturn, 1) := by decide +kernel
theorem dX7_count_146 : decode cX7_count 146 = .ok (.aload_n 0, 1) := by decide +kernel
theorem dX7_count_147 : decode cX7_count 147 = .ok (.getfield 84, 3) := by decide +kernel
theorem dX7_count_150 : decode cX7_count 150 = .ok (.ireturn, 1) := by decide +kernel
theorem dX7_count_151 : decode cX7_count 151 = .ok (.bipush (-3), 2) := by decide +kernel
theorem dX7_count_153 : decode cX7_count 153 = .ok (.ireturn, 1) := by decide +kernel
end
section
/-! THE ABSTRACT MACHINE. A memory M is a row of cells (int arrays, boolean arrays, arrays of looms, objects); a value's reference is a cell's place in M (1000 + i: the i-th text constant, 1100 + i: its bytes). V: from here the method comes to its end with Out. Con: a method's contract. -/
abbrev CC : Type := List Int32 ⊕ (List Int32 ⊕ (List (Option Nat) ⊕ (Nat × List Value)))
abbrev MM : Type := List CC
abbrev cI (l : List Int32) : CC := .inl l
abbrev cZ (l : List Int32) : CC := .inr (.inl l)
abbrev cR (l : List (Option Nat)) : CC := .inr (.inr (.inl l))
abbrev cO (t : Nat) (fs : List Value) : CC := .inr (.inr (.inr (t, fs)))
def tr (ad : Nat → Nat) (v : Value) : Value := match v with
  | .ref k => .ref (ad k)
  | w => w
def toE (ad : Nat → Nat) (cA : ClassId) (x : CC) : va_E := match x with
  | .inl l => .inl (cA, l.length, .inl (fun j => l.getD j 0))
  | .inr (.inl l) => .inl (cA, l.length, .inl (fun j => l.getD j 0))
  | .inr (.inr (.inl l)) => .inl (cA, l.length, .inr (.inr (.inr (.inr (fun j => (l.getD j none).map ad)))))
  | .inr (.inr (.inr (t, fs))) => .inr (t, fs.map (tr ad))
def tyE (x : CC) : Option FieldType := match x with
  | .inl _ => some .int
  | .inr (.inl _) => some .boolean
  | .inr (.inr (.inl _)) => some (.object "WhoseThread$Loom")
  | .inr (.inr (.inr _)) => none
def wsF (ad : Nat → Nat) (ca : Nat → ClassId) : Nat → MM → va_W
  | _, [] => []
  | k, x :: r => (ad k, toE ad (ca k) x) :: wsF ad ca (k + 1) r
theorem wsF_get (ad : Nat → Nat) (ca : Nat → ClassId) : ∀ (M : MM) (k i : Nat), (wsF ad ca k M)[i]? = M[i]?.map (fun x => (ad (k + i), toE ad (ca (k + i)) x)) := by
  intro M
  induction M with
  | nil => intro k i; simp [wsF]
  | cons x r ih =>
    intro k i
    cases i with
    | zero => simp [wsF]
    | succ i =>
      rw [wsF, List.getElem?_cons_succ, List.getElem?_cons_succ, ih, Nat.add_right_comm k 1 i, Nat.add_assoc k i 1]
theorem wsF_set (ad : Nat → Nat) (ca : Nat → ClassId) (x : CC) : ∀ (M : MM) (k i : Nat), (wsF ad ca k M).set i (ad (k + i), toE ad (ca (k + i)) x) = wsF ad ca k (M.set i x) := by
  intro M
  induction M with
  | nil => intro k i; simp [wsF]
  | cons y r ih =>
    intro k i
    cases i with
    | zero => simp [wsF]
    | succ i =>
      have h := ih (k + 1) i
      rw [Nat.add_right_comm k 1 i, Nat.add_assoc k i 1] at h
      rw [wsF, List.set_cons_succ, List.set_cons_succ, wsF, h]
theorem wsF_app (ad : Nat → Nat) (ca : Nat → ClassId) (x : CC) : ∀ (M : MM) (k : Nat), wsF ad ca k (M ++ [x]) = wsF ad ca k M ++ [(ad (k + M.length), toE ad (ca (k + M.length)) x)] := by
  intro M
  induction M with
  | nil => intro k; simp [wsF]
  | cons y r ih =>
    intro k
    rw [List.cons_append, wsF, ih (k + 1), wsF, List.cons_append, List.length_cons, Nat.add_right_comm k 1, Nat.add_assoc k r.length 1]
def okV (n : Nat) (v : Value) : Bool := match v with
  | .ref k => decide (k < n) || decide (1000 ≤ k)
  | _ => true
def okC (n : Nat) (x : CC) : Bool := match x with
  | .inr (.inr (.inl l)) => l.all (fun o => match o with
    | some k => decide (k < n)
    | none => true)
  | .inr (.inr (.inr (_, fs))) => fs.all (okV n)
  | _ => true
def okM (n : Nat) (M : MM) : Prop := ∀ x ∈ M, okC n x = true
/-- what addresses may become: old places keep theirs; nothing new, nothing else -/
def Ext (n0 : Nat) (ad0 : Nat → Nat) (n : Nat) (ad : Nat → Nat) : Prop := (∀ k, (k < n0 ∨ 1000 ≤ k) → ad k = ad0 k) ∧ (n = n0 → ad = ad0)
theorem Ext.rf {n : Nat} {ad : Nat → Nat} : Ext n ad n ad := ⟨fun _ _ => rfl, fun _ => rfl⟩
theorem Ext.trans {n0 n1 n2 : Nat} {a0 a1 a2 : Nat → Nat} (h : Ext n0 a0 n1 a1) (g : Ext n1 a1 n2 a2) (h1 : n0 ≤ n1) (h2 : n1 ≤ n2) : Ext n0 a0 n2 a2 :=
  ⟨fun k hk => (g.1 k (by omega)).trans (h.1 k hk), fun e => (g.2 (by omega)).trans (h.2 (by omega))⟩
theorem tr_ext {n : Nat} {ad ad' : Nat → Nat} (h : ∀ k, (k < n ∨ 1000 ≤ k) → ad' k = ad k) {v : Value} (hv : okV n v = true) : tr ad' v = tr ad v := by
  cases v <;> try rfl
  rename_i k
  simp only [okV, Bool.or_eq_true, decide_eq_true_eq] at hv
  simp only [tr, h k hv]
theorem tr_map {n : Nat} {ad ad' : Nat → Nat} (h : ∀ k, (k < n ∨ 1000 ≤ k) → ad' k = ad k) {vs : List Value} (hv : vs.all (okV n) = true) : vs.map (tr ad') = vs.map (tr ad) :=
  List.map_congr_left fun v hm => tr_ext h (List.all_eq_true.mp hv v hm)
theorem toE_ext {n : Nat} {ad ad' : Nat → Nat} (h : ∀ k, (k < n ∨ 1000 ≤ k) → ad' k = ad k) {x : CC} (hx : okC n x = true) (cA : ClassId) : toE ad' cA x = toE ad cA x := by
  match x, hx with
  | .inl l, _ => rfl
  | .inr (.inl l), _ => rfl
  | .inr (.inr (.inl l)), hx =>
    have e : (fun j => (l.getD j none).map ad') = (fun j => (l.getD j none).map ad) := by
      funext j
      cases hj : l.getD j none with
      | none => rfl
      | some k =>
        have hm : some k ∈ l := by
          rw [List.getD_eq_getElem?_getD] at hj
          cases hq : l[j]? with
          | none => rw [hq] at hj; cases hj
          | some o => rw [hq] at hj; simp at hj; subst hj; exact List.mem_of_getElem? hq
        have := List.all_eq_true.mp hx (some k) hm
        simp only [decide_eq_true_eq] at this
        simp only [Option.map_some, h k (Or.inl this)]
    simp only [toE, e]
  | .inr (.inr (.inr (t, fs))), hx => simp only [toE, tr_map h hx]
theorem wsF_ext {n : Nat} {ad ad' : Nat → Nat} {ca ca' : Nat → ClassId} (h : ∀ k, (k < n ∨ 1000 ≤ k) → ad' k = ad k) (hc : ∀ k, k < n → ca' k = ca k) : ∀ (M : MM) (k : Nat), k + M.length ≤ n → okM n M → wsF ad' ca' k M = wsF ad ca k M := by
  intro M
  induction M with
  | nil => intro k _ _; rfl
  | cons x r ih =>
    intro k hk ho
    have hk' : k + (r.length + 1) ≤ n := hk
    rw [wsF, wsF, ih (k + 1) (by omega) (fun y hy => ho y (List.mem_cons_of_mem _ hy)), h k (Or.inl (by omega)), hc k (by omega), toE_ext h (ho x List.mem_cons_self)]
/-- the words that hold at every body -/
def TT : List Cond := lw_tbl.filter goodWord
theorem TT_good (w : Cond) (h : w ∈ TT) : (w.onTables && w.keeps) = true ∨ ∃ ty, w = .arrayClass ty := good_of_word (List.mem_filter.mp h).2
theorem TT_of {w : Cond} (i : Nat) (h : tables_1[i]? = some w) (hg : goodWord w = true) : w ∈ TT := List.mem_filter.mpr ⟨List.mem_append_right _ (List.mem_of_getElem? h), hg⟩
theorem TT_sel {w : Cond} (i : Nat) (h : (k2_sels lw_privs)[i]? = some w) (hg : goodWord w = true) : w ∈ TT := List.mem_filter.mpr ⟨List.mem_append_left _ (List.mem_of_getElem? h), hg⟩
theorem TT_lw {w : Cond} (h : w ∈ TT) : w ∈ lw_tbl := (List.mem_filter.mp h).1
abbrev MD : Type := MethodName × ByteArray × Nat × Option FieldType
def wsD (D : MD) : List Cond := .code D.1 D.2.1 D.2.2.1 D.2.2.2 :: TT
theorem wsD_good {D : MD} (h : Cond.code D.1 D.2.1 D.2.2.1 D.2.2.2 ∈ TT) : GoodIn TT (wsD D) := fun w hw => (List.mem_cons.mp hw).elim (fun e => e ▸ ⟨h, TT_good _ h⟩) (fun h => ⟨h, TT_good w h⟩)
def txL : List (Nat × String) := [(99, "plain"), (105, "brave"), (107, "silk"), (109, "endless"), (111, "over"), (112, "knot"), (114, "cut"), (116, "loom"), (118, "calm"), (120, "free")]
def txB : List (List Int32) := [[112, 108, 97, 105, 110], [98, 114, 97, 118, 101], [115, 105, 108, 107], [101, 110, 100, 108, 101, 115, 115], [111, 118, 101, 114], [107, 110, 111, 116], [99, 117, 116], [108, 111, 111, 109], [99, 97, 108, 109], [102, 114, 101, 101]]
def txN : List Nat := [5, 5, 4, 7, 4, 4, 3, 4, 4, 4]
def NWs : List Cond := [.methodLinkNest "WhoseThread" 9 ⟨"WhoseThread$Text", "<init>", "()V"⟩ "WhoseThread", .methodLinkNest "WhoseThread" 18 ⟨"WhoseThread$Telling", "<init>", "()V"⟩ "WhoseThread",
  .methodLinkNest "WhoseThread$Dealing" 50 ⟨"WhoseThread", "bit", "(I)I"⟩ "WhoseThread", .methodLinkNest "WhoseThread$Dealing" 74 ⟨"WhoseThread", "has", "(II)Z"⟩ "WhoseThread",
  .methodLinkNest "WhoseThread$Loom" 56 ⟨"WhoseThread", "has", "(II)Z"⟩ "WhoseThread", .methodLinkNest "WhoseThread$Loom" 74 ⟨"WhoseThread", "bit", "(I)I"⟩ "WhoseThread", .methodLinkNest "WhoseThread$Loom" 77 ⟨"WhoseThread", "spread", "([III)I"⟩ "WhoseThread",
  .methodLinkNest "WhoseThread$Tailing" 51 ⟨"WhoseThread", "has", "(II)Z"⟩ "WhoseThread", .methodLinkNest "WhoseThread$Tailing" 72 ⟨"WhoseThread", "bit", "(I)I"⟩ "WhoseThread",
  .methodLinkNest "WhoseThread$Telling" 49 ⟨"WhoseThread", "bit", "(I)I"⟩ "WhoseThread", .methodLinkNest "WhoseThread$Telling" 63 ⟨"WhoseThread", "has", "(II)Z"⟩ "WhoseThread",
  .methodLinkNest "WhoseThread$Text" 81 ⟨"WhoseThread", "makesRing", "([III)Z"⟩ "WhoseThread", .methodLinkNest "WhoseThread$Text" 85 ⟨"WhoseThread", "bit", "(I)I"⟩ "WhoseThread"]
/-- what stands outside the memory: the nest's words, the text constants, one static, what an array of looms is -/
def Sx (ad : Nat → Nat) (A : Nat → Prop) (U : State) (H : Heap) : Prop :=
  (∀ w ∈ NWs, va_Nw w U) ∧ vk_S 10 txN txB (fun i => ad (1000 + i)) (fun i => ad (1100 + i)) A U H ∧ (∀ (i : Nat) (q : Nat × String), txL[i]? = some q → vk_R "WhoseThread$Text" q.1 q.2 (ad (1000 + i)) U) ∧ va_Z "java/lang/String" "COMPACT_STRINGS" "Z" (.int 1) A U H ∧ va_AO "WhoseThread$Loom" U
/-- the memory is held -/
def Hl (G : va_G) (ad : Nat → Nat) (M : MM) (A : Nat → Prop) (U : State) (H : Heap) : Prop :=
  ∃ ca : Nat → ClassId, va_P G vwCl (wsF ad ca 0 M) H ∧ va_D A (wsF ad ca 0 M) ∧ va_K G vwCl [] U ∧ (∀ (i : Nat) (x : CC) (ty : FieldType), M[i]? = some x → tyE x = some ty → ArrOfT U (ca i) ty ∧ va_RA U (ca i) ty) ∧ okM M.length M ∧ M.length < 1000
def Cx (D : MD) (p : Program) (s : State) (m : MethodId) (args : Array Value) (meth : Method) (c : Code) : Prop :=
  p.tables.exec = Jvm.exec ∧ c.code = D.2.1 ∧ c.maxLocals = D.2.2.1 ∧ meth.sig.returnType = D.2.2.2 ∧ s.vm.findClass D.1.cls = some m.cls ∧ (∀ w ∈ TT, w.before args s = true) ∧ meth.locks = false ∧ meth.name = D.1.name
def Lh (ad : Nat → Nat) (ls : Array Slot) (nL : Nat) (L : List (Option Value)) : Prop := ls.size = nL ∧ L.length ≤ nL ∧ lv_wf ls ∧ ∀ (i : Nat) (v : Value), L[i]? = some (some v) → ls[i]? = some (.val (tr ad v))
def Qo (G : va_G) (ad0 : Nat → Nat) (n0 : Nat) (A : Nat → Prop) (Out : Option Value → MM → Prop) : Array Value → State → Outcome → State → Prop := fun _ st oc t =>
  (∃ (v : Option Value) (M' : MM) (ad' : Nat → Nat), oc = .returned (v.map (tr ad')) ∧ Out v M' ∧ Ext n0 ad0 M'.length ad' ∧ n0 ≤ M'.length ∧ Hl G ad' M' A t t.heap) ∧ va_F A st t
/-- depth, cells and slots that the method may make, cells and slots made so far -/
abbrev BB : Type := Nat × Nat × Nat × Nat × Nat
def rmO (d mc ms : Nat) : Room := { frames := d, cells := mc, slots := ms, locals := 40 * d }
def Vx (D : MD) (L : List (Option Value)) (M : MM) (p : Program) (s : State) (m : MethodId) (args : Array Value) (meth : Method) (c : Code) (H : Heap) (locs : List Loc) (G : va_G) (ad0 : Nat → Nat) (n0 : Nat) (ad : Nat → Nat) (A : Nat → Prop) (ls : Array Slot) : Prop :=
  Cx D p s m args meth c ∧ Hl G ad M A s H ∧ Sx ad A s s.heap ∧ va_S A s.heap H locs ∧ (∀ q, s.heap.size ≤ q → A q) ∧ Ext n0 ad0 M.length ad ∧ n0 ≤ M.length ∧ Lh ad ls D.2.2.1 L
def V (D : MD) (b : BB) (pc : Nat) (L : List (Option Value)) (st : List Value) (M : MM) (Out : Option Value → MM → Prop) : Prop :=
  ∀ (p : Program) (l : Launch) (e : Env) (s : State) (m : MethodId) (args : Array Value) (below : List Frame) (meth : Method) (c : Code) (H : Heap) (locs : List Loc) (G : va_G) (ad0 : Nat → Nat) (n0 : Nat) (ad : Nat → Nat) (A : Nat → Prop) (ls : Array Slot),
    Vx D L M p s m args meth c H locs G ad0 n0 ad A ls →
    W p l e (rmO b.1 b.2.1 b.2.2.1) s m args below meth c H locs b.2.2.2.1 b.2.2.2.2 (MQ below (Qo G ad0 n0 A Out) args s b.2.1 b.2.2.1 A) (F0 m pc ls (st.map (tr ad)))
def Ar (ad : Nat → Nat) (n sz : Nat) : Nat → Prop := fun q => (∃ k, k < n ∧ ad k = q) ∨ sz ≤ q
def Con (D : MD) (d mc ms : Nat) (av : List Value) (M : MM) (Out : Option Value → MM → Prop) : Prop :=
  ∀ (l : Launch) (G : va_G) (ad : Nat → Nat) (sz : Nat), Met l D.1 (wsD D) (rmO d mc ms) (va_Pc (av.map (tr ad)) (fun U => U.heap.size = sz ∧ Hl G ad M (Ar ad M.length sz) U U.heap ∧ Sx ad (Ar ad M.length sz) U U.heap)) (Qo G ad M.length (Ar ad M.length sz) Out) mc ms (Ar ad M.length sz)
theorem Sx.moved {ad : Nat → Nat} {A : Nat → Prop} {u U : State} {H : Heap} (hW : u.WarmedH U.vm) (h : Sx ad A u H) : Sx ad A U H := by
  obtain ⟨h1, h2, h3, h4, h5⟩ := h
  have hvm : u.vm.Alike U.vm := hW.alike
  refine ⟨fun w hw => ?_, h2.moved hvm, fun i q hq => vk_R.warm hW (h3 i q hq), h4.moved hvm, ?_⟩
  · have h := h1 w hw
    simp only [NWs, List.mem_cons, List.not_mem_nil, or_false] at hw
    rcases hw with rfl | rfl | rfl | rfl | rfl | rfl | rfl | rfl | rfl | rfl | rfl | rfl | rfl <;> exact va_Nw.warmM hW h
  · exact h5.moved hvm
theorem Hl.moved {G : va_G} {ad : Nat → Nat} {M : MM} {A : Nat → Prop} {u U : State} {H : Heap} (hvm : u.vm.Alike U.vm) (h : Hl G ad M A u H) : Hl G ad M A U H := by
  obtain ⟨ca, h1, h2, h3, h4, h5⟩ := h
  exact ⟨ca, h1, h2, h3.moved hvm, fun i x ty hx ht => ⟨arrOfT_moved hvm (h4 i x ty hx ht).1, (h4 i x ty hx ht).2.moved hvm⟩, h5⟩
end
section
section VR
variable {D : MD} {b : BB} {pc : Nat} {L : List (Option Value)} {st : List Value} {M : MM} {Out : Option Value → MM → Prop}
def lpr (ad : Nat → Nat) (L : List (Option Value)) : List (Nat × Value) := (List.range L.length).filterMap (fun i => match L[i]? with
  | some (some v) => some (i, tr ad v)
  | _ => none)
theorem lpr_mem {ad : Nat → Nat} {L : List (Option Value)} {i : Nat} {w : Value} : (i, w) ∈ lpr ad L ↔ ∃ v, L[i]? = some (some v) ∧ w = tr ad v := by
  unfold lpr
  rw [List.mem_filterMap]
  constructor
  · rintro ⟨j, -, h⟩
    split at h
    · rename_i v hv
      cases h
      exact ⟨v, hv, rfl⟩
    · cases h
  · rintro ⟨v, h, rfl⟩
    refine ⟨i, List.mem_range.mpr (List.getElem?_eq_some_iff.mp h).1, ?_⟩
    rw [h]
theorem Lh.has {ad : Nat → Nat} {ls : Array Slot} {nL : Nat} {L : List (Option Value)} (h : Lh ad ls nL L) : lv_has ls nL (lpr ad L) :=
  ⟨h.1, h.2.2.1, fun q hq => by obtain ⟨v, h1, h2⟩ := lpr_mem.mp hq; rw [h2]; exact h.2.2.2 _ _ h1⟩
def c1o (o : Option Value) : Bool := match o with
  | some v => v.category == 1
  | none => true
def c1 (L : List (Option Value)) : Nat → Bool
  | 0 => true
  | i + 1 => match L[i]? with
    | some o => c1o o
    | none => true
theorem c1_at {L : List (Option Value)} {i j : Nat} {v : Value} (h : c1 L i = true) (hj : j + 1 = i) (hv : L[j]? = some (some v)) : ¬ v.category = 2 := by
  subst hj
  simp only [c1, hv, c1o, beq_iff_eq] at h
  omega
theorem tr_cat (ad : Nat → Nat) (v : Value) : (tr ad v).category = v.category := by cases v <;> rfl
theorem Lh.set1 {ad : Nat → Nat} {ls' : Array Slot} {nL i : Nat} {L : List (Option Value)} {v w : Value} (hw : w = tr ad v) (hn : L.length ≤ nL) (hc : c1 L i = true) (h : lv_has ls' nL ((i, w) :: (lpr ad L).filter (fun q => !(q.1 == i) && !(q.1 + 1 == i && q.2.category == 2)))) : Lh ad ls' nL (L.set i (some v)) := by
  refine ⟨h.1, by simpa using hn, h.2.1, fun j u hj => ?_⟩
  rw [List.getElem?_set] at hj
  by_cases hij : i = j
  · subst hij
    simp only [if_true] at hj
    split at hj
    · cases hj
      subst hw
      exact h.2.2 (i, tr ad v) List.mem_cons_self
    · cases hj
  · rw [if_neg hij] at hj
    refine h.2.2 (j, tr ad u) (List.mem_cons_of_mem _ (List.mem_filter.mpr ⟨lpr_mem.mpr ⟨u, hj, rfl⟩, ?_⟩))
    simp only [Bool.and_eq_true, Bool.not_eq_true', beq_eq_false_iff_ne, ne_eq, Bool.and_eq_false_iff]
    refine ⟨fun q => hij q.symm, ?_⟩
    by_cases hq : j + 1 = i
    · exact Or.inr (by rw [tr_cat]; exact c1_at hc hq hj)
    · exact Or.inl hq
theorem Lh.set2 {ad : Nat → Nat} {ls' : Array Slot} {nL i : Nat} {L : List (Option Value)} {v w : Value} (hw : w = tr ad v) (hn : L.length ≤ nL) (hc : c1 L i = true) (h : lv_has ls' nL ((i, w) :: (lpr ad L).filter (fun q => !(q.1 == i) && (!(q.1 == i + 1) && !(q.1 + 1 == i && q.2.category == 2))))) : Lh ad ls' nL ((L.set i (some v)).set (i + 1) none) := by
  refine ⟨h.1, by simpa using hn, h.2.1, fun j u hj => ?_⟩
  rw [List.getElem?_set] at hj
  by_cases hij1 : i + 1 = j
  · rw [if_pos hij1] at hj
    split at hj <;> cases hj
  rw [if_neg hij1, List.getElem?_set] at hj
  by_cases hij : i = j
  · subst hij
    simp only [if_true] at hj
    split at hj
    · cases hj
      subst hw
      exact h.2.2 (i, tr ad v) List.mem_cons_self
    · cases hj
  · rw [if_neg hij] at hj
    refine h.2.2 (j, tr ad u) (List.mem_cons_of_mem _ (List.mem_filter.mpr ⟨lpr_mem.mpr ⟨u, hj, rfl⟩, ?_⟩))
    simp only [Bool.and_eq_true, Bool.not_eq_true', beq_eq_false_iff_ne, ne_eq, Bool.and_eq_false_iff]
    refine ⟨fun q => hij q.symm, fun q => hij1 q.symm, ?_⟩
    by_cases hq : j + 1 = i
    · exact Or.inr (by rw [tr_cat]; exact c1_at hc hq hj)
    · exact Or.inl hq

theorem V_iconst {n : Int} {v : Int32} (hd : decode D.2.1 pc = .ok (.iconst n, 1)) (hv : Int32.ofInt n = v) (k : V D b (pc + 1) L (.int v :: st) M Out) : V D b pc L (st) M Out := by
  intro p l e s m args below meth c H locs G ad0 n0 ad A ls hX
  exact lv_iconst hX.1.1 hX.1.2.1 hd hv (k p l e s m args below meth c H locs G ad0 n0 ad A ls hX)
theorem V_bipush {n : Int} {v : Int32} (hd : decode D.2.1 pc = .ok (.bipush n, 2)) (hv : (Int8.ofInt n).toInt32 = v) (k : V D b (pc + 2) L (.int v :: st) M Out) : V D b pc L (st) M Out := by
  intro p l e s m args below meth c H locs G ad0 n0 ad A ls hX
  exact lv_bipush hX.1.1 hX.1.2.1 hd hv (k p l e s m args below meth c H locs G ad0 n0 ad A ls hX)
theorem V_sipush {n : Int} {v : Int32} (hd : decode D.2.1 pc = .ok (.sipush n, 3)) (hv : (Int16.ofInt n).toInt32 = v) (k : V D b (pc + 3) L (.int v :: st) M Out) : V D b pc L (st) M Out := by
  intro p l e s m args below meth c H locs G ad0 n0 ad A ls hX
  exact lv_sipush hX.1.1 hX.1.2.1 hd hv (k p l e s m args below meth c H locs G ad0 n0 ad A ls hX)
theorem V_lconst {n : Fin 2} {v : Int64} (hd : decode D.2.1 pc = .ok (.lconst n, 1)) (hv : Int64.ofNat (n : Nat) = v) (k : V D b (pc + 1) L (.long v :: st) M Out) : V D b pc L (st) M Out := by
  intro p l e s m args below meth c H locs G ad0 n0 ad A ls hX
  exact lv_lconst hX.1.1 hX.1.2.1 hd hv (k p l e s m args below meth c H locs G ad0 n0 ad A ls hX)
theorem V_iload_n {j : Fin 4} {x : Int32} (hd : decode D.2.1 pc = .ok (.iload_n j, 1)) (hl : L[(j : Nat)]? = some (some (.int x))) (k : V D b (pc + 1) L (.int x :: st) M Out) : V D b pc L (st) M Out := by
  intro p l e s m args below meth c H locs G ad0 n0 ad A ls hX
  exact lv_iload_n hX.1.1 hX.1.2.1 hd rfl (hX.2.2.2.2.2.2.2.2.2.2 (j : Nat) _ hl) (k p l e s m args below meth c H locs G ad0 n0 ad A ls hX)
theorem V_iload {i : Nat} {x : Int32} (hd : decode D.2.1 pc = .ok (.iload i, 2)) (hl : L[i]? = some (some (.int x))) (k : V D b (pc + 2) L (.int x :: st) M Out) : V D b pc L (st) M Out := by
  intro p l e s m args below meth c H locs G ad0 n0 ad A ls hX
  exact lv_iload hX.1.1 hX.1.2.1 hd (hX.2.2.2.2.2.2.2.2.2.2 i _ hl) (k p l e s m args below meth c H locs G ad0 n0 ad A ls hX)
theorem V_lload_n {j : Fin 4} {x : Int64} (hd : decode D.2.1 pc = .ok (.lload_n j, 1)) (hl : L[(j : Nat)]? = some (some (.long x))) (k : V D b (pc + 1) L (.long x :: st) M Out) : V D b pc L (st) M Out := by
  intro p l e s m args below meth c H locs G ad0 n0 ad A ls hX
  exact lv_lload_n hX.1.1 hX.1.2.1 hd rfl (hX.2.2.2.2.2.2.2.2.2.2 (j : Nat) _ hl) (k p l e s m args below meth c H locs G ad0 n0 ad A ls hX)
theorem V_lload {i : Nat} {x : Int64} (hd : decode D.2.1 pc = .ok (.lload i, 2)) (hl : L[i]? = some (some (.long x))) (k : V D b (pc + 2) L (.long x :: st) M Out) : V D b pc L (st) M Out := by
  intro p l e s m args below meth c H locs G ad0 n0 ad A ls hX
  exact lv_lload hX.1.1 hX.1.2.1 hd (hX.2.2.2.2.2.2.2.2.2.2 i _ hl) (k p l e s m args below meth c H locs G ad0 n0 ad A ls hX)
theorem V_aload_n {j : Fin 4} {x : Nat} (hd : decode D.2.1 pc = .ok (.aload_n j, 1)) (hl : L[(j : Nat)]? = some (some (.ref x))) (k : V D b (pc + 1) L (.ref x :: st) M Out) : V D b pc L (st) M Out := by
  intro p l e s m args below meth c H locs G ad0 n0 ad A ls hX
  exact lv_aload_n hX.1.1 hX.1.2.1 hd rfl (hX.2.2.2.2.2.2.2.2.2.2 (j : Nat) _ hl) (k p l e s m args below meth c H locs G ad0 n0 ad A ls hX)
theorem V_aload {i : Nat} {x : Nat} (hd : decode D.2.1 pc = .ok (.aload i, 2)) (hl : L[i]? = some (some (.ref x))) (k : V D b (pc + 2) L (.ref x :: st) M Out) : V D b pc L (st) M Out := by
  intro p l e s m args below meth c H locs G ad0 n0 ad A ls hX
  exact lv_aload hX.1.1 hX.1.2.1 hd (hX.2.2.2.2.2.2.2.2.2.2 i _ hl) (k p l e s m args below meth c H locs G ad0 n0 ad A ls hX)
theorem V_istore_n {j : Fin 4} {x : Int32} (hd : decode D.2.1 pc = .ok (.istore_n j, 1)) (hi : (j : Nat) < L.length) (hc : c1 L (j : Nat) = true) (k : V D b (pc + 1) (L.set (j : Nat) (some (.int x))) st M Out) : V D b pc L (.int x :: st) M Out := by
  intro p l e s m args below meth c H locs G ad0 n0 ad A ls hX
  exact lv_istore_n hX.1.1 hX.1.2.1 hd rfl (hX.2.2.2.2.2.2.2).has (Nat.lt_of_lt_of_le hi hX.2.2.2.2.2.2.2.2.1) rfl (fun ls' hl => k p l e s m args below meth c H locs G ad0 n0 ad A ls' ⟨hX.1, hX.2.1, hX.2.2.1, hX.2.2.2.1, hX.2.2.2.2.1, hX.2.2.2.2.2.1, hX.2.2.2.2.2.2.1, Lh.set1 (v := .int x) rfl hX.2.2.2.2.2.2.2.2.1 hc hl⟩)
theorem V_istore {i : Nat} {x : Int32} (hd : decode D.2.1 pc = .ok (.istore i, 2)) (hi : i < L.length) (hc : c1 L i = true) (k : V D b (pc + 2) (L.set i (some (.int x))) st M Out) : V D b pc L (.int x :: st) M Out := by
  intro p l e s m args below meth c H locs G ad0 n0 ad A ls hX
  exact lv_istore hX.1.1 hX.1.2.1 hd (hX.2.2.2.2.2.2.2).has (Nat.lt_of_lt_of_le hi hX.2.2.2.2.2.2.2.2.1) rfl (fun ls' hl => k p l e s m args below meth c H locs G ad0 n0 ad A ls' ⟨hX.1, hX.2.1, hX.2.2.1, hX.2.2.2.1, hX.2.2.2.2.1, hX.2.2.2.2.2.1, hX.2.2.2.2.2.2.1, Lh.set1 (v := .int x) rfl hX.2.2.2.2.2.2.2.2.1 hc hl⟩)
theorem V_astore_n {j : Fin 4} {x : Nat} (hd : decode D.2.1 pc = .ok (.astore_n j, 1)) (hi : (j : Nat) < L.length) (hc : c1 L (j : Nat) = true) (k : V D b (pc + 1) (L.set (j : Nat) (some (.ref x))) st M Out) : V D b pc L (.ref x :: st) M Out := by
  intro p l e s m args below meth c H locs G ad0 n0 ad A ls hX
  exact lv_astore_n hX.1.1 hX.1.2.1 hd rfl (hX.2.2.2.2.2.2.2).has (Nat.lt_of_lt_of_le hi hX.2.2.2.2.2.2.2.2.1) rfl (fun ls' hl => k p l e s m args below meth c H locs G ad0 n0 ad A ls' ⟨hX.1, hX.2.1, hX.2.2.1, hX.2.2.2.1, hX.2.2.2.2.1, hX.2.2.2.2.2.1, hX.2.2.2.2.2.2.1, Lh.set1 (v := .ref x) rfl hX.2.2.2.2.2.2.2.2.1 hc hl⟩)
theorem V_astore {i : Nat} {x : Nat} (hd : decode D.2.1 pc = .ok (.astore i, 2)) (hi : i < L.length) (hc : c1 L i = true) (k : V D b (pc + 2) (L.set i (some (.ref x))) st M Out) : V D b pc L (.ref x :: st) M Out := by
  intro p l e s m args below meth c H locs G ad0 n0 ad A ls hX
  exact lv_astore hX.1.1 hX.1.2.1 hd (hX.2.2.2.2.2.2.2).has (Nat.lt_of_lt_of_le hi hX.2.2.2.2.2.2.2.2.1) rfl (fun ls' hl => k p l e s m args below meth c H locs G ad0 n0 ad A ls' ⟨hX.1, hX.2.1, hX.2.2.1, hX.2.2.2.1, hX.2.2.2.2.1, hX.2.2.2.2.2.1, hX.2.2.2.2.2.2.1, Lh.set1 (v := .ref x) rfl hX.2.2.2.2.2.2.2.2.1 hc hl⟩)
theorem V_lstore_n {j : Fin 4} {x : Int64} (hd : decode D.2.1 pc = .ok (.lstore_n j, 1)) (hi : (j : Nat) + 1 < L.length) (hc : c1 L (j : Nat) = true) (k : V D b (pc + 1) ((L.set (j : Nat) (some (.long x))).set ((j : Nat) + 1) none) st M Out) : V D b pc L (.long x :: st) M Out := by
  intro p l e s m args below meth c H locs G ad0 n0 ad A ls hX
  exact lv_lstore_n hX.1.1 hX.1.2.1 hd rfl (hX.2.2.2.2.2.2.2).has (Nat.lt_of_lt_of_le hi hX.2.2.2.2.2.2.2.2.1) rfl (fun ls' hl => k p l e s m args below meth c H locs G ad0 n0 ad A ls' ⟨hX.1, hX.2.1, hX.2.2.1, hX.2.2.2.1, hX.2.2.2.2.1, hX.2.2.2.2.2.1, hX.2.2.2.2.2.2.1, Lh.set2 (v := .long x) rfl hX.2.2.2.2.2.2.2.2.1 hc hl⟩)
theorem V_lstore {i : Nat} {x : Int64} (hd : decode D.2.1 pc = .ok (.lstore i, 2)) (hi : i + 1 < L.length) (hc : c1 L i = true) (k : V D b (pc + 2) ((L.set i (some (.long x))).set (i + 1) none) st M Out) : V D b pc L (.long x :: st) M Out := by
  intro p l e s m args below meth c H locs G ad0 n0 ad A ls hX
  exact lv_lstore hX.1.1 hX.1.2.1 hd (hX.2.2.2.2.2.2.2).has (Nat.lt_of_lt_of_le hi hX.2.2.2.2.2.2.2.2.1) rfl (fun ls' hl => k p l e s m args below meth c H locs G ad0 n0 ad A ls' ⟨hX.1, hX.2.1, hX.2.2.1, hX.2.2.2.1, hX.2.2.2.2.1, hX.2.2.2.2.2.1, hX.2.2.2.2.2.2.1, Lh.set2 (v := .long x) rfl hX.2.2.2.2.2.2.2.2.1 hc hl⟩)
theorem V_iinc {i : Nat} {n : Int} {x v : Int32} (hd : decode D.2.1 pc = .ok (.iinc i n, 3)) (hl : L[i]? = some (some (.int x))) (hv : x + Int32.ofInt n = v) (hc : c1 L i = true) (k : V D b (pc + 3) (L.set i (some (.int v))) st M Out) : V D b pc L st M Out := by
  intro p l e s m args below meth c H locs G ad0 n0 ad A ls hX
  obtain ⟨k0, hk0⟩ := List.getElem?_of_mem (lpr_mem.mpr ⟨_, hl, rfl⟩ : (i, tr ad (.int x)) ∈ lpr ad L)
  exact lv_iinc hX.1.1 hX.1.2.1 hd (hX.2.2.2.2.2.2.2).has hk0 hv (Nat.lt_of_lt_of_le (List.getElem?_eq_some_iff.mp hl).1 hX.2.2.2.2.2.2.2.2.1) rfl (fun ls' hl => k p l e s m args below meth c H locs G ad0 n0 ad A ls' ⟨hX.1, hX.2.1, hX.2.2.1, hX.2.2.2.1, hX.2.2.2.2.1, hX.2.2.2.2.2.1, hX.2.2.2.2.2.2.1, Lh.set1 (v := .int v) rfl hX.2.2.2.2.2.2.2.2.1 hc hl⟩)
theorem V_iadd {x y : Int32} (hd : decode D.2.1 pc = .ok (.iadd, 1)) (k : V D b (pc + 1) L (.int (x + y) :: st) M Out) : V D b pc L (.int y :: .int x :: st) M Out := by
  intro p l e s m args below meth c H locs G ad0 n0 ad A ls hX
  exact lv_iadd hX.1.1 hX.1.2.1 hd (k p l e s m args below meth c H locs G ad0 n0 ad A ls hX)
theorem V_isub {x y : Int32} (hd : decode D.2.1 pc = .ok (.isub, 1)) (k : V D b (pc + 1) L (.int (x - y) :: st) M Out) : V D b pc L (.int y :: .int x :: st) M Out := by
  intro p l e s m args below meth c H locs G ad0 n0 ad A ls hX
  exact lv_isub hX.1.1 hX.1.2.1 hd (k p l e s m args below meth c H locs G ad0 n0 ad A ls hX)
theorem V_imul {x y : Int32} (hd : decode D.2.1 pc = .ok (.imul, 1)) (k : V D b (pc + 1) L (.int (x * y) :: st) M Out) : V D b pc L (.int y :: .int x :: st) M Out := by
  intro p l e s m args below meth c H locs G ad0 n0 ad A ls hX
  exact lv_imul hX.1.1 hX.1.2.1 hd (k p l e s m args below meth c H locs G ad0 n0 ad A ls hX)
theorem V_iand {x y : Int32} (hd : decode D.2.1 pc = .ok (.iand, 1)) (k : V D b (pc + 1) L (.int (x &&& y) :: st) M Out) : V D b pc L (.int y :: .int x :: st) M Out := by
  intro p l e s m args below meth c H locs G ad0 n0 ad A ls hX
  exact lv_iand hX.1.1 hX.1.2.1 hd (k p l e s m args below meth c H locs G ad0 n0 ad A ls hX)
theorem V_ior {x y : Int32} (hd : decode D.2.1 pc = .ok (.ior, 1)) (k : V D b (pc + 1) L (.int (x ||| y) :: st) M Out) : V D b pc L (.int y :: .int x :: st) M Out := by
  intro p l e s m args below meth c H locs G ad0 n0 ad A ls hX
  exact lv_ior hX.1.1 hX.1.2.1 hd (k p l e s m args below meth c H locs G ad0 n0 ad A ls hX)
theorem V_ixor {x y : Int32} (hd : decode D.2.1 pc = .ok (.ixor, 1)) (k : V D b (pc + 1) L (.int (x ^^^ y) :: st) M Out) : V D b pc L (.int y :: .int x :: st) M Out := by
  intro p l e s m args below meth c H locs G ad0 n0 ad A ls hX
  exact lv_ixor hX.1.1 hX.1.2.1 hd (k p l e s m args below meth c H locs G ad0 n0 ad A ls hX)
theorem V_ishl {x y : Int32} (hd : decode D.2.1 pc = .ok (.ishl, 1)) (k : V D b (pc + 1) L (.int (x <<< (y &&& 31)) :: st) M Out) : V D b pc L (.int y :: .int x :: st) M Out := by
  intro p l e s m args below meth c H locs G ad0 n0 ad A ls hX
  exact lv_ishl hX.1.1 hX.1.2.1 hd (k p l e s m args below meth c H locs G ad0 n0 ad A ls hX)
theorem V_ishr {x y : Int32} (hd : decode D.2.1 pc = .ok (.ishr, 1)) (k : V D b (pc + 1) L (.int (x >>> (y &&& 31)) :: st) M Out) : V D b pc L (.int y :: .int x :: st) M Out := by
  intro p l e s m args below meth c H locs G ad0 n0 ad A ls hX
  exact lv_ishr hX.1.1 hX.1.2.1 hd (k p l e s m args below meth c H locs G ad0 n0 ad A ls hX)
theorem V_idiv {x y : Int32} (hd : decode D.2.1 pc = .ok (.idiv, 1)) (hne : ¬ y = 0) (k : V D b (pc + 1) L (.int (x / y) :: st) M Out) : V D b pc L (.int y :: .int x :: st) M Out := by
  intro p l e s m args below meth c H locs G ad0 n0 ad A ls hX
  exact lv_idiv hX.1.1 hX.1.2.1 hd hne (k p l e s m args below meth c H locs G ad0 n0 ad A ls hX)
theorem V_irem {x y : Int32} (hd : decode D.2.1 pc = .ok (.irem, 1)) (hne : ¬ y = 0) (k : V D b (pc + 1) L (.int (x - x / y * y) :: st) M Out) : V D b pc L (.int y :: .int x :: st) M Out := by
  intro p l e s m args below meth c H locs G ad0 n0 ad A ls hX
  exact lv_irem hX.1.1 hX.1.2.1 hd hne (k p l e s m args below meth c H locs G ad0 n0 ad A ls hX)
theorem V_ladd {x y : Int64} (hd : decode D.2.1 pc = .ok (.ladd, 1)) (k : V D b (pc + 1) L (.long (x + y) :: st) M Out) : V D b pc L (.long y :: .long x :: st) M Out := by
  intro p l e s m args below meth c H locs G ad0 n0 ad A ls hX
  exact lv_ladd hX.1.1 hX.1.2.1 hd (k p l e s m args below meth c H locs G ad0 n0 ad A ls hX)
theorem V_lsub {x y : Int64} (hd : decode D.2.1 pc = .ok (.lsub, 1)) (k : V D b (pc + 1) L (.long (x - y) :: st) M Out) : V D b pc L (.long y :: .long x :: st) M Out := by
  intro p l e s m args below meth c H locs G ad0 n0 ad A ls hX
  exact lv_lsub hX.1.1 hX.1.2.1 hd (k p l e s m args below meth c H locs G ad0 n0 ad A ls hX)
theorem V_lmul {x y : Int64} (hd : decode D.2.1 pc = .ok (.lmul, 1)) (k : V D b (pc + 1) L (.long (x * y) :: st) M Out) : V D b pc L (.long y :: .long x :: st) M Out := by
  intro p l e s m args below meth c H locs G ad0 n0 ad A ls hX
  exact lv_lmul hX.1.1 hX.1.2.1 hd (k p l e s m args below meth c H locs G ad0 n0 ad A ls hX)
theorem V_lcmp {x y : Int64} (hd : decode D.2.1 pc = .ok (.lcmp, 1)) (k : V D b (pc + 1) L (.int (lg_cmp x y) :: st) M Out) : V D b pc L (.long y :: .long x :: st) M Out := by
  intro p l e s m args below meth c H locs G ad0 n0 ad A ls hX
  exact W.lcmp hX.1.1 hX.1.2.1 hd (k p l e s m args below meth c H locs G ad0 n0 ad A ls hX)
theorem V_i2l {x : Int32} (hd : decode D.2.1 pc = .ok (.i2l, 1)) (k : V D b (pc + 1) L (.long x.toInt64 :: st) M Out) : V D b pc L (.int x :: st) M Out := by
  intro p l e s m args below meth c H locs G ad0 n0 ad A ls hX
  exact lv_i2l hX.1.1 hX.1.2.1 hd rfl (k p l e s m args below meth c H locs G ad0 n0 ad A ls hX)
theorem V_i2c {x : Int32} (hd : decode D.2.1 pc = .ok (.i2c, 1)) (k : V D b (pc + 1) L (.int (x.toUInt32 % 65536).toInt32 :: st) M Out) : V D b pc L (.int x :: st) M Out := by
  intro p l e s m args below meth c H locs G ad0 n0 ad A ls hX
  exact lv_i2c hX.1.1 hX.1.2.1 hd rfl (k p l e s m args below meth c H locs G ad0 n0 ad A ls hX)
theorem V_iushr {x y : Int32} (hd : decode D.2.1 pc = .ok (.iushr, 1)) (k : V D b (pc + 1) L (.int (x.toUInt32 >>> (y.toUInt32 &&& Int32.toUInt32 31)).toInt32 :: st) M Out) : V D b pc L (.int y :: .int x :: st) M Out := by
  intro p l e s m args below meth c H locs G ad0 n0 ad A ls hX
  exact lv_iushr hX.1.1 hX.1.2.1 hd rfl (k p l e s m args below meth c H locs G ad0 n0 ad A ls hX)
theorem V_dup {va : Value} (hd : decode D.2.1 pc = .ok (.dup, 1)) (hva : va.category = 1) (k : V D b (pc + 1) L (va :: va :: st) M Out) : V D b pc L (va :: st) M Out := by
  intro p l e s m args below meth c H locs G ad0 n0 ad A ls hX
  exact lv_dup hX.1.1 hX.1.2.1 hd ((tr_cat ad va).trans hva) (k p l e s m args below meth c H locs G ad0 n0 ad A ls hX)
theorem V_pop {va : Value} (hd : decode D.2.1 pc = .ok (.pop, 1)) (hva : va.category = 1) (k : V D b (pc + 1) L (st) M Out) : V D b pc L (va :: st) M Out := by
  intro p l e s m args below meth c H locs G ad0 n0 ad A ls hX
  exact lv_pop hX.1.1 hX.1.2.1 hd ((tr_cat ad va).trans hva) (k p l e s m args below meth c H locs G ad0 n0 ad A ls hX)
theorem V_dup2 {va vb : Value} (hd : decode D.2.1 pc = .ok (.dup2, 1)) (hva : va.category = 1) (hvb : vb.category = 1) (k : V D b (pc + 1) L (va :: vb :: va :: vb :: st) M Out) : V D b pc L (va :: vb :: st) M Out := by
  intro p l e s m args below meth c H locs G ad0 n0 ad A ls hX
  exact lv_dup2_11 hX.1.1 hX.1.2.1 hd ((tr_cat ad va).trans hva) ((tr_cat ad vb).trans hvb) (k p l e s m args below meth c H locs G ad0 n0 ad A ls hX)
theorem V_if_eq {x : Int32} {off : Int} (tgt : Nat) (hd : decode D.2.1 pc = .ok (.ifCond .eq off, 3)) (ht : (pc : Int) + off = (tgt : Int)) (kt : x = 0 → V D b tgt L st M Out) (kf : ¬ x = 0 → V D b (pc + 3) L st M Out) : V D b pc L (.int x :: st) M Out := by
  intro p l e s m args below meth c H locs G ad0 n0 ad A ls hX
  exact lv_if_eq (tgt := tgt) hX.1.1 hX.1.2.1 hd ht (fun h => kt h p l e s m args below meth c H locs G ad0 n0 ad A ls hX) (fun h => kf h p l e s m args below meth c H locs G ad0 n0 ad A ls hX)
theorem V_icmp_eq {x y : Int32} {off : Int} (tgt : Nat) (hd : decode D.2.1 pc = .ok (.if_icmp .eq off, 3)) (ht : (pc : Int) + off = (tgt : Int)) (kt : x = y → V D b tgt L st M Out) (kf : ¬ x = y → V D b (pc + 3) L st M Out) : V D b pc L (.int y :: .int x :: st) M Out := by
  intro p l e s m args below meth c H locs G ad0 n0 ad A ls hX
  exact lv_icmp_eq (tgt := tgt) hX.1.1 hX.1.2.1 hd ht (fun h => kt h p l e s m args below meth c H locs G ad0 n0 ad A ls hX) (fun h => kf h p l e s m args below meth c H locs G ad0 n0 ad A ls hX)
theorem V_if_ne {x : Int32} {off : Int} (tgt : Nat) (hd : decode D.2.1 pc = .ok (.ifCond .ne off, 3)) (ht : (pc : Int) + off = (tgt : Int)) (kt : ¬ x = 0 → V D b tgt L st M Out) (kf : x = 0 → V D b (pc + 3) L st M Out) : V D b pc L (.int x :: st) M Out := by
  intro p l e s m args below meth c H locs G ad0 n0 ad A ls hX
  exact lv_if_ne (tgt := tgt) hX.1.1 hX.1.2.1 hd ht (fun h => kt h p l e s m args below meth c H locs G ad0 n0 ad A ls hX) (fun h => kf h p l e s m args below meth c H locs G ad0 n0 ad A ls hX)
theorem V_icmp_ne {x y : Int32} {off : Int} (tgt : Nat) (hd : decode D.2.1 pc = .ok (.if_icmp .ne off, 3)) (ht : (pc : Int) + off = (tgt : Int)) (kt : ¬ x = y → V D b tgt L st M Out) (kf : x = y → V D b (pc + 3) L st M Out) : V D b pc L (.int y :: .int x :: st) M Out := by
  intro p l e s m args below meth c H locs G ad0 n0 ad A ls hX
  exact lv_icmp_ne (tgt := tgt) hX.1.1 hX.1.2.1 hd ht (fun h => kt h p l e s m args below meth c H locs G ad0 n0 ad A ls hX) (fun h => kf h p l e s m args below meth c H locs G ad0 n0 ad A ls hX)
theorem V_if_lt {x : Int32} {off : Int} (tgt : Nat) (hd : decode D.2.1 pc = .ok (.ifCond .lt off, 3)) (ht : (pc : Int) + off = (tgt : Int)) (kt : x < 0 → V D b tgt L st M Out) (kf : ¬ x < 0 → V D b (pc + 3) L st M Out) : V D b pc L (.int x :: st) M Out := by
  intro p l e s m args below meth c H locs G ad0 n0 ad A ls hX
  exact lv_if_lt (tgt := tgt) hX.1.1 hX.1.2.1 hd ht (fun h => kt h p l e s m args below meth c H locs G ad0 n0 ad A ls hX) (fun h => kf h p l e s m args below meth c H locs G ad0 n0 ad A ls hX)
theorem V_icmp_lt {x y : Int32} {off : Int} (tgt : Nat) (hd : decode D.2.1 pc = .ok (.if_icmp .lt off, 3)) (ht : (pc : Int) + off = (tgt : Int)) (kt : x < y → V D b tgt L st M Out) (kf : ¬ x < y → V D b (pc + 3) L st M Out) : V D b pc L (.int y :: .int x :: st) M Out := by
  intro p l e s m args below meth c H locs G ad0 n0 ad A ls hX
  exact lv_icmp_lt (tgt := tgt) hX.1.1 hX.1.2.1 hd ht (fun h => kt h p l e s m args below meth c H locs G ad0 n0 ad A ls hX) (fun h => kf h p l e s m args below meth c H locs G ad0 n0 ad A ls hX)
theorem V_if_ge {x : Int32} {off : Int} (tgt : Nat) (hd : decode D.2.1 pc = .ok (.ifCond .ge off, 3)) (ht : (pc : Int) + off = (tgt : Int)) (kt : 0 ≤ x → V D b tgt L st M Out) (kf : ¬ 0 ≤ x → V D b (pc + 3) L st M Out) : V D b pc L (.int x :: st) M Out := by
  intro p l e s m args below meth c H locs G ad0 n0 ad A ls hX
  exact lv_if_ge (tgt := tgt) hX.1.1 hX.1.2.1 hd ht (fun h => kt h p l e s m args below meth c H locs G ad0 n0 ad A ls hX) (fun h => kf h p l e s m args below meth c H locs G ad0 n0 ad A ls hX)
theorem V_icmp_ge {x y : Int32} {off : Int} (tgt : Nat) (hd : decode D.2.1 pc = .ok (.if_icmp .ge off, 3)) (ht : (pc : Int) + off = (tgt : Int)) (kt : y ≤ x → V D b tgt L st M Out) (kf : ¬ y ≤ x → V D b (pc + 3) L st M Out) : V D b pc L (.int y :: .int x :: st) M Out := by
  intro p l e s m args below meth c H locs G ad0 n0 ad A ls hX
  exact lv_icmp_ge (tgt := tgt) hX.1.1 hX.1.2.1 hd ht (fun h => kt h p l e s m args below meth c H locs G ad0 n0 ad A ls hX) (fun h => kf h p l e s m args below meth c H locs G ad0 n0 ad A ls hX)
theorem V_if_gt {x : Int32} {off : Int} (tgt : Nat) (hd : decode D.2.1 pc = .ok (.ifCond .gt off, 3)) (ht : (pc : Int) + off = (tgt : Int)) (kt : 0 < x → V D b tgt L st M Out) (kf : ¬ 0 < x → V D b (pc + 3) L st M Out) : V D b pc L (.int x :: st) M Out := by
  intro p l e s m args below meth c H locs G ad0 n0 ad A ls hX
  exact lv_if_gt (tgt := tgt) hX.1.1 hX.1.2.1 hd ht (fun h => kt h p l e s m args below meth c H locs G ad0 n0 ad A ls hX) (fun h => kf h p l e s m args below meth c H locs G ad0 n0 ad A ls hX)
theorem V_icmp_gt {x y : Int32} {off : Int} (tgt : Nat) (hd : decode D.2.1 pc = .ok (.if_icmp .gt off, 3)) (ht : (pc : Int) + off = (tgt : Int)) (kt : y < x → V D b tgt L st M Out) (kf : ¬ y < x → V D b (pc + 3) L st M Out) : V D b pc L (.int y :: .int x :: st) M Out := by
  intro p l e s m args below meth c H locs G ad0 n0 ad A ls hX
  exact lv_icmp_gt (tgt := tgt) hX.1.1 hX.1.2.1 hd ht (fun h => kt h p l e s m args below meth c H locs G ad0 n0 ad A ls hX) (fun h => kf h p l e s m args below meth c H locs G ad0 n0 ad A ls hX)
theorem V_if_le {x : Int32} {off : Int} (tgt : Nat) (hd : decode D.2.1 pc = .ok (.ifCond .le off, 3)) (ht : (pc : Int) + off = (tgt : Int)) (kt : x ≤ 0 → V D b tgt L st M Out) (kf : ¬ x ≤ 0 → V D b (pc + 3) L st M Out) : V D b pc L (.int x :: st) M Out := by
  intro p l e s m args below meth c H locs G ad0 n0 ad A ls hX
  exact lv_if_le (tgt := tgt) hX.1.1 hX.1.2.1 hd ht (fun h => kt h p l e s m args below meth c H locs G ad0 n0 ad A ls hX) (fun h => kf h p l e s m args below meth c H locs G ad0 n0 ad A ls hX)
theorem V_icmp_le {x y : Int32} {off : Int} (tgt : Nat) (hd : decode D.2.1 pc = .ok (.if_icmp .le off, 3)) (ht : (pc : Int) + off = (tgt : Int)) (kt : x ≤ y → V D b tgt L st M Out) (kf : ¬ x ≤ y → V D b (pc + 3) L st M Out) : V D b pc L (.int y :: .int x :: st) M Out := by
  intro p l e s m args below meth c H locs G ad0 n0 ad A ls hX
  exact lv_icmp_le (tgt := tgt) hX.1.1 hX.1.2.1 hd ht (fun h => kt h p l e s m args below meth c H locs G ad0 n0 ad A ls hX) (fun h => kf h p l e s m args below meth c H locs G ad0 n0 ad A ls hX)
theorem V_goto {off : Int} (tgt : Nat) (hd : decode D.2.1 pc = .ok (.goto off, 3)) (ht : (pc : Int) + off = (tgt : Int)) (k : V D b tgt L st M Out) : V D b pc L st M Out := by
  intro p l e s m args below meth c H locs G ad0 n0 ad A ls hX
  exact lv_goto (tgt := tgt) hX.1.1 hX.1.2.1 hd ht (k p l e s m args below meth c H locs G ad0 n0 ad A ls hX)
theorem V_tableIn {dflt lo hi : Int} {offs : Array Int} {len : Nat} {x : Int32} {off : Int} (tgt : Nat) (hd : decode D.2.1 pc = .ok (.tableswitch dflt lo hi offs, len)) (h1 : ¬ x.toInt < lo) (h2 : ¬ hi < x.toInt) (ho : offs[(x.toInt - lo).toNat]? = some off) (ht : (pc : Int) + off = (tgt : Int)) (k : V D b tgt L st M Out) : V D b pc L (.int x :: st) M Out := by
  intro p l e s m args below meth c H locs G ad0 n0 ad A ls hX
  exact lv_tableIn (tgt := tgt) hX.1.1 hX.1.2.1 hd h1 h2 ho ht (k p l e s m args below meth c H locs G ad0 n0 ad A ls hX)
theorem V_tableOut {dflt lo hi : Int} {offs : Array Int} {len : Nat} {x : Int32} (tgt : Nat) (hd : decode D.2.1 pc = .ok (.tableswitch dflt lo hi offs, len)) (h : x.toInt < lo ∨ hi < x.toInt) (ht : (pc : Int) + dflt = (tgt : Int)) (k : V D b tgt L st M Out) : V D b pc L (.int x :: st) M Out := by
  intro p l e s m args below meth c H locs G ad0 n0 ad A ls hX
  exact lv_tableOut (tgt := tgt) hX.1.1 hX.1.2.1 hd h ht (k p l e s m args below meth c H locs G ad0 n0 ad A ls hX)
theorem V_lookup {dflt : Int} {ps : Array (Int × Int)} {len : Nat} {x : Int32} {off : Int} (tgt : Nat) (hd : decode D.2.1 pc = .ok (.lookupswitch dflt ps, len)) (hp : (ps.toList.zip (ps.toList.drop 1)).all (fun (a, next) => a.1 < next.1) = true) (ho : Op.lookupswitch.offset ps.toList dflt x.toInt = off) (ht : (pc : Int) + off = (tgt : Int)) (k : V D b tgt L st M Out) : V D b pc L (.int x :: st) M Out := by
  intro p l e s m args below meth c H locs G ad0 n0 ad A ls hX
  exact lv_lookup (tgt := tgt) hX.1.1 hX.1.2.1 hd hp ho ht (k p l e s m args below meth c H locs G ad0 n0 ad A ls hX)
theorem V_ldc {i : Nat} {v : Int32} (hc : Cond.constant D.1.cls i v ∈ TT) (hd : decode D.2.1 pc = .ok (.ldc i, 2)) (k : V D b (pc + 2) L (.int v :: st) M Out) : V D b pc L st M Out := by
  intro p l e s m args below meth c H locs G ad0 n0 ad A ls hX
  exact lv_ldc hX.1.1 hX.1.2.1 hX.1.2.2.2.2.1 (hX.1.2.2.2.2.2.1 _ hc) hd (k p l e s m args below meth c H locs G ad0 n0 ad A ls hX)
theorem V_ldcw {i : Nat} {v : Int32} (hc : Cond.constant D.1.cls i v ∈ TT) (hd : decode D.2.1 pc = .ok (.ldc_w i, 3)) (k : V D b (pc + 3) L (.int v :: st) M Out) : V D b pc L st M Out := by
  intro p l e s m args below meth c H locs G ad0 n0 ad A ls hX
  exact lv_ldcw hX.1.1 hX.1.2.1 hX.1.2.2.2.2.1 (hX.1.2.2.2.2.2.1 _ hc) hd (k p l e s m args below meth c H locs G ad0 n0 ad A ls hX)
theorem V_ldc2 {i : Nat} {v : Int64} (hc : Cond.constantLong D.1.cls i v ∈ TT) (hd : decode D.2.1 pc = .ok (.ldc2_w i, 3)) (k : V D b (pc + 3) L (.long v :: st) M Out) : V D b pc L st M Out := by
  intro p l e s m args below meth c H locs G ad0 n0 ad A ls hX
  exact lv_ldc2 hX.1.1 hX.1.2.1 hX.1.2.2.2.2.1 (hX.1.2.2.2.2.2.1 _ hc) hd (k p l e s m args below meth c H locs G ad0 n0 ad A ls hX)
theorem Vx.done {D : MD} {L : List (Option Value)} {M : MM} {p : Program} {s : State} {m : MethodId} {args : Array Value} {meth : Method} {c : Code} {H : Heap} {locs : List Loc} {G : va_G} {ad0 : Nat → Nat} {n0 : Nat} {ad : Nat → Nat} {A : Nat → Prop} {ls : Array Slot} {Out : Option Value → MM → Prop} {v : Option Value} (hX : Vx D L M p s m args meth c H locs G ad0 n0 ad A ls) (ho : Out v M) (t : State) (ht : t.heap = H) (hW : s.WarmedH t.vm) : Qo G ad0 n0 A Out args s (.returned (v.map (tr ad))) t :=
  ⟨⟨v, M, ad, rfl, ho, hX.2.2.2.2.2.1, hX.2.2.2.2.2.2.1, by rw [ht]; exact hX.2.1.moved hW.alike⟩, hX.2.2.2.1.F ht⟩
theorem V_iret {x : Int32} (hr : D.2.2.2 = some .int) (hb : b.2.2.2.1 ≤ b.2.1 ∧ b.2.2.2.2 ≤ b.2.2.1) (hd : decode D.2.1 pc = .ok (.ireturn, 1)) (ho : Out (some (.int x)) M) : V D b pc L [.int x] M Out := by
  intro p l e s m args below meth c H locs G ad0 n0 ad A ls hX
  refine W.widen (k := b.2.1) (n := b.2.2.1) hb.1 hb.2 ?_
  exact W.iret hX.1.1 hX.1.2.1 (hX.1.2.2.2.1.trans hr) (hX.done ho) hX.2.2.2.1.2.2 hd hX.1.2.2.2.2.2.2.1
theorem V_lret {x : Int64} (hr : D.2.2.2 = some .long) (hb : b.2.2.2.1 ≤ b.2.1 ∧ b.2.2.2.2 ≤ b.2.2.1) (hd : decode D.2.1 pc = .ok (.lreturn, 1)) (ho : Out (some (.long x)) M) : V D b pc L [.long x] M Out := by
  intro p l e s m args below meth c H locs G ad0 n0 ad A ls hX
  refine W.widen (k := b.2.1) (n := b.2.2.1) hb.1 hb.2 ?_
  exact W.lret hX.1.1 hX.1.2.1 (hX.1.2.2.2.1.trans hr) (hX.done ho) hX.2.2.2.1.2.2 hd hX.1.2.2.2.2.2.2.1
theorem V_zret {x : Int32} {ty : FieldType} (hr : D.2.2.2 = some ty) (hn : narrow ty (.int x) = .int x) (hb : b.2.2.2.1 ≤ b.2.1 ∧ b.2.2.2.2 ≤ b.2.2.1) (hd : decode D.2.1 pc = .ok (.ireturn, 1)) (ho : Out (some (.int x)) M) : V D b pc L [.int x] M Out := by
  intro p l e s m args below meth c H locs G ad0 n0 ad A ls hX
  refine W.widen (k := b.2.1) (n := b.2.2.1) hb.1 hb.2 ?_
  exact W.zret hX.1.1 hX.1.2.1 (hX.1.2.2.2.1.trans hr) hn (hX.done ho) hX.2.2.2.1.2.2 hd hX.1.2.2.2.2.2.2.1
theorem V_vret (hr : D.2.2.2 = none) (hb : b.2.2.2.1 ≤ b.2.1 ∧ b.2.2.2.2 ≤ b.2.2.1) (hd : decode D.2.1 pc = .ok (.return_, 1)) (ho : Out none M) : V D b pc L [] M Out := by
  intro p l e s m args below meth c H locs G ad0 n0 ad A ls hX
  refine W.widen (k := b.2.1) (n := b.2.2.1) hb.1 hb.2 ?_
  exact W.vret hX.1.1 hX.1.2.1 (hX.1.2.2.2.1.trans hr) (hX.done ho) hX.2.2.2.1.2.2 hd hX.1.2.2.2.2.2.2.1
/-- a field's link: class own, its pool's entry, the kind of the object, the field's place -/
def FL (own : String) (idx ci k : Nat) : Prop := ∃ (C : String) (T : u_T) (N : Nat) (ty : Nat → FieldType), vwCl[ci]? = some (C, T, N) ∧ (∀ w ∈ u_ws C T N, w ∈ TT) ∧ k < N ∧ Cond.fieldLink own idx (T k).1 (T k).2.1 (T k).2.2.1 ∈ TT ∧ (∀ k, k < N → parseFieldDescriptor (T k).2.2.1 = some (ty k)) ∧ (∀ a, a < N → ∀ b, b < N → a ≠ b → (T a).2.1 ≠ (T b).2.1)
/-- an int field that may be written -/
def FP (own : String) (idx ci k : Nat) : Prop := ∃ (C : String) (T : u_T) (N : Nat) (ty : Nat → FieldType), vwCl[ci]? = some (C, T, N) ∧ (∀ w ∈ u_ws C T N, w ∈ TT) ∧ k < N ∧ Cond.fieldLink own idx (T k).1 (T k).2.1 (T k).2.2.1 ∈ TT ∧ (∀ k, k < N → parseFieldDescriptor (T k).2.2.1 = some (ty k)) ∧ (∀ a, a < N → ∀ b, b < N → a ≠ b → (T a).2.1 ≠ (T b).2.1) ∧ (T k).2.2.2 = false ∧ ty k = .int
/-- a final field of references, written in a constructor -/
def FF (own : String) (idx ci k : Nat) : Prop := ∃ (C : String) (T : u_T) (N : Nat) (ty : Nat → FieldType), vwCl[ci]? = some (C, T, N) ∧ (∀ w ∈ u_ws C T N, w ∈ TT) ∧ k < N ∧ Cond.fieldLink own idx (T k).1 (T k).2.1 (T k).2.2.1 ∈ TT ∧ (∀ k, k < N → parseFieldDescriptor (T k).2.2.1 = some (ty k)) ∧ (∀ a, a < N → ∀ b, b < N → a ≠ b → (T a).2.1 ≠ (T b).2.1) ∧ (T k).2.2.2 = true ∧ (T k).1 = own ∧ (∀ q : Nat, narrow (ty k) (.ref q) = .ref q ∧ fits (ty k) (.ref q) = true)
theorem Hl.at {G : va_G} {ad : Nat → Nat} {M : MM} {ca : Nat → ClassId} {a : Nat} {x : CC} (h : M[a]? = some x) : (wsF ad ca 0 M)[a]? = some (ad a, toE ad (ca a) x) := by
  rw [wsF_get, h, Nat.zero_add]; rfl
theorem V_get {idx ci f a : Nat} {fs : List Value} {v : Value} (hf : FL D.1.cls idx ci f) (hM : M[a]? = some (cO ci fs)) (hv : fs[f]? = some v) (hd : decode D.2.1 pc = .ok (.getfield idx, 3)) (k : V D b (pc + 3) L (v :: st) M Out) : V D b pc L (.ref a :: st) M Out := by
  intro p l e s m args below meth c H locs G ad0 n0 ad A ls hX
  obtain ⟨C, T, N, ty, h1, h2, h3, h4, -, -⟩ := hf
  obtain ⟨ca, hP, -, hK, -⟩ := hX.2.1
  exact va_get hX.1.1 hX.1.2.1 hX.1.2.2.2.2.2.1 h2 hX.1.2.2.2.2.1 hK hP a (Hl.at (G := G) hM) h1 f h3 (hX.1.2.2.2.2.2.1 _ h4) (fun _ h => h) (by rw [List.getElem?_map, hv]; rfl) hd (k p l e s m args below meth c H locs G ad0 n0 ad A ls hX)
theorem okM_set {n : Nat} {M : MM} {a : Nat} {x : CC} (h : okM n M) (hx : okC n x = true) : okM n (M.set a x) := fun y hy => (List.mem_or_eq_of_mem_set hy).elim (h y) (fun e => e ▸ hx)
/-- behind a store -/
theorem Vx.put {D : MD} {L : List (Option Value)} {M : MM} {p : Program} {s : State} {m : MethodId} {args : Array Value} {meth : Method} {c : Code} {H H1 : Heap} {locs locs1 : List Loc} {G : va_G} {ad0 : Nat → Nat} {n0 : Nat} {ad : Nat → Nat} {A : Nat → Prop} {ls : Array Slot} {a : Nat} {x y : CC} {ca : Nat → ClassId} (hX : Vx D L M p s m args meth c H locs G ad0 n0 ad A ls) (hy : M[a]? = some y) (ht : tyE x = tyE y) (hx : okC M.length x = true)
    (hP : va_P G vwCl ((wsF ad ca 0 M).set a (ad a, toE ad (ca a) x)) H1) (hD : va_D A ((wsF ad ca 0 M).set a (ad a, toE ad (ca a) x))) (hK : va_K G vwCl [] s) (hT : ∀ (i : Nat) (x : CC) (ty : FieldType), M[i]? = some x → tyE x = some ty → ArrOfT s (ca i) ty ∧ va_RA s (ca i) ty) (hS : va_S A s.heap H1 locs1) : Vx D L (M.set a x) p s m args meth c H1 locs1 G ad0 n0 ad A ls := by
  have e := wsF_set ad ca x M 0 a
  rw [Nat.zero_add] at e
  rw [e] at hP hD
  obtain ⟨_, -, -, -, -, ho, hl⟩ := hX.2.1
  have hlen : (M.set a x).length = M.length := List.length_set
  refine ⟨hX.1, ⟨ca, hP, hD, hK, fun i z ty hz hty => ?_, by rw [hlen]; exact okM_set ho hx, by rw [hlen]; exact hl⟩, hX.2.2.1, hS, hX.2.2.2.2.1, by rw [hlen]; exact hX.2.2.2.2.2.1, by rw [hlen]; exact hX.2.2.2.2.2.2.1, hX.2.2.2.2.2.2.2⟩
  rw [List.getElem?_set] at hz
  by_cases hi : a = i
  · subst hi
    rw [if_pos rfl] at hz
    split at hz
    · cases hz
      exact hT a y ty hy (ht ▸ hty)
    · cases hz
  · rw [if_neg hi] at hz
    exact hT i z ty hz hty
theorem okC_at {n : Nat} {M : MM} {a : Nat} {x : CC} (h : okM n M) (hx : M[a]? = some x) : okC n x = true := h x (List.mem_of_getElem? hx)
theorem all_set {n k : Nat} {fs : List Value} {v : Value} (h : fs.all (okV n) = true) (hv : okV n v = true) : (fs.set k v).all (okV n) = true := List.all_eq_true.mpr fun y hy => (List.mem_or_eq_of_mem_set hy).elim (List.all_eq_true.mp h y) (fun e => e ▸ hv)
theorem V_put {idx ci f a : Nat} {fs : List Value} {v : Int32} (hf : FP D.1.cls idx ci f) (hM : M[a]? = some (cO ci fs)) (hl : f < fs.length) (hd : decode D.2.1 pc = .ok (.putfield idx, 3)) (k : V D b (pc + 3) L st (M.set a (cO ci (fs.set f (.int v)))) Out) : V D b pc L (.int v :: .ref a :: st) M Out := by
  intro p l e' s m args below meth c H locs G ad0 n0 ad A ls hX
  obtain ⟨C, T, N, ty, h1, h2, h3, h4, h5, h6, h7, h8⟩ := hf
  obtain ⟨ca, hP, hD, hK, hT, ho, -⟩ := id hX.2.1
  refine va_put (v := .int v) (ty := .int) hX.1.1 hX.1.2.1 hX.1.2.2.2.2.2.1 h2 ty h5 h6 hX.1.2.2.2.2.1 hK hP hD hX.2.2.2.1 a (Hl.at (G := G) hM) h1 f h3 (hX.1.2.2.2.2.2.1 _ h4) (fun _ h => h) h7 (h8 ▸ h5 f h3) rfl rfl (by simpa using hl) hd (fun H1 locs1 g1 g2 g3 => ?_)
  have e : (.inr (ci, (fs.map (tr ad)).set f (.int v)) : va_E) = toE ad (ca a) (cO ci (fs.set f (.int v))) := by
    show _ = Sum.inr (ci, (fs.set f (.int v)).map (tr ad)); rw [List.map_set]; rfl
  rw [e] at g1 g2
  exact k p l e' s m args below meth c H1 locs1 G ad0 n0 ad A ls (hX.put hM rfl (all_set (okC_at ho hM) rfl) g1 g2 hK hT g3)
theorem V_putF {idx ci f a q : Nat} {fs : List Value} (hf : FF D.1.cls idx ci f) (hi : D.1.name = "<init>") (hM : M[a]? = some (cO ci fs)) (hl : f < fs.length) (hq : okV M.length (.ref q) = true) (hd : decode D.2.1 pc = .ok (.putfield idx, 3)) (k : V D b (pc + 3) L st (M.set a (cO ci (fs.set f (.ref q)))) Out) : V D b pc L (.ref q :: .ref a :: st) M Out := by
  intro p l e' s m args below meth c H locs G ad0 n0 ad A ls hX
  obtain ⟨C, T, N, ty, h1, h2, h3, h4, h5, h6, h7, h8, h9⟩ := hf
  obtain ⟨ca, hP, hD, hK, hT, ho, -⟩ := id hX.2.1
  refine va_putF (v := .ref (ad q)) (ty := ty f) hX.1.1 hX.1.2.1 hX.1.2.2.2.2.2.1 h2 ty h5 h6 hX.1.2.2.2.2.1 hK hP hD hX.2.2.2.1 a (Hl.at (G := G) hM) h1 f h3 (hX.1.2.2.2.2.2.1 _ h4) (fun _ h => h) h7 (hX.1.2.2.2.2.2.2.2.trans hi) h8 (h5 f h3) (h9 _).1 (h9 _).2 (by simpa using hl) hd (fun H1 locs1 g1 g2 g3 => ?_)
  have e : (.inr (ci, (fs.map (tr ad)).set f (.ref (ad q))) : va_E) = toE ad (ca a) (cO ci (fs.set f (.ref q))) := by
    show _ = Sum.inr (ci, (fs.set f (.ref q)).map (tr ad)); rw [List.map_set]; rfl
  rw [e] at g1 g2
  exact k p l e' s m args below meth c H1 locs1 G ad0 n0 ad A ls (hX.put hM rfl (all_set (okC_at ho hM) hq) g1 g2 hK hT g3)
theorem kT {G : va_G} {s : State} {cA : ClassId} {ty : FieldType} (hK : va_K G vwCl [] s) (h : ArrOfT s cA ty ∧ va_RA s cA ty) : va_K G vwCl [(cA, ty)] s := ⟨hK.1, fun k q hq => by
  cases k with
  | zero => cases hq; exact h
  | succ k => simp at hq⟩
theorem getD_set (l : List Int32) (k : Nat) (x : Int32) (hk : k < l.length) : (fun j => (l.set k x).getD j 0) = upd (fun j => l.getD j 0) k x := by
  funext j
  unfold upd
  simp only [List.getD_eq_getElem?_getD, List.getElem?_set]
  by_cases h : k = j
  · subst h; simp [hk]
  · rw [if_neg h, if_neg (fun e : j = k => h e.symm)]
theorem V_iald {a : Nat} {l : List Int32} {x : Int32} (hM : M[a]? = some (cI l)) (hx : vp_in x l.length) (hd : decode D.2.1 pc = .ok (.iaload, 1)) (k : V D b (pc + 1) L (.int (l.getD x.toNatClampNeg 0) :: st) M Out) : V D b pc L (.int x :: .ref a :: st) M Out := by
  intro p l' e' s m args below meth c H locs G ad0 n0 ad A ls hX
  obtain ⟨ca, hP, -, hK, hT, -⟩ := hX.2.1
  exact va_iald (tys := [(ca a, .int)]) hX.1.1 hX.1.2.1 (kT hK (hT a _ .int hM rfl)) hP a 0 (Hl.at (G := G) hM) rfl hx hd (k p l' e' s m args below meth c H locs G ad0 n0 ad A ls hX)
theorem V_iast {a : Nat} {l : List Int32} {x y : Int32} (hM : M[a]? = some (cI l)) (hx : vp_in x l.length) (hd : decode D.2.1 pc = .ok (.iastore, 1)) (k : V D b (pc + 1) L st (M.set a (cI (l.set x.toNatClampNeg y))) Out) : V D b pc L (.int y :: .int x :: .ref a :: st) M Out := by
  intro p l' e' s m args below meth c H locs G ad0 n0 ad A ls hX
  obtain ⟨ca, hP, hD, hK, hT, ho, -⟩ := id hX.2.1
  refine va_iast (tys := [(ca a, .int)]) hX.1.1 hX.1.2.1 (kT hK (hT a _ .int hM rfl)) hP hD hX.2.2.2.1 a 0 (Hl.at (G := G) hM) rfl hx hd (fun H1 locs1 g1 g2 g3 => ?_)
  have hlt : x.toNatClampNeg < l.length := Nat.not_le.mp fun q => hx (Or.inr q)
  have e : (.inl (ca a, l.length, .inl (upd (fun j => l.getD j 0) x.toNatClampNeg y)) : va_E) = toE ad (ca a) (cI (l.set x.toNatClampNeg y)) := by
    show _ = Sum.inl (ca a, (l.set x.toNatClampNeg y).length, Sum.inl (fun j => (l.set x.toNatClampNeg y).getD j 0)); rw [getD_set l _ _ hlt, List.length_set]
  rw [e] at g1 g2
  exact k p l' e' s m args below meth c H1 locs1 G ad0 n0 ad A ls (hX.put hM rfl rfl g1 g2 hK hT g3)
theorem V_zald {a : Nat} {l : List Int32} {x : Int32} (hM : M[a]? = some (cZ l)) (hx : vp_in x l.length) (hd : decode D.2.1 pc = .ok (.baload, 1)) (k : V D b (pc + 1) L (.int (l.getD x.toNatClampNeg 0) :: st) M Out) : V D b pc L (.int x :: .ref a :: st) M Out := by
  intro p l' e' s m args below meth c H locs G ad0 n0 ad A ls hX
  obtain ⟨ca, hP, -, hK, hT, -⟩ := hX.2.1
  exact va_zald (tys := [(ca a, .boolean)]) hX.1.1 hX.1.2.1 (kT hK (hT a _ .boolean hM rfl)) hP a 0 (Hl.at (G := G) hM) rfl hx hd (k p l' e' s m args below meth c H locs G ad0 n0 ad A ls hX)
theorem V_zast {a : Nat} {l : List Int32} {x y : Int32} (hM : M[a]? = some (cZ l)) (hx : vp_in x l.length) (hy : vp_nar .boolean y = y) (hd : decode D.2.1 pc = .ok (.bastore, 1)) (k : V D b (pc + 1) L st (M.set a (cZ (l.set x.toNatClampNeg y))) Out) : V D b pc L (.int y :: .int x :: .ref a :: st) M Out := by
  intro p l' e' s m args below meth c H locs G ad0 n0 ad A ls hX
  obtain ⟨ca, hP, hD, hK, hT, ho, -⟩ := id hX.2.1
  refine va_zast (tys := [(ca a, .boolean)]) hX.1.1 hX.1.2.1 (kT hK (hT a _ .boolean hM rfl)) hP hD hX.2.2.2.1 a 0 (Hl.at (G := G) hM) rfl hx hd (fun H1 locs1 g1 g2 g3 => ?_)
  have hlt : x.toNatClampNeg < l.length := Nat.not_le.mp fun q => hx (Or.inr q)
  rw [hy] at g1 g2
  have e : (.inl (ca a, l.length, .inl (upd (fun j => l.getD j 0) x.toNatClampNeg y)) : va_E) = toE ad (ca a) (cZ (l.set x.toNatClampNeg y)) := by
    show _ = Sum.inl (ca a, (l.set x.toNatClampNeg y).length, Sum.inl (fun j => (l.set x.toNatClampNeg y).getD j 0)); rw [getD_set l _ _ hlt, List.length_set]
  rw [e] at g1 g2
  exact k p l' e' s m args below meth c H1 locs1 G ad0 n0 ad A ls (hX.put hM rfl rfl g1 g2 hK hT g3)
theorem V_aald {a q : Nat} {l : List (Option Nat)} {x : Int32} (hM : M[a]? = some (cR l)) (hx : vp_in x l.length) (hq : l.getD x.toNatClampNeg none = some q) (hd : decode D.2.1 pc = .ok (.aaload, 1)) (k : V D b (pc + 1) L (.ref q :: st) M Out) : V D b pc L (.int x :: .ref a :: st) M Out := by
  intro p l' e' s m args below meth c H locs G ad0 n0 ad A ls hX
  obtain ⟨ca, hP, -, hK, hT, -⟩ := hX.2.1
  refine va_aldq (tys := [(ca a, .object "WhoseThread$Loom")]) hX.1.1 hX.1.2.1 (kT hK (hT a _ _ hM rfl)) hP a 0 (Hl.at (G := G) hM) rfl hx hd ?_
  have e : va_rf ((l.getD x.toNatClampNeg none).map ad) = tr ad (.ref q) := by rw [hq]; rfl
  rw [e]
  exact k p l' e' s m args below meth c H locs G ad0 n0 ad A ls hX
theorem V_alen {a : Nat} {l : List Int32} (hM : M[a]? = some (cI l)) (hd : decode D.2.1 pc = .ok (.arraylength, 1)) (k : V D b (pc + 1) L (.int (nI l.length) :: st) M Out) : V D b pc L (.ref a :: st) M Out := by
  intro p l' e' s m args below meth c H locs G ad0 n0 ad A ls hX
  obtain ⟨ca, hP, -, hK, hT, -⟩ := hX.2.1
  exact va_alen (tys := [(ca a, .int)]) hX.1.1 hX.1.2.1 (kT hK (hT a _ .int hM rfl)) hP a 0 (Hl.at (G := G) hM) rfl rfl hd (k p l' e' s m args below meth c H locs G ad0 n0 ad A ls hX)
end VR
end
section
theorem Sx.kept {ad : Nat → Nat} {A : Nat → Prop} {U : State} {H H1 : Heap} (h : Sx ad A U H) (hq : ∀ a : Nat, a < H.size → ¬ A a → H1[a]? = H[a]?) : Sx ad A U H1 :=
  ⟨h.1, h.2.1.kept hq, h.2.2.1, h.2.2.2.1.kept hq, h.2.2.2.2⟩
theorem Sx.narrow {ad : Nat → Nat} {A B : Nat → Prop} {U : State} {H : Heap} (h : Sx ad A U H) (hAB : ∀ q, B q → A q) : Sx ad B U H :=
  ⟨h.1, h.2.1.narrow hAB, h.2.2.1, h.2.2.2.1.narrow hAB, h.2.2.2.2⟩
theorem Sx.ad {ad ad' : Nat → Nat} {A : Nat → Prop} {U : State} {H : Heap} (h : Sx ad A U H) (e : ∀ k, 1000 ≤ k → ad' k = ad k) : Sx ad' A U H := by
  obtain ⟨h1, h2, h3, h4, h5⟩ := h
  have e1 : (fun i => ad' (1000 + i)) = (fun i => ad (1000 + i)) := funext fun i => e _ (by omega)
  have e2 : (fun i => ad' (1100 + i)) = (fun i => ad (1100 + i)) := funext fun i => e _ (by omega)
  refine ⟨h1, by rw [e1, e2]; exact h2, fun i q hq => by rw [e _ (by omega)]; exact h3 i q hq, h4, h5⟩
theorem Hl.A {G : va_G} {ad : Nat → Nat} {M : MM} {A B : Nat → Prop} {U : State} {H : Heap} (h : Hl G ad M A U H) (hAB : ∀ q, A q → B q) : Hl G ad M B U H := by
  obtain ⟨ca, h1, h2, h3, h4, h5⟩ := h
  exact ⟨ca, h1, h2.weaken (fun _ _ _ h => hAB _ h), h3, h4, h5⟩
theorem Hl.self {G : va_G} {ad : Nat → Nat} {M : MM} {A : Nat → Prop} {U : State} {H : Heap} (h : Hl G ad M A U H) (sz : Nat) : Hl G ad M (Ar ad M.length sz) U H := by
  obtain ⟨ca, h1, h2, h3, h4, h5⟩ := h
  refine ⟨ca, h1, ⟨h2.1, fun k q hk => ?_⟩, h3, h4, h5⟩
  rw [wsF_get, Nat.zero_add] at hk
  cases hm : M[k]? with
  | none => rw [hm] at hk; cases hk
  | some x =>
    rw [hm] at hk
    cases hk
    exact Or.inl ⟨k, (List.getElem?_eq_some_iff.mp hm).1, rfl⟩
theorem Hl.Ar {G : va_G} {ad : Nat → Nat} {M : MM} {A : Nat → Prop} {U : State} {H : Heap} (h : Hl G ad M A U H) {n sz : Nat} (hA : ∀ q, n ≤ q → A q) (hn : n ≤ sz) : ∀ q, Ar ad M.length sz q → A q := by
  obtain ⟨ca, h1, h2, -⟩ := h
  rintro q (⟨k, hk, rfl⟩ | hq)
  · have hm : M[k]? = some M[k] := List.getElem?_eq_getElem hk
    exact h2.2 k _ (Hl.at (G := G) hm)
  · exact hA q (by omega)
def entO : List Value → List (Option Value)
  | [] => []
  | v :: r => if v.category = 2 then some v :: none :: entO r else some v :: entO r
def entL (n : Nat) (av : List Value) : List (Option Value) := entO av ++ List.replicate (n - (entO av).length) none
theorem entO_args (ad : Nat → Nat) : ∀ (av : List Value) (k i : Nat) (v : Value), (entO av)[i]? = some (some v) → (k + i, tr ad v) ∈ lv_args k (av.map (tr ad)) := by
  intro av
  induction av with
  | nil => intro k i v h; simp [entO] at h
  | cons u r ih =>
    intro k i v h
    rw [List.map_cons, lv_args, tr_cat]
    by_cases hu : u.category = 2
    · rw [entO, if_pos hu] at h
      rw [if_pos hu]
      match i, h with
      | 0, h => simp at h; subst h; exact List.mem_cons_self
      | 1, h => simp at h
      | i + 2, h =>
        have := ih (k + 2) i v (by simpa using h)
        rw [show k + (i + 2) = k + 2 + i by omega]
        exact List.mem_cons_of_mem _ this
    · rw [entO, if_neg hu] at h
      rw [if_neg hu]
      match i, h with
      | 0, h => simp at h; subst h; exact List.mem_cons_self
      | i + 1, h =>
        have := ih (k + 1) i v (by simpa using h)
        rw [show k + (i + 1) = k + 1 + i by omega]
        exact List.mem_cons_of_mem _ this
theorem entO_sl (ad : Nat → Nat) : ∀ (av : List Value), (lg_sl (av.map (tr ad))).length = (entO av).length := by
  intro av
  induction av with
  | nil => rfl
  | cons u r ih =>
    rw [lg_sl] at ih ⊢
    rw [List.map_cons, List.flatMap_cons, List.length_append, ih, tr_cat, entO]
    by_cases hu : u.category = 2
    · simp [hu]; omega
    · simp [hu]; omega
theorem Con.ofV {D : MD} {d mc ms : Nat} {av : List Value} {M : MM} {Out : Option Value → MM → Prop} (L0 : List (Option Value)) (hy : plainName D.1.cls = true) (hn : (entO av).length ≤ D.2.2.1) (hL : entL D.2.2.1 av = L0) (h : V D (d, mc, ms, 0, 0) 0 L0 [] M Out) : Con D d mc ms av M Out := by
  intro l G ad sz
  refine Met.ofW (cc := D.2.1) (maxL := D.2.2.1) (ret := D.2.2.2) hy rfl ?_
  intro p e s m args below meth c s₁ B hml hv
  obtain ⟨rfl, hsz, hH, hSx⟩ := hv
  have hts := atoms_spec (ws := wsD D) B.pre
  have hlen := entO_sl ad av
  have hl := lv_entry (av.map (tr ad)) (n := D.2.2.1) (by omega)
  rw [lg_entry_eq]
  refine h p l e s m _ below meth c s.heap [] G ad M.length ad (Ar ad M.length sz) _ ⟨⟨B.exec, B.bytes, hml, B.returns, findClass_of_methodNamed B.named, fun w hw => hts w (List.mem_cons_of_mem _ hw), B.notSynchronized, (name_of_methodNamed B.named B.method).1⟩, hH, hSx, va_S.rf, fun q hq => Or.inr (by omega), Ext.rf, Nat.le_refl _, hl.1, ?_, hl.2.1, fun i v hi => ?_⟩
  · rw [← hL, entL, List.length_append, List.length_replicate]; omega
  · rw [← hL, entL] at hi
    refine hl.2.2 (i, tr ad v) ?_
    by_cases hlt : i < (entO av).length
    · rw [List.getElem?_append_left hlt] at hi
      have := entO_args ad av 0 i v hi
      rwa [Nat.zero_add] at this
    · rw [List.getElem?_append_right (by omega), List.getElem?_replicate] at hi
      split at hi <;> simp at hi
/-- a contract of a method that makes nothing -/
def ConN (D : MD) (d : Nat) (av : List Value) (M : MM) (P : Option Value → MM → Prop) : Prop := Con D d 0 0 av M (fun v M' => P v M' ∧ M'.length = M.length)
abbrev ConP (D : MD) (d : Nat) (av : List Value) (M : MM) (r : Option Value) : Prop := ConN D d av M (fun v M' => v = r ∧ M' = M)
abbrev B0 (d : Nat) : BB := (d, 0, 0, 0, 0)
theorem ConN.ofV {D : MD} {d : Nat} {av : List Value} {M : MM} {P : Option Value → MM → Prop} (L0 : List (Option Value)) (hy : plainName D.1.cls = true) (hn : (entO av).length ≤ D.2.2.1) (hL : entL D.2.2.1 av = L0) (h : V D (B0 d) 0 L0 [] M (fun v M' => P v M' ∧ M'.length = M.length)) : ConN D d av M P := Con.ofV L0 hy hn hL h
theorem Met.imp {l : Launch} {y : MethodName} {ws : List Cond} {rm : Room} {Pc : Array Value → State → Prop} {Qc Qc' : Array Value → State → Outcome → State → Prop} {mc ms : Nat} {free : Addr → Prop} (h : Met l y ws rm Pc Qc mc ms free) (hq : ∀ a s o t, Qc a s o t → Qc' a s o t) : Met l y ws rm Pc Qc' mc ms free := by
  intro p e ha hc hk s m args below hf happ hP hT
  obtain ⟨t, o, h1, h2, h3, h4, h5⟩ := h p e ha hc hk s m args below hf happ hP hT
  exact ⟨t, o, h1, h2, h3, hq _ _ _ _ h4, h5⟩
theorem Con.imp {D : MD} {d mc ms : Nat} {av : List Value} {M : MM} {P Q : Option Value → MM → Prop} (h : Con D d mc ms av M P) (hq : ∀ v M', P v M' → Q v M') : Con D d mc ms av M Q := fun l G ad sz =>
  (h l G ad sz).imp fun _ _ _ _ ⟨⟨v, M', ad', h1, h2, h3⟩, h4⟩ => ⟨⟨v, M', ad', h1, hq v M' h2, h3⟩, h4⟩
theorem ConN.imp {D : MD} {d : Nat} {av : List Value} {M : MM} {P Q : Option Value → MM → Prop} (h : ConN D d av M P) (hq : ∀ v M', M'.length = M.length → P v M' → Q v M') : ConN D d av M Q := Con.imp h fun v M' g => ⟨hq v M' g.2 g.1, g.2⟩
section VC
variable {D : MD} {b : BB} {pc : Nat} {L : List (Option Value)} {st : List Value} {M : MM} {Out : Option Value → MM → Prop}
variable {p : Program} {l : Launch} {e : Env} {s : State} {m : MethodId} {args : Array Value} {below : List Frame} {meth : Method} {c : Code} {H : Heap} {locs : List Loc} {G : va_G} {ad0 : Nat → Nat} {n0 : Nat} {ad : Nat → Nat} {A : Nat → Prop} {ls : Array Slot}
def okO (n : Nat) (o : Option Value) : Bool := match o with
  | some v => okV n v
  | none => true
/-- the callee's start, out of the caller's state -/
theorem Vx.pre {av : List Value} (hX : Vx D L M p s m args meth c H locs G ad0 n0 ad A ls) (U : State) (hU : U.heap = H) (hW : s.WarmedH U.vm) : va_Pc (av.map (tr ad)) (fun U => U.heap.size = H.size ∧ Hl G ad M (Ar ad M.length H.size) U U.heap ∧ Sx ad (Ar ad M.length H.size) U U.heap) (av.map (tr ad)).toArray U := by
  have hA1 := hX.2.1.Ar hX.2.2.2.2.1 hX.2.2.2.1.1
  refine ⟨rfl, by rw [hU], ?_, ?_⟩
  · rw [hU]; exact (hX.2.1.self _).moved hW.alike
  · rw [hU]; exact ((hX.2.2.1.kept hX.2.2.2.1.2.1).narrow hA1).moved hW
theorem pc_blind {ad : Nat → Nat} {A : Nat → Prop} {G : va_G} {M : MM} {sz : Nat} {av : List Value} : FrameBlind (va_Pc av (fun U => U.heap.size = sz ∧ Hl G ad M A U U.heap ∧ Sx ad A U U.heap)) := by
  rintro a U g mk ⟨e, h1, h2, h3⟩
  exact ⟨e, h1, Hl.moved (u := U) (U := U.calling g mk a) (Vm.Alike.refl U.vm) h2, Sx.moved (u := U) (U := U.calling g mk a) (State.WarmedH.refl U) h3⟩
/-- what comes back -/
theorem Vx.call {P : Option Value → MM → Prop} {mc ms : Nat} {a : Array Value} {st0 rest : List Value} (hX : Vx D L M p s m args meth c H locs G ad0 n0 ad A ls)
    (hr : va_Run p l e (rmO b.1 b.2.1 b.2.2.1) s m args below meth c H locs b.2.2.2.1 b.2.2.2.2 mc ms (F0 m pc ls st0) (rest.map (tr ad)) (Qo G ad M.length (Ar ad M.length H.size) P a) (Ar ad M.length H.size))
    (hv : (∀ v M', P v M' → M'.length = M.length) ∨ (L.all (okO M.length) = true ∧ rest.all (okV M.length) = true))
    (kk : ∀ v M', P v M' → V D (b.1, b.2.1, b.2.2.1, b.2.2.2.1 + mc, b.2.2.2.2 + ms) (pc + 3) L (v.toList ++ rest) M' Out) :
    W p l e (rmO b.1 b.2.1 b.2.2.1) s m args below meth c H locs b.2.2.2.1 b.2.2.2.2 (MQ below (Qo G ad0 n0 A Out) args s b.2.1 b.2.2.1 A) (F0 m pc ls st0) := by
  have hA1 := hX.2.1.Ar hX.2.2.2.2.1 hX.2.2.2.1.1
  intro T hT X
  obtain ⟨v, st₀, t, T', Lc, h0, X', hL, e1, e2, ⟨⟨v', M', ad', hv', hp, hE, hn, hH⟩, hz, hk⟩, stp⟩ := hr T hT X
  have hvv : v = v'.map (tr ad') := by cases hv'; rfl
  rw [h0] at hz hk
  have hS := hX.2.2.2.1
  have hS' : va_S A s.heap T'.heap (locs ++ Lc) := ⟨Nat.le_trans hS.1 (by rw [e1]; exact hz), fun q h1 h2 => by
      rw [e1, hk q (Nat.lt_of_lt_of_le h1 hS.1) (fun z => h2 (hA1 q z))]; exact hS.2.1 q h1 h2, fun q hq => by
      rcases List.mem_append.mp hq with h | h
      · exact hS.2.2 q h
      · exact hA1 _ (hL q h)⟩
  have hLx : Lh ad' ls D.2.2.1 L ∧ rest.map (tr ad') = rest.map (tr ad) := by
    rcases hv with h | ⟨h1, h2⟩
    · rw [hE.2 (h v' M' hp)]; exact ⟨hX.2.2.2.2.2.2.2, rfl⟩
    · refine ⟨⟨hX.2.2.2.2.2.2.2.1, hX.2.2.2.2.2.2.2.2.1, hX.2.2.2.2.2.2.2.2.2.1, fun i u hi => ?_⟩, tr_map hE.1 h2⟩
      have := List.all_eq_true.mp h1 _ (List.mem_of_getElem? hi)
      rw [tr_ext hE.1 (this : okV M.length u = true)]
      exact hX.2.2.2.2.2.2.2.2.2.2 i u hi
  have hX' : Vx D L M' p s m args meth c T'.heap (locs ++ Lc) G ad0 n0 ad' A ls := by
    refine ⟨hX.1, ?_, hX.2.2.1.ad (fun k hk => hE.1 k (Or.inr hk)), hS', hX.2.2.2.2.1, hX.2.2.2.2.2.1.trans hE hX.2.2.2.2.2.2.1 hn, Nat.le_trans hX.2.2.2.2.2.2.1 hn, hLx.1⟩
    have h1 : t.vm.Alike s.vm := by rw [← e2]; exact X'.warmed.alike.symm
    have h2 := (hH.A hA1).moved h1
    rw [← e1] at h2
    exact h2
  obtain ⟨t2, a1, b1⟩ := kk v' M' hp p l e s m args below meth c T'.heap (locs ++ Lc) G ad0 n0 ad' A ls hX' T' rfl X'
  refine ⟨t2, stp t2 ?_, b1⟩
  have e3 : (v'.toList ++ rest).map (tr ad') = v.toList ++ rest.map (tr ad) := by
    rw [List.map_append, hLx.2, hvv]
    cases v' <;> rfl
  rw [← e3]
  exact a1
def LkB (D' : MD) (n : Nat) : Prop := Cond.initialized D'.1.cls ∈ TT ∧ Cond.code D'.1 D'.2.1 D'.2.2.1 D'.2.2.2 ∈ TT ∧ (D'.1.cls ≠ "java/lang/invoke/MethodHandle" ∧ D'.1.cls ≠ "java/lang/invoke/VarHandle" ∧ (parseMethodDescriptor D'.1.desc).map (fun d => d.parameters.length) = some n) ∧ D'.2.2.1 ≤ 21
/-- links of calls: static, static of a nest mate, virtual, special, special of a nest mate -/
def LkS (own : String) (idx : Nat) (D' : MD) (n : Nat) : Prop := Cond.methodLink own idx D'.1 ∈ TT ∧ Cond.static D'.1 ∈ TT ∧ LkB D' n
def LkT (own : String) (idx : Nat) (D' : MD) (n : Nat) : Prop := Cond.methodLinkNest own idx D'.1 "WhoseThread" ∈ NWs ∧ Cond.static D'.1 ∈ TT ∧ LkB D' n
def LkV (own : String) (idx : Nat) (D' : MD) (n : Nat) : Prop := Cond.methodLink own idx D'.1 ∈ TT ∧ (Cond.instanceMethod D'.1 ∈ TT ∧ Cond.selects D'.1.cls D'.1 D'.1 ∈ TT) ∧ LkB D' n
def LkI (own : String) (idx : Nat) (D' : MD) (n : Nat) : Prop := Cond.methodLink own idx D'.1 ∈ TT ∧ (D'.1.name = "<init>" ∧ Cond.instanceMethod D'.1 ∈ TT ∧ D'.2.2.2 = none) ∧ LkB D' n
def LkJ (own : String) (idx : Nat) (D' : MD) (n : Nat) : Prop := Cond.methodLinkNest own idx D'.1 "WhoseThread" ∈ NWs ∧ (D'.1.name = "<init>" ∧ Cond.instanceMethod D'.1 ∈ TT ∧ D'.2.2.2 = none) ∧ LkB D' n
theorem cat_map (ad : Nat → Nat) (st : List Value) : ((st.map (tr ad)).map fun v => v.category) = st.map fun v => v.category := by
  rw [List.map_map]; exact List.map_congr_left fun v _ => tr_cat ad v
theorem V_callS_ {D' : MD} {idx n d' mc ms : Nat} {av rest : List Value} {P : Option Value → MM → Prop} (hl : LkS D.1.cls idx D' n) (hC : Con D' d' mc ms av M P) (hn : av.length = n) (hd' : d' + 1 ≤ b.1) (hc : b.2.2.2.1 + mc ≤ b.2.1 ∧ b.2.2.2.2 + ms ≤ b.2.2.1) (hW : (rest.map fun v => v.category).sum ≤ 8) (hd : decode D.2.1 pc = .ok (.invokestatic idx, 3)) (hst : st = av.reverse ++ rest)
    (hv : (∀ v M', P v M' → M'.length = M.length) ∨ (L.all (okO M.length) = true ∧ rest.all (okV M.length) = true))
    (kk : ∀ v M', P v M' → V D (b.1, b.2.1, b.2.2.1, b.2.2.2.1 + mc, b.2.2.2.2 + ms) (pc + 3) L (v.toList ++ rest) M' Out) : V D b pc L st M Out := by
  intro p l e s m args below meth c H locs G ad0 n0 ad A ls hX
  obtain ⟨h1, h2, h3, h4, h5, h6⟩ := hl
  have hts := hX.1.2.2.2.2.2.1
  subst hst
  refine hX.call (a := (av.map (tr ad)).toArray) (mc := mc) (ms := ms) (va_runS (Ts := TT) (As := av.map (tr ad)) (n := n) ⟨hX.1.1, hX.1.2.1, hX.1.2.2.1, hX.1.2.2.2.2.1, hts⟩ (hC l G ad H.size) ⟨callB_of n hts (wsD_good h4) rfl rfl rfl (hts _ h3) (hts _ h1) h5 ⟨?_, ?_⟩, hts _ h2⟩ ⟨pc_blind, hX.pre⟩ rfl (by simpa using hn) hX.2.2.2.2.2.2.2.1 ?_ ?_ hd hc) hv kk
  · show d' + 1 ≤ b.1; exact hd'
  · show 8 + (D'.2.2.1 + 11) + 40 * d' ≤ 40 * b.1; omega
  · show (av.reverse ++ rest).map (tr ad) = _; rw [List.map_append, List.map_reverse]
  · rw [cat_map]; exact Nat.le_trans (by simp [JFrame.monitorRoom]) hW
theorem V_callT_ {D' : MD} {idx n d' mc ms : Nat} {av rest : List Value} {P : Option Value → MM → Prop} (hl : LkT D.1.cls idx D' n) (hC : Con D' d' mc ms av M P) (hn : av.length = n) (hd' : d' + 1 ≤ b.1) (hc : b.2.2.2.1 + mc ≤ b.2.1 ∧ b.2.2.2.2 + ms ≤ b.2.2.1) (hW : (rest.map fun v => v.category).sum ≤ 8) (hd : decode D.2.1 pc = .ok (.invokestatic idx, 3)) (hst : st = av.reverse ++ rest)
    (hv : (∀ v M', P v M' → M'.length = M.length) ∨ (L.all (okO M.length) = true ∧ rest.all (okV M.length) = true))
    (kk : ∀ v M', P v M' → V D (b.1, b.2.1, b.2.2.1, b.2.2.2.1 + mc, b.2.2.2.2 + ms) (pc + 3) L (v.toList ++ rest) M' Out) : V D b pc L st M Out := by
  intro p l e s m args below meth c H locs G ad0 n0 ad A ls hX
  obtain ⟨h1, h2, h3, h4, h5, h6⟩ := hl
  have hts := hX.1.2.2.2.2.2.1
  subst hst
  refine hX.call (a := (av.map (tr ad)).toArray) (mc := mc) (ms := ms) (va_runSN (Ts := TT) (As := av.map (tr ad)) (n := n) ⟨hX.1.1, hX.1.2.1, hX.1.2.2.1, hX.1.2.2.2.2.1, hts⟩ (hC l G ad H.size) ⟨va_cnB n hts (wsD_good h4) rfl rfl rfl (hX.2.2.1.1 _ h1) (hts _ h3) h5 ⟨?_, ?_⟩, hts _ h2, trivial⟩ ⟨pc_blind, hX.pre⟩ rfl (by simpa using hn) hX.2.2.2.2.2.2.2.1 ?_ ?_ hd hc) hv kk
  · show d' + 1 ≤ b.1; exact hd'
  · show 8 + (D'.2.2.1 + 11) + 40 * d' ≤ 40 * b.1; omega
  · show (av.reverse ++ rest).map (tr ad) = _; rw [List.map_append, List.map_reverse]
  · rw [cat_map]; exact Nat.le_trans (by simp [JFrame.monitorRoom]) hW
theorem Hl.recv {ci a : Nat} {fs : List Value} {C : String} {T : u_T} {N : Nat} (h : Hl G ad M A s H) (hM : M[a]? = some (cO ci fs)) (hc : vwCl[ci]? = some (C, T, N)) : ∃ cellB : Cell, H[ad a]? = some cellB ∧ cellB.vm.isStatics = false ∧ s.vm.findClass C = some cellB.cls := by
  obtain ⟨ca, hP, -, hK, -⟩ := h
  obtain ⟨r, g1, cell, q1, q2, q3, q4⟩ := hP a _ (Hl.at (G := G) hM)
  have hKn := hK.1 ci _ hc
  exact ⟨cell, q1, by rw [q3]; rfl, by rw [q2]; exact hKn.2.1⟩
theorem V_callV_ {D' : MD} {idx n d' mc ms ci a : Nat} {fs : List Value} {T : u_T} {N : Nat} {av rest : List Value} {P : Option Value → MM → Prop} (hl : LkV D.1.cls idx D' n) (hci : vwCl[ci]? = some (D'.1.cls, T, N)) (hM : M[a]? = some (cO ci fs)) (hC : Con D' d' mc ms (.ref a :: av) M P) (hn : av.length = n) (hd' : d' + 1 ≤ b.1) (hc : b.2.2.2.1 + mc ≤ b.2.1 ∧ b.2.2.2.2 + ms ≤ b.2.2.1) (hW : (rest.map fun v => v.category).sum ≤ 8) (hd : decode D.2.1 pc = .ok (.invokevirtual idx, 3)) (hst : st = av.reverse ++ .ref a :: rest)
    (hv : (∀ v M', P v M' → M'.length = M.length) ∨ (L.all (okO M.length) = true ∧ rest.all (okV M.length) = true))
    (kk : ∀ v M', P v M' → V D (b.1, b.2.1, b.2.2.1, b.2.2.2.1 + mc, b.2.2.2.2 + ms) (pc + 3) L (v.toList ++ rest) M' Out) : V D b pc L st M Out := by
  intro p l e s m args below meth c H locs G ad0 n0 ad A ls hX
  obtain ⟨h1, ⟨h2, h2'⟩, h3, h4, h5, h6⟩ := hl
  have hts := hX.1.2.2.2.2.2.1
  subst hst
  refine hX.call (a := ((Value.ref a :: av).map (tr ad)).toArray) (mc := mc) (ms := ms) (va_runV (Ts := TT) (b := ad a) (C := D'.1.cls) (As := av.map (tr ad)) (n := n) ⟨hX.1.1, hX.1.2.1, hX.1.2.2.1, hX.1.2.2.2.2.1, hts⟩ (hC l G ad H.size) ⟨callB_of n hts (wsD_good h4) rfl rfl rfl (hts _ h3) (hts _ h1) h5 ⟨?_, ?_⟩, hts _ h2, hts _ h2'⟩ ⟨pc_blind, hX.2.1.recv hM hci, hX.pre⟩ rfl (by simpa using hn) hX.2.2.2.2.2.2.2.1 ?_ ?_ hd hc) hv kk
  · show d' + 1 ≤ b.1; exact hd'
  · show 8 + (D'.2.2.1 + 11) + 40 * d' ≤ 40 * b.1; omega
  · show (av.reverse ++ .ref a :: rest).map (tr ad) = _; rw [List.map_append, List.map_reverse]; rfl
  · rw [cat_map]; exact Nat.le_trans (by simp [JFrame.monitorRoom]) hW
theorem V_callVS_ {D' : MD} {idx n d' i : Nat} {av rest : List Value} {P : Option Value → MM → Prop} (hl : LkV D.1.cls idx D' n) (hcl : D'.1.cls = "java/lang/String") (hi : i < 10) (hC : Con D' d' 0 0 (.ref (1000 + i) :: av) M P) (hn : av.length = n) (hd' : d' + 1 ≤ b.1) (hc : b.2.2.2.1 + 0 ≤ b.2.1 ∧ b.2.2.2.2 + 0 ≤ b.2.2.1) (hW : (rest.map fun v => v.category).sum ≤ 8) (hd : decode D.2.1 pc = .ok (.invokevirtual idx, 3)) (hst : st = av.reverse ++ .ref (1000 + i) :: rest)
    (hv : (∀ v M', P v M' → M'.length = M.length) ∨ (L.all (okO M.length) = true ∧ rest.all (okV M.length) = true))
    (kk : ∀ v M', P v M' → V D (b.1, b.2.1, b.2.2.1, b.2.2.2.1 + 0, b.2.2.2.2 + 0) (pc + 3) L (v.toList ++ rest) M' Out) : V D b pc L st M Out := by
  intro p l e s m args below meth c H locs G ad0 n0 ad A ls hX
  obtain ⟨h1, ⟨h2, h2'⟩, h3, h4, h5, h6⟩ := hl
  have hts := hX.1.2.2.2.2.2.1
  subst hst
  have hrv := vk_recv hX.2.2.1.2.1 hi hX.2.2.2.1
  rw [← hcl] at hrv
  refine hX.call (a := ((Value.ref (1000 + i) :: av).map (tr ad)).toArray) (mc := 0) (ms := 0) (va_runV (Ts := TT) (b := ad (1000 + i)) (C := D'.1.cls) (As := av.map (tr ad)) (n := n) ⟨hX.1.1, hX.1.2.1, hX.1.2.2.1, hX.1.2.2.2.2.1, hts⟩ (hC l G ad H.size) ⟨callB_of n hts (wsD_good h4) rfl rfl rfl (hts _ h3) (hts _ h1) h5 ⟨?_, ?_⟩, hts _ h2, hts _ h2'⟩ ⟨pc_blind, hrv, hX.pre⟩ rfl (by simpa using hn) hX.2.2.2.2.2.2.2.1 ?_ ?_ hd hc) hv kk
  · show d' + 1 ≤ b.1; exact hd'
  · show 8 + (D'.2.2.1 + 11) + 40 * d' ≤ 40 * b.1; omega
  · show (av.reverse ++ .ref (1000 + i) :: rest).map (tr ad) = _; rw [List.map_append, List.map_reverse]; rfl
  · rw [cat_map]; exact Nat.le_trans (by simp [JFrame.monitorRoom]) hW
theorem V_callI {D' : MD} {idx n d' mc ms a : Nat} {av rest : List Value} {P : Option Value → MM → Prop} (hl : LkI D.1.cls idx D' n) (hC : Con D' d' mc ms (.ref a :: av) M P) (hn : av.length = n) (hd' : d' + 1 ≤ b.1) (hc : b.2.2.2.1 + mc ≤ b.2.1 ∧ b.2.2.2.2 + ms ≤ b.2.2.1) (hW : (rest.map fun v => v.category).sum ≤ 8) (hd : decode D.2.1 pc = .ok (.invokespecial idx, 3)) (hst : st = av.reverse ++ .ref a :: rest)
    (hv : (∀ v M', P v M' → M'.length = M.length) ∨ (L.all (okO M.length) = true ∧ rest.all (okV M.length) = true))
    (kk : ∀ v M', P v M' → V D (b.1, b.2.1, b.2.2.1, b.2.2.2.1 + mc, b.2.2.2.2 + ms) (pc + 3) L (v.toList ++ rest) M' Out) : V D b pc L st M Out := by
  intro p l e s m args below meth c H locs G ad0 n0 ad A ls hX
  obtain ⟨h1, ⟨h2, h2', h2''⟩, h3, h4, h5, h6⟩ := hl
  have hts := hX.1.2.2.2.2.2.1
  subst hst
  have hC := hC l G ad H.size
  have hw : wsD D' = Cond.code D'.1 D'.2.1 D'.2.2.1 none :: TT := by rw [wsD, h2'']
  refine hX.call (a := ((Value.ref a :: av).map (tr ad)).toArray) (mc := mc) (ms := ms) (va_runI (Ts := TT) (b := ad a) (As := av.map (tr ad)) (n := n) (bytes := D'.2.1) (maxL := D'.2.2.1) ⟨hX.1.1, hX.1.2.1, hX.1.2.2.1, hX.1.2.2.2.2.1, hts⟩ hC ⟨callB_of n hts (wsD_good h4) hw rfl rfl (hts _ h3) (hts _ h1) h5 ⟨?_, ?_⟩, h2, hts _ h2'⟩ ⟨pc_blind, hX.pre⟩ rfl (by simpa using hn) hX.2.2.2.2.2.2.2.1 ?_ ?_ hd hc) hv kk
  · show d' + 1 ≤ b.1; exact hd'
  · show 8 + (D'.2.2.1 + 11) + 40 * d' ≤ 40 * b.1; omega
  · show (av.reverse ++ .ref a :: rest).map (tr ad) = _; rw [List.map_append, List.map_reverse]; rfl
  · rw [cat_map]; exact Nat.le_trans (by simp [JFrame.monitorRoom]) hW
theorem V_callJ {D' : MD} {idx n d' mc ms a : Nat} {av rest : List Value} {P : Option Value → MM → Prop} (hl : LkJ D.1.cls idx D' n) (hC : Con D' d' mc ms (.ref a :: av) M P) (hn : av.length = n) (hd' : d' + 1 ≤ b.1) (hc : b.2.2.2.1 + mc ≤ b.2.1 ∧ b.2.2.2.2 + ms ≤ b.2.2.1) (hW : (rest.map fun v => v.category).sum ≤ 8) (hd : decode D.2.1 pc = .ok (.invokespecial idx, 3)) (hst : st = av.reverse ++ .ref a :: rest)
    (hv : (∀ v M', P v M' → M'.length = M.length) ∨ (L.all (okO M.length) = true ∧ rest.all (okV M.length) = true))
    (kk : ∀ v M', P v M' → V D (b.1, b.2.1, b.2.2.1, b.2.2.2.1 + mc, b.2.2.2.2 + ms) (pc + 3) L (v.toList ++ rest) M' Out) : V D b pc L st M Out := by
  intro p l e s m args below meth c H locs G ad0 n0 ad A ls hX
  obtain ⟨h1, ⟨h2, h2', h2''⟩, h3, h4, h5, h6⟩ := hl
  have hts := hX.1.2.2.2.2.2.1
  subst hst
  have hC := hC l G ad H.size
  have hw : wsD D' = Cond.code D'.1 D'.2.1 D'.2.2.1 none :: TT := by rw [wsD, h2'']
  refine hX.call (a := ((Value.ref a :: av).map (tr ad)).toArray) (mc := mc) (ms := ms) (va_runIN (Ts := TT) (b := ad a) (As := av.map (tr ad)) (n := n) (bytes := D'.2.1) (maxL := D'.2.2.1) ⟨hX.1.1, hX.1.2.1, hX.1.2.2.1, hX.1.2.2.2.2.1, hts⟩ hC ⟨va_cnB n hts (wsD_good h4) hw rfl rfl (hX.2.2.1.1 _ h1) (hts _ h3) h5 ⟨?_, ?_⟩, h2, hts _ h2'⟩ ⟨pc_blind, hX.pre⟩ rfl (by simpa using hn) hX.2.2.2.2.2.2.2.1 ?_ ?_ hd hc) hv kk
  · show d' + 1 ≤ b.1; exact hd'
  · show 8 + (D'.2.2.1 + 11) + 40 * d' ≤ 40 * b.1; omega
  · show (av.reverse ++ .ref a :: rest).map (tr ad) = _; rw [List.map_append, List.map_reverse]; rfl
  · rw [cat_map]; exact Nat.le_trans (by simp [JFrame.monitorRoom]) hW
end VC
end
section
section VM
variable {D : MD} {b : BB} {pc : Nat} {L : List (Option Value)} {st : List Value} {M : MM} {Out : Option Value → MM → Prop}
theorem okV_up {n n' : Nat} (h : n ≤ n') {v : Value} (hv : okV n v = true) : okV n' v = true := by
  cases v <;> try rfl
  simp only [okV, Bool.or_eq_true, decide_eq_true_eq] at hv ⊢
  exact hv.imp (fun g => Nat.lt_of_lt_of_le g h) id
theorem okC_up {n n' : Nat} (h : n ≤ n') {x : CC} (hx : okC n x = true) : okC n' x = true := by
  match x, hx with
  | .inl l, _ => rfl
  | .inr (.inl l), _ => rfl
  | .inr (.inr (.inl l)), hx =>
    refine List.all_eq_true.mpr fun o ho => ?_
    have := List.all_eq_true.mp hx o ho
    cases o with
    | none => rfl
    | some k => simp only [decide_eq_true_eq] at this ⊢; omega
  | .inr (.inr (.inr (t, fs))), hx => exact List.all_eq_true.mpr fun v hv => okV_up h (List.all_eq_true.mp hx v hv)
/-- behind a making -/
theorem Vx.made {D : MD} {L : List (Option Value)} {M : MM} {p : Program} {s : State} {m : MethodId} {args : Array Value} {meth : Method} {c : Code} {H H1 : Heap} {locs : List Loc} {G : va_G} {ad0 : Nat → Nat} {n0 : Nat} {ad : Nat → Nat} {A : Nat → Prop} {ls : Array Slot} {q : Nat} {x : CC} {ca : Nat → ClassId} {cA : ClassId} (hX : Vx D L M p s m args meth c H locs G ad0 n0 ad A ls) (hL : L.all (okO M.length) = true) (hlt : M.length < 999) (hx : ∀ ad, toE ad cA x = toE (fun k => k) cA x) (hxo : okC (M.length + 1) x = true)
    (hP : va_P G vwCl (wsF ad ca 0 M ++ [(q, toE (fun k => k) cA x)]) H1) (hD : va_D A (wsF ad ca 0 M ++ [(q, toE (fun k => k) cA x)])) (hK : va_K G vwCl [] s) (hT : ∀ (i : Nat) (x : CC) (ty : FieldType), M[i]? = some x → tyE x = some ty → ArrOfT s (ca i) ty ∧ va_RA s (ca i) ty) (hTx : ∀ ty, tyE x = some ty → ArrOfT s cA ty ∧ va_RA s cA ty) (hS : va_S A s.heap H1 locs) :
    Vx D L (M ++ [x]) p s m args meth c H1 locs G ad0 n0 (fun k => if k = M.length then q else ad k) A ls := by
  obtain ⟨_, -, -, -, -, ho, -⟩ := hX.2.1
  have e : wsF ad ca 0 M ++ [(q, toE (fun k => k) cA x)] = wsF (fun k => if k = M.length then q else ad k) (fun k => if k = M.length then cA else ca k) 0 (M ++ [x]) := by
    rw [wsF_app, Nat.zero_add, if_pos rfl, if_pos rfl, hx (fun k => if k = M.length then q else ad k)]
    rw [wsF_ext (n := M.length) (ad := ad) (ca := ca) (fun k hk => if_neg (by omega)) (fun k hk => if_neg (by omega)) M 0 (by omega) ho]
  rw [e] at hP hD
  have hlen : (M ++ [x]).length = M.length + 1 := by simp
  refine ⟨hX.1, ⟨_, hP, hD, hK, fun i z ty hz hty => ?_, ?_, by omega⟩, hX.2.2.1.ad (fun k hk => if_neg (by omega)), hS, hX.2.2.2.2.1, ?_, by have := hX.2.2.2.2.2.2.1; omega, hX.2.2.2.2.2.2.2.1, hX.2.2.2.2.2.2.2.2.1, hX.2.2.2.2.2.2.2.2.2.1, fun i u hi => ?_⟩
  · show ArrOfT s (if i = M.length then cA else ca i) ty ∧ va_RA s (if i = M.length then cA else ca i) ty
    by_cases hi : i < M.length
    · rw [List.getElem?_append_left hi] at hz
      rw [if_neg (by omega)]
      exact hT i z ty hz hty
    · rw [List.getElem?_append_right (by omega)] at hz
      have hi2 : i - M.length = 0 := by have := (List.getElem?_eq_some_iff.mp hz).1; simp at this; omega
      rw [hi2] at hz
      cases hz
      rw [if_pos (by omega)]
      exact hTx ty hty
  · rw [hlen]
    intro y hy
    rcases List.mem_append.mp hy with h | h
    · exact okC_up (by omega) (ho y h)
    · simp at h; subst h; exact hxo
  · refine hX.2.2.2.2.2.1.trans (n1 := M.length) ⟨fun k hk => if_neg (by omega), fun e => by omega⟩ hX.2.2.2.2.2.2.1 (by omega)
  · rw [tr_ext (n := M.length) (ad := ad) (fun k hk => if_neg (by omega)) (List.all_eq_true.mp hL _ (List.mem_of_getElem? hi) : okV M.length u = true)]
    exact hX.2.2.2.2.2.2.2.2.2.2 i u hi
theorem tr_made {n q : Nat} {ad : Nat → Nat} {st : List Value} (hlt : n < 999) (hst : st.all (okV n) = true) : (Value.ref n :: st).map (tr (fun k => if k = n then q else ad k)) = .ref q :: st.map (tr ad) := by
  rw [List.map_cons, tr_map (n := n) (ad := ad) (fun k hk => if_neg (by omega)) hst]
  simp [tr]
theorem V_newi {x : Int32} {N : Nat} (harr : Cond.arrayClass .int ∈ TT) (hx : x = nI N) (hN : N < 100000) (hL : L.all (okO M.length) = true) (hst : st.all (okV M.length) = true) (hlt : M.length < 999) (hc : b.2.2.2.1 + 1 ≤ b.2.1) (hs : b.2.2.2.2 + N ≤ b.2.2.1) (hd : decode D.2.1 pc = .ok (.newarray .int, 2))
    (k : V D (b.1, b.2.1, b.2.2.1, b.2.2.2.1 + 1, b.2.2.2.2 + N) (pc + 2) L (.ref M.length :: st) (M ++ [cI (List.replicate N 0)]) Out) : V D b pc L (.int x :: st) M Out := by
  intro p l e s m args below meth c H locs G ad0 n0 ad A ls hX
  obtain ⟨ca, hP, hD, hK, hT, ho, -⟩ := id hX.2.1
  subst hx
  refine va_newa (atype := .int) (ty := .int) (N' := N) (a0 := (N, .inl (fun _ => 0))) hX.1.1 hX.1.2.1 (hX.1.2.2.2.2.2.1 _ harr) rfl hK hP hD hX.2.2.2.1 hX.2.2.2.2.1 (fun cA => rfl) (nI_pos (by omega)) (nI_clamp (by omega)) (by show N * 4 ≤ _; omega) hc hs hd (fun q cA H1 g0 g1 g2 g3 => ?_)
  have e1 : (.inl (cA, N, .inl (fun _ => 0)) : va_E) = toE (fun k => k) cA (cI (List.replicate N 0)) := by
    show _ = Sum.inl (cA, (List.replicate N (0 : Int32)).length, Sum.inl (fun j => (List.replicate N (0 : Int32)).getD j 0))
    have : (fun j => (List.replicate N (0 : Int32)).getD j 0) = fun _ => 0 := by
      funext j; rw [List.getD_eq_getElem?_getD, List.getElem?_replicate]; split <;> rfl
    rw [this, List.length_replicate]
  rw [e1] at g1 g2
  have := k p l e s m args below meth c H1 locs G ad0 n0 _ A ls (hX.made hL hlt (fun _ => rfl) rfl g1 g2 hK hT (fun ty hty => by cases hty; exact g0.2 0 _ rfl) g3)
  rw [tr_made hlt hst] at this
  exact this
theorem V_newz {x : Int32} {N : Nat} (harr : Cond.arrayClass .boolean ∈ TT) (hx : x = nI N) (hN : N < 100000) (hL : L.all (okO M.length) = true) (hst : st.all (okV M.length) = true) (hlt : M.length < 999) (hc : b.2.2.2.1 + 1 ≤ b.2.1) (hs : b.2.2.2.2 + N ≤ b.2.2.1) (hd : decode D.2.1 pc = .ok (.newarray .boolean, 2))
    (k : V D (b.1, b.2.1, b.2.2.1, b.2.2.2.1 + 1, b.2.2.2.2 + N) (pc + 2) L (.ref M.length :: st) (M ++ [cZ (List.replicate N 0)]) Out) : V D b pc L (.int x :: st) M Out := by
  intro p l e s m args below meth c H locs G ad0 n0 ad A ls hX
  obtain ⟨ca, hP, hD, hK, hT, ho, -⟩ := id hX.2.1
  subst hx
  refine va_newa (atype := .boolean) (ty := .boolean) (N' := N) (a0 := (N, .inl (fun _ => 0))) hX.1.1 hX.1.2.1 (hX.1.2.2.2.2.2.1 _ harr) rfl hK hP hD hX.2.2.2.1 hX.2.2.2.2.1 (fun cA => rfl) (nI_pos (by omega)) (nI_clamp (by omega)) (by show N * 1 ≤ _; omega) hc hs hd (fun q cA H1 g0 g1 g2 g3 => ?_)
  have e1 : (.inl (cA, N, .inl (fun _ => 0)) : va_E) = toE (fun k => k) cA (cZ (List.replicate N 0)) := by
    show _ = Sum.inl (cA, (List.replicate N (0 : Int32)).length, Sum.inl (fun j => (List.replicate N (0 : Int32)).getD j 0))
    have : (fun j => (List.replicate N (0 : Int32)).getD j 0) = fun _ => 0 := by
      funext j; rw [List.getD_eq_getElem?_getD, List.getElem?_replicate]; split <;> rfl
    rw [this, List.length_replicate]
  rw [e1] at g1 g2
  have := k p l e s m args below meth c H1 locs G ad0 n0 _ A ls (hX.made hL hlt (fun _ => rfl) rfl g1 g2 hK hT (fun ty hty => by cases hty; exact g0.2 0 _ rfl) g3)
  rw [tr_made hlt hst] at this
  exact this
theorem V_newq {x : Int32} {N idx : Nat} (hcl : Cond.classLink D.1.cls idx "WhoseThread$Loom" ∈ TT) (hx : x = nI N) (hN : N < 100000) (hL : L.all (okO M.length) = true) (hst : st.all (okV M.length) = true) (hlt : M.length < 999) (hc : b.2.2.2.1 + 1 ≤ b.2.1) (hs : b.2.2.2.2 + N ≤ b.2.2.1) (hd : decode D.2.1 pc = .ok (.anewarray idx, 3))
    (k : V D (b.1, b.2.1, b.2.2.1, b.2.2.2.1 + 1, b.2.2.2.2 + N) (pc + 3) L (.ref M.length :: st) (M ++ [cR (List.replicate N none)]) Out) : V D b pc L (.int x :: st) M Out := by
  intro p l e s m args below meth c H locs G ad0 n0 ad A ls hX
  obtain ⟨ca, hP, hD, hK, hT, ho, -⟩ := id hX.2.1
  subst hx
  refine va_newq (N' := N) hX.1.1 hX.1.2.1 hX.1.2.2.2.2.1 (hX.1.2.2.2.2.2.1 _ hcl) hX.2.2.1.2.2.2.2 hK hP hD hX.2.2.2.1 hX.2.2.2.2.1 (nI_pos (by omega)) (nI_clamp (by omega)) (by omega) hc hs hd (fun q cA H1 g0 g1 g2 g3 => ?_)
  have e0 : ∀ ad : Nat → Nat, toE ad cA (cR (List.replicate N none)) = .inl (cA, N, .inr (.inr (.inr (.inr (fun _ => none))))) := by
    intro ad
    show Sum.inl (cA, (List.replicate N (none : Option Nat)).length, Sum.inr (Sum.inr (Sum.inr (Sum.inr (fun j => ((List.replicate N (none : Option Nat)).getD j none).map ad))))) = _
    have : (fun j => ((List.replicate N (none : Option Nat)).getD j none).map ad) = fun _ => none := by
      funext j; rw [List.getD_eq_getElem?_getD, List.getElem?_replicate]; split <;> rfl
    rw [this, List.length_replicate]
  rw [← e0 (fun k => k)] at g1 g2
  have := k p l e s m args below meth c H1 locs G ad0 n0 _ A ls (hX.made hL hlt (fun ad => (e0 ad).trans (e0 _).symm) (List.all_eq_true.mpr fun o ho => by rw [List.eq_of_mem_replicate ho]) g1 g2 hK hT (fun ty hty => by cases hty; exact g0.2 0 _ rfl) g3)
  rw [tr_made hlt hst] at this
  exact this
/-- a class whose objects can be made -/
def FN (own : String) (idx ci : Nat) (fs : List Value) : Prop := ∃ (C : String) (T : u_T) (N : Nat) (ty : Nat → FieldType), vwCl[ci]? = some (C, T, N) ∧ (∀ w ∈ u_ws C T N, w ∈ TT) ∧ (∀ k, k < N → parseFieldDescriptor (T k).2.2.1 = some (ty k)) ∧ Cond.classLink own idx C ∈ TT ∧ Cond.instantiable C N ∈ TT ∧ Cond.initialized C ∈ TT ∧ (∀ j, j < N → defaultValue (ty j) = vp_V fs j) ∧ fs.length = N ∧ (∀ v ∈ fs, v = .null ∨ v = .int 0)
theorem V_new {idx ci : Nat} {fs : List Value} (hf : FN D.1.cls idx ci fs) (hL : L.all (okO M.length) = true) (hst : st.all (okV M.length) = true) (hlt : M.length < 999) (hc : b.2.2.2.1 + 1 ≤ b.2.1) (hs : b.2.2.2.2 + fs.length ≤ b.2.2.1) (hd : decode D.2.1 pc = .ok (.new idx, 3))
    (k : V D (b.1, b.2.1, b.2.2.1, b.2.2.2.1 + 1, b.2.2.2.2 + fs.length) (pc + 3) L (.ref M.length :: st) (M ++ [cO ci fs]) Out) : V D b pc L st M Out := by
  intro p l e s m args below meth c H locs G ad0 n0 ad A ls hX
  obtain ⟨ca, hP, hD, hK, hT, ho, -⟩ := id hX.2.1
  obtain ⟨C, T, N, ty, h1, h2, h3, h4, h5, h6, h7, h8, h9⟩ := hf
  subst h8
  refine va_new (fs := fs) hX.1.1 hX.1.2.1 hX.1.2.2.2.2.2.1 h2 ty h3 hX.1.2.2.2.2.1 (hX.1.2.2.2.2.2.1 _ h4) (hX.1.2.2.2.2.2.1 _ h5) (hX.1.2.2.2.2.2.1 _ h6) hK hP hD hX.2.2.2.1 hX.2.2.2.2.1 h1 h7 hc hs hd (fun q H1 g1 g2 g3 => ?_)
  have hm : ∀ ad : Nat → Nat, fs.map (tr ad) = fs := fun ad => by
    conv => rhs; rw [← List.map_id fs]
    exact List.map_congr_left fun v hv => by rcases h9 v hv with rfl | rfl <;> rfl
  have e1 : ∀ ad : Nat → Nat, (.inr (ci, fs) : va_E) = toE ad 0 (cO ci fs) := fun ad => by
    show _ = Sum.inr (ci, fs.map (tr ad)); rw [hm]
  rw [e1 (fun k => k)] at g1 g2
  have := k p l e s m args below meth c H1 locs G ad0 n0 _ A ls (hX.made (cA := 0) hL hlt (fun ad => (e1 ad).symm.trans (e1 _)) (List.all_eq_true.mpr fun v hv => by rcases h9 v hv with rfl | rfl <;> rfl) g1 g2 hK hT (fun ty hty => by cases hty) g3)
  rw [tr_made hlt hst] at this
  exact this
theorem V_aast {a v ci : Nat} {l : List (Option Nat)} {x : Int32} {vs : List Value} (hci : ci = 1) (hM : M[a]? = some (cR l)) (hv : M[v]? = some (cO ci vs)) (hx : vp_in x l.length) (hd : decode D.2.1 pc = .ok (.aastore, 1)) (k : V D b (pc + 1) L st (M.set a (cR (l.set x.toNatClampNeg (some v)))) Out) : V D b pc L (.ref v :: .int x :: .ref a :: st) M Out := by
  intro p l' e' s m args below meth c H locs G ad0 n0 ad A ls hX
  obtain ⟨ca, hP, hD, hK, hT, ho, -⟩ := id hX.2.1
  subst hci
  refine va_astq (tys := [(ca a, .object "WhoseThread$Loom")]) (r := (RX1, TX1, 9)) hX.1.1 hX.1.2.1 (kT hK (hT a _ _ hM rfl)) hP hD hX.2.2.2.1 a 0 v 1 (Hl.at (G := G) hM) rfl (Hl.at (G := G) hv) rfl hx hd (fun H1 locs1 g1 g2 g3 => ?_)
  have hlt : x.toNatClampNeg < l.length := Nat.not_le.mp fun q => hx (Or.inr q)
  have e : (.inl (ca a, l.length, .inr (.inr (.inr (.inr (va_up (fun j => (l.getD j none).map ad) x.toNatClampNeg (some (ad v))))))) : va_E) = toE ad (ca a) (cR (l.set x.toNatClampNeg (some v))) := by
    show _ = Sum.inl (ca a, (l.set x.toNatClampNeg (some v)).length, Sum.inr (Sum.inr (Sum.inr (Sum.inr (fun j => ((l.set x.toNatClampNeg (some v)).getD j none).map ad)))))
    have : (fun j => ((l.set x.toNatClampNeg (some v)).getD j none).map ad) = va_up (fun j => (l.getD j none).map ad) x.toNatClampNeg (some (ad v)) := by
      funext j
      unfold va_up
      simp only [List.getD_eq_getElem?_getD, List.getElem?_set]
      by_cases h : x.toNatClampNeg = j
      · subst h; simp [hlt]
      · rw [if_neg h, if_neg (fun e : j = _ => h e.symm)]
    rw [this, List.length_set]
  rw [e] at g1 g2
  refine k p l' e' s m args below meth c H1 locs1 G ad0 n0 ad A ls (hX.put hM rfl ?_ g1 g2 hK hT g3)
  have := okC_at ho hM
  refine List.all_eq_true.mpr fun o hoo => ?_
  rcases List.mem_or_eq_of_mem_set hoo with h | h
  · exact List.all_eq_true.mp this o h
  · subst h; simp only [decide_eq_true_eq]; exact (List.getElem?_eq_some_iff.mp hv).1
theorem V_objInit {idx a : Nat} (hl : Cond.methodLink D.1.cls idx Lib.objectInit ∈ TT) (hi : Cond.instanceMethod Lib.objectInit ∈ TT) (hc : Cond.code Lib.objectInit ⟨#[0xb1]⟩ 1 none ∈ TT) (hb : 1 ≤ b.1) (hd : decode D.2.1 pc = .ok (.invokespecial idx, 3)) (hW : (st.map fun v => v.category).sum ≤ 8) (k : V D b (pc + 3) L st M Out) : V D b pc L (.ref a :: st) M Out := by
  intro p l e s m args below meth c H locs G ad0 n0 ad A ls hX
  have hts := hX.1.2.2.2.2.2.1
  refine W.objInit hX.1.1 hX.1.2.1 hX.1.2.2.2.2.1 (hts _ hl) (hts _ hi) (hts _ hc) rfl ?_ rfl hd hb ?_ (k p l e s m args below meth c H locs G ad0 n0 ad A ls hX)
  · rw [hX.1.2.2.1]; exact hX.2.2.2.2.2.2.2.1
  · rw [cat_map]; show _ ≤ 40 * b.1; have : 2 * (F0 m pc ls ((Value.ref a :: st).map (tr ad))).monitorRoom = 0 := by simp [JFrame.monitorRoom]
    omega
def LkM (own : String) (idx : Nat) : Prop := Cond.methodLink own idx arraycopyName ∈ TT ∧ Cond.native arraycopyName ∈ TT ∧ Cond.static arraycopyName ∈ TT ∧ Cond.initialized "java/lang/System" ∈ TT
theorem cpy_all {f g : List Int32} {N : Nat} (hf : f.length = N) (hg : g.length = N) : va_cpy (fun j => f.getD j 0) (fun j => g.getD j 0) 0 0 N = fun j => f.getD j 0 := by
  funext j
  by_cases h : j < N
  · rw [pk_cpy_in (by omega) (by omega)]; simp
  · rw [pk_cpy_out (by omega), List.getD_eq_getElem?_getD, List.getD_eq_getElem?_getD, List.getElem?_eq_none (by omega), List.getElem?_eq_none (by omega)]
theorem V_acopy {idx a0 a1 N : Nat} {l0 l1 : List Int32} (hl : LkM D.1.cls idx) (h0 : M[a0]? = some (cI l0)) (h1 : M[a1]? = some (cI l1)) (e0 : l0.length = N) (e1 : l1.length = N) (hN : N < 100000) (hb : 1 ≤ b.1) (hd : decode D.2.1 pc = .ok (.invokestatic idx, 3)) (k : V D b (pc + 3) L [] (M.set a1 (cI l0)) Out) : V D b pc L [.int (nI N), .int (nI 0), .ref a1, .int (nI 0), .ref a0] M Out := by
  intro p l e s m args below meth c H locs G ad0 n0 ad A ls hX
  obtain ⟨ca, hP, hD, hK, hT, ho, -⟩ := id hX.2.1
  have hts := hX.1.2.2.2.2.2.1
  have hK2 : va_K G vwCl [(ca a0, .int), (ca a1, .int)] s := (kT hK (hT a0 _ .int h0 rfl)).app (kT hK (hT a1 _ .int h1 rfl))
  have c0 : (nI 0).toNatClampNeg = 0 := rfl
  have cN : (nI N).toNatClampNeg = N := nI_clamp (by omega)
  refine va_copyi (rest := []) hX.1.1 hX.1.2.1 (hX.1.2.2.1.trans hX.2.2.2.2.2.2.2.1.symm) hX.1.2.2.2.2.1 (hts _ hl.1) (hts _ hl.2.1) (hts _ hl.2.2.1) (hts _ hl.2.2.2) hK2 hP hD hX.2.2.2.1 a0 a1 0 1 (Hl.at (G := G) h0) (Hl.at (G := G) h1) rfl rfl rfl (nI_pos (by omega)) (nI_pos (by omega)) (nI_pos (by omega)) (by rw [c0, cN]; omega) (by rw [c0, cN]; omega) (fun i _ => rfl) hb ?_ hd (fun H1 locs1 g1 g2 g3 => ?_)
  · show _ ≤ 40 * b.1
    have : ((([] : List Value).map fun v => v.category).sum + (nativeFrameWords "java/lang/System" "arraycopy" 5 + 11)) ≤ 40 := by decide +kernel
    omega
  · rw [c0, cN, cpy_all e0 e1] at g1 g2
    have e2 : (.inl (ca a1, l1.length, .inl (fun j => l0.getD j 0)) : va_E) = toE ad (ca a1) (cI l0) := by
      show _ = Sum.inl (ca a1, l0.length, Sum.inl (fun j => l0.getD j 0)); rw [e0, e1]
    rw [e2] at g1 g2
    exact k p l e s m args below meth c H1 locs1 G ad0 n0 ad A ls (hX.put h1 rfl rfl g1 g2 hK hT g3)
def LkX (own : String) (idx : Nat) : Prop := Cond.methodLink own idx Lib.Math.max.name ∈ TT ∧ Cond.static Lib.Math.max.name ∈ TT ∧ Cond.initialized "java/lang/Math" ∈ TT ∧ Cond.code Lib.Math.max.name Lib.Math.max.code 2 (some .int) ∈ TT
def LkN (own : String) (idx : Nat) : Prop := Cond.methodLink own idx Lib.Math.min.name ∈ TT ∧ Cond.static Lib.Math.min.name ∈ TT ∧ Cond.initialized "java/lang/Math" ∈ TT ∧ Cond.code Lib.Math.min.name Lib.Math.min.code 2 (some .int) ∈ TT
theorem V_max {idx : Nat} {x y : Int32} (hl : LkX D.1.cls idx) (hb : 1 ≤ b.1) (hc : b.2.2.2.1 ≤ b.2.1 ∧ b.2.2.2.2 ≤ b.2.2.1) (hW : (st.map fun v => v.category).sum ≤ 8) (hd : decode D.2.1 pc = .ok (.invokestatic idx, 3)) (k : V D b (pc + 3) L (.int (if x < y then y else x) :: st) M Out) : V D b pc L (.int y :: .int x :: st) M Out := by
  intro p l e s m args below meth c H locs G ad0 n0 ad A ls hX
  have hts := hX.1.2.2.2.2.2.1
  exact va_mmax hX.1.1 hX.1.2.1 (hX.1.2.2.1.trans hX.2.2.2.2.2.2.2.1.symm) hX.1.2.2.2.2.1 (hts _ hl.1) (hts _ hl.2.1) (hts _ hl.2.2.1) (hts _ hl.2.2.2) hb (by rw [cat_map]; show _ ≤ 40 * b.1; omega) hc.1 hc.2 hd (k p l e s m args below meth c H locs G ad0 n0 ad A ls hX)
theorem V_min {idx : Nat} {x y : Int32} (hl : LkN D.1.cls idx) (hb : 1 ≤ b.1) (hc : b.2.2.2.1 ≤ b.2.1 ∧ b.2.2.2.2 ≤ b.2.2.1) (hW : (st.map fun v => v.category).sum ≤ 8) (hd : decode D.2.1 pc = .ok (.invokestatic idx, 3)) (k : V D b (pc + 3) L (.int (if y < x then y else x) :: st) M Out) : V D b pc L (.int y :: .int x :: st) M Out := by
  intro p l e s m args below meth c H locs G ad0 n0 ad A ls hX
  have hts := hX.1.2.2.2.2.2.1
  exact va_mmin hX.1.1 hX.1.2.1 (hX.1.2.2.1.trans hX.2.2.2.2.2.2.2.1.symm) hX.1.2.2.2.2.1 (hts _ hl.1) (hts _ hl.2.1) (hts _ hl.2.2.1) (hts _ hl.2.2.2) hb (by rw [cat_map]; show _ ≤ 40 * b.1; omega) hc.1 hc.2 hd (k p l e s m args below meth c H locs G ad0 n0 ad A ls hX)
/-- texts -/
theorem V_ldcS {idx i : Nat} {tx : String} (hc : D.1.cls = "WhoseThread$Text") (hi : txL[i]? = some (idx, tx)) (hd : decode D.2.1 pc = .ok (.ldc idx, 2)) (k : V D b (pc + 2) L (.ref (1000 + i) :: st) M Out) : V D b pc L st M Out := by
  intro p l e s m args below meth c H locs G ad0 n0 ad A ls hX
  exact va_ldcS hX.1.1 hX.1.2.1 (hc ▸ hX.1.2.2.2.2.1) (hX.2.2.1.2.2.1 i (idx, tx) hi) hd (k p l e s m args below meth c H locs G ad0 n0 ad A ls hX)
theorem V_gets {idx : Nat} (hl : Cond.fieldLink D.1.cls idx "java/lang/String" "COMPACT_STRINGS" "Z" ∈ TT) (hd : decode D.2.1 pc = .ok (.getstatic idx, 3)) (k : V D b (pc + 3) L (.int 1 :: st) M Out) : V D b pc L st M Out := by
  intro p l e s m args below meth c H locs G ad0 n0 ad A ls hX
  exact va_gets hX.1.1 hX.1.2.1 hX.2.2.1.2.2.2.1 hX.2.2.2.1 hX.1.2.2.2.2.1 (hX.1.2.2.2.2.2.1 _ hl) (fun _ h => h) hd (k p l e s m args below meth c H locs G ad0 n0 ad A ls hX)
theorem V_sval {idx i : Nat} (hi : i < 10) (hl : Cond.fieldLink D.1.cls idx "java/lang/String" "value" "[B" ∈ TT) (hd : decode D.2.1 pc = .ok (.getfield idx, 3)) (k : V D b (pc + 3) L (.ref (1100 + i) :: st) M Out) : V D b pc L (.ref (1000 + i) :: st) M Out := by
  intro p l e s m args below meth c H locs G ad0 n0 ad A ls hX
  exact vk_getf hX.1.1 hX.1.2.1 (hX.2.2.1.2.1.1 i hi).2.2.1 hX.2.2.2.1 hX.1.2.2.2.2.1 (hX.1.2.2.2.2.2.1 _ hl) (fun _ h => h) hd (k p l e s m args below meth c H locs G ad0 n0 ad A ls hX)
theorem V_scod {idx i : Nat} (hi : i < 10) (hl : Cond.fieldLink D.1.cls idx "java/lang/String" "coder" "B" ∈ TT) (hd : decode D.2.1 pc = .ok (.getfield idx, 3)) (k : V D b (pc + 3) L (.int 0 :: st) M Out) : V D b pc L (.ref (1000 + i) :: st) M Out := by
  intro p l e s m args below meth c H locs G ad0 n0 ad A ls hX
  exact vk_getf hX.1.1 hX.1.2.1 (hX.2.2.1.2.1.1 i hi).2.1 hX.2.2.2.1 hX.1.2.2.2.2.1 (hX.1.2.2.2.2.2.1 _ hl) (fun _ h => h) hd (k p l e s m args below meth c H locs G ad0 n0 ad A ls hX)
theorem V_slen {i : Nat} (hi : i < 10) (hd : decode D.2.1 pc = .ok (.arraylength, 1)) (k : V D b (pc + 1) L (.int (nI (txN.getD i 0)) :: st) M Out) : V D b pc L (.ref (1100 + i) :: st) M Out := by
  intro p l e s m args below meth c H locs G ad0 n0 ad A ls hX
  exact va_tlen hX.1.1 hX.1.2.1 (hX.2.2.1.2.1.1 i hi).2.2.2 hX.2.2.2.1 rfl hd (k p l e s m args below meth c H locs G ad0 n0 ad A ls hX)
theorem V_sbal {i : Nat} {x : Int32} (hi : i < 10) (hx : vp_in x (txN.getD i 0)) (hd : decode D.2.1 pc = .ok (.baload, 1)) (k : V D b (pc + 1) L (.int ((txB.getD i []).getD x.toNatClampNeg 0) :: st) M Out) : V D b pc L (.int x :: .ref (1100 + i) :: st) M Out := by
  intro p l e s m args below meth c H locs G ad0 n0 ad A ls hX
  exact va_tb hX.1.1 hX.1.2.1 (hX.2.2.1.2.1.1 i hi).2.2.2 hX.2.2.2.1 hx rfl hd (k p l e s m args below meth c H locs G ad0 n0 ad A ls hX)
end VM
end
