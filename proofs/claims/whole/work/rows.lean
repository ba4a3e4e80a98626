section
-- ===== PART A: goes FIRST, ahead of the names: the tables' words, and 'selects' of the private methods out of them =====
/-- a private method of a class that the tables say can be made, by its rows of tables_1 -/
def lw_okq (q : MethodName × Nat) : Prop := (q.1.cls ≠ "java/lang/invoke/MethodHandle" ∧ q.1.cls ≠ "java/lang/invoke/VarHandle") ∧ Cond.instantiable q.1.cls q.2 ∈ tables_1 ∧ Cond.privateMethod q.1 ∈ tables_1 ∧ Cond.instanceMethod q.1 ∈ tables_1
theorem lw_p0 : lw_okq (⟨"PackPost", "hasRowInDraft", "()Z"⟩, 12) := ⟨⟨by decide +kernel, by decide +kernel⟩, List.mem_of_getElem? (i := 13) (by decide +kernel), List.mem_of_getElem? (i := 328) (by decide +kernel), List.mem_of_getElem? (i := 329) (by decide +kernel)⟩
theorem lw_p1 : lw_okq (⟨"PackPost$PackWriter", "writeBody", "(LPackPost$Content;)V"⟩, 4) := ⟨⟨by decide +kernel, by decide +kernel⟩, List.mem_of_getElem? (i := 153) (by decide +kernel), List.mem_of_getElem? (i := 363) (by decide +kernel), List.mem_of_getElem? (i := 364) (by decide +kernel)⟩
theorem lw_p2 : lw_okq (⟨"PackPost$PackWriter", "writePairs", "(LPackPost$Content;I)V"⟩, 4) := ⟨⟨by decide +kernel, by decide +kernel⟩, List.mem_of_getElem? (i := 153) (by decide +kernel), List.mem_of_getElem? (i := 371) (by decide +kernel), List.mem_of_getElem? (i := 372) (by decide +kernel)⟩
theorem lw_p3 : lw_okq (⟨"PackPost$PackWriter", "writeOps", "(LPackPost$Content;I)V"⟩, 4) := ⟨⟨by decide +kernel, by decide +kernel⟩, List.mem_of_getElem? (i := 153) (by decide +kernel), List.mem_of_getElem? (i := 381) (by decide +kernel), List.mem_of_getElem? (i := 382) (by decide +kernel)⟩
theorem lw_p4 : lw_okq (⟨"PackPost$PackWriter", "searchMatch", "(LPackPost$Content;II)V"⟩, 4) := ⟨⟨by decide +kernel, by decide +kernel⟩, List.mem_of_getElem? (i := 153) (by decide +kernel), List.mem_of_getElem? (i := 385) (by decide +kernel), List.mem_of_getElem? (i := 386) (by decide +kernel)⟩
theorem lw_p5 : lw_okq (⟨"PackPost$PackWriter", "writePlainOps", "(LPackPost$Content;III)V"⟩, 4) := ⟨⟨by decide +kernel, by decide +kernel⟩, List.mem_of_getElem? (i := 153) (by decide +kernel), List.mem_of_getElem? (i := 392) (by decide +kernel), List.mem_of_getElem? (i := 393) (by decide +kernel)⟩
theorem lw_p6 : lw_okq (⟨"PackPost$PackWriter", "writePlain", "(LPackPost$Content;III)V"⟩, 4) := ⟨⟨by decide +kernel, by decide +kernel⟩, List.mem_of_getElem? (i := 153) (by decide +kernel), List.mem_of_getElem? (i := 396) (by decide +kernel), List.mem_of_getElem? (i := 397) (by decide +kernel)⟩
theorem lw_p7 : lw_okq (⟨"PackPost$PackWriter", "writeHead", "(LPackPost$Content;ZLPackPost$ByteRow;)V"⟩, 4) := ⟨⟨by decide +kernel, by decide +kernel⟩, List.mem_of_getElem? (i := 153) (by decide +kernel), List.mem_of_getElem? (i := 400) (by decide +kernel), List.mem_of_getElem? (i := 401) (by decide +kernel)⟩
theorem lw_p8 : lw_okq (⟨"PackPost", "keepDesk", "()I"⟩, 12) := ⟨⟨by decide +kernel, by decide +kernel⟩, List.mem_of_getElem? (i := 13) (by decide +kernel), List.mem_of_getElem? (i := 425) (by decide +kernel), List.mem_of_getElem? (i := 426) (by decide +kernel)⟩
theorem lw_p9 : lw_okq (⟨"PackPost", "packAt", "(I)LPackPost$ByteRow;"⟩, 12) := ⟨⟨by decide +kernel, by decide +kernel⟩, List.mem_of_getElem? (i := 13) (by decide +kernel), List.mem_of_getElem? (i := 440) (by decide +kernel), List.mem_of_getElem? (i := 441) (by decide +kernel)⟩
theorem lw_p10 : lw_okq (⟨"PackPost$PackReader", "hearTitle", "()V"⟩, 6) := ⟨⟨by decide +kernel, by decide +kernel⟩, List.mem_of_getElem? (i := 174) (by decide +kernel), List.mem_of_getElem? (i := 482) (by decide +kernel), List.mem_of_getElem? (i := 483) (by decide +kernel)⟩
theorem lw_p11 : lw_okq (⟨"PackPost$PackReader", "next", "(II)I"⟩, 6) := ⟨⟨by decide +kernel, by decide +kernel⟩, List.mem_of_getElem? (i := 174) (by decide +kernel), List.mem_of_getElem? (i := 486) (by decide +kernel), List.mem_of_getElem? (i := 487) (by decide +kernel)⟩
theorem lw_p12 : lw_okq (⟨"PackPost$PackReader", "hearNeeds", "()V"⟩, 6) := ⟨⟨by decide +kernel, by decide +kernel⟩, List.mem_of_getElem? (i := 174) (by decide +kernel), List.mem_of_getElem? (i := 492) (by decide +kernel), List.mem_of_getElem? (i := 493) (by decide +kernel)⟩
theorem lw_p13 : lw_okq (⟨"PackPost$PackReader", "isFine", "()Z"⟩, 6) := ⟨⟨by decide +kernel, by decide +kernel⟩, List.mem_of_getElem? (i := 174) (by decide +kernel), List.mem_of_getElem? (i := 496) (by decide +kernel), List.mem_of_getElem? (i := 497) (by decide +kernel)⟩
theorem lw_p14 : lw_okq (⟨"PackPost$PackReader", "refuseAt", "(I)V"⟩, 6) := ⟨⟨by decide +kernel, by decide +kernel⟩, List.mem_of_getElem? (i := 174) (by decide +kernel), List.mem_of_getElem? (i := 501) (by decide +kernel), List.mem_of_getElem? (i := 502) (by decide +kernel)⟩
theorem lw_p15 : lw_okq (⟨"PackPost$PackReader", "hearSeals", "()V"⟩, 6) := ⟨⟨by decide +kernel, by decide +kernel⟩, List.mem_of_getElem? (i := 174) (by decide +kernel), List.mem_of_getElem? (i := 506) (by decide +kernel), List.mem_of_getElem? (i := 507) (by decide +kernel)⟩
def lw_privs_1 : List (MethodName × Nat) := [(⟨"PackPost", "hasRowInDraft", "()Z"⟩, 12), (⟨"PackPost$PackWriter", "writeBody", "(LPackPost$Content;)V"⟩, 4), (⟨"PackPost$PackWriter", "writePairs", "(LPackPost$Content;I)V"⟩, 4), (⟨"PackPost$PackWriter", "writeOps", "(LPackPost$Content;I)V"⟩, 4), (⟨"PackPost$PackWriter", "searchMatch", "(LPackPost$Content;II)V"⟩, 4), (⟨"PackPost$PackWriter", "writePlainOps", "(LPackPost$Content;III)V"⟩, 4), (⟨"PackPost$PackWriter", "writePlain", "(LPackPost$Content;III)V"⟩, 4), (⟨"PackPost$PackWriter", "writeHead", "(LPackPost$Content;ZLPackPost$ByteRow;)V"⟩, 4), (⟨"PackPost", "keepDesk", "()I"⟩, 12), (⟨"PackPost", "packAt", "(I)LPackPost$ByteRow;"⟩, 12), (⟨"PackPost$PackReader", "hearTitle", "()V"⟩, 6), (⟨"PackPost$PackReader", "next", "(II)I"⟩, 6), (⟨"PackPost$PackReader", "hearNeeds", "()V"⟩, 6), (⟨"PackPost$PackReader", "isFine", "()Z"⟩, 6), (⟨"PackPost$PackReader", "refuseAt", "(I)V"⟩, 6), (⟨"PackPost$PackReader", "hearSeals", "()V"⟩, 6)]
theorem lw_r1 : ∀ q ∈ lw_privs_1, lw_okq q := List.forall_mem_cons.mpr ⟨lw_p0, List.forall_mem_cons.mpr ⟨lw_p1, List.forall_mem_cons.mpr ⟨lw_p2, List.forall_mem_cons.mpr ⟨lw_p3, List.forall_mem_cons.mpr ⟨lw_p4, List.forall_mem_cons.mpr ⟨lw_p5, List.forall_mem_cons.mpr ⟨lw_p6, List.forall_mem_cons.mpr ⟨lw_p7, List.forall_mem_cons.mpr ⟨lw_p8, List.forall_mem_cons.mpr ⟨lw_p9, List.forall_mem_cons.mpr ⟨lw_p10, List.forall_mem_cons.mpr ⟨lw_p11, List.forall_mem_cons.mpr ⟨lw_p12, List.forall_mem_cons.mpr ⟨lw_p13, List.forall_mem_cons.mpr ⟨lw_p14, List.forall_mem_cons.mpr ⟨lw_p15, fun _ h => absurd h List.not_mem_nil⟩⟩⟩⟩⟩⟩⟩⟩⟩⟩⟩⟩⟩⟩⟩⟩
theorem lw_p16 : lw_okq (⟨"PackPost$PackReader", "hearRows", "()V"⟩, 6) := ⟨⟨by decide +kernel, by decide +kernel⟩, List.mem_of_getElem? (i := 174) (by decide +kernel), List.mem_of_getElem? (i := 512) (by decide +kernel), List.mem_of_getElem? (i := 513) (by decide +kernel)⟩
theorem lw_p17 : lw_okq (⟨"PackPost$PackReader", "hearPair", "(I)I"⟩, 6) := ⟨⟨by decide +kernel, by decide +kernel⟩, List.mem_of_getElem? (i := 174) (by decide +kernel), List.mem_of_getElem? (i := 518) (by decide +kernel), List.mem_of_getElem? (i := 519) (by decide +kernel)⟩
theorem lw_p18 : lw_okq (⟨"PackPost$PackReader", "hearPages", "()V"⟩, 6) := ⟨⟨by decide +kernel, by decide +kernel⟩, List.mem_of_getElem? (i := 174) (by decide +kernel), List.mem_of_getElem? (i := 522) (by decide +kernel), List.mem_of_getElem? (i := 523) (by decide +kernel)⟩
theorem lw_p19 : lw_okq (⟨"PackPost$PackReader", "hearPairs", "(I)V"⟩, 6) := ⟨⟨by decide +kernel, by decide +kernel⟩, List.mem_of_getElem? (i := 174) (by decide +kernel), List.mem_of_getElem? (i := 526) (by decide +kernel), List.mem_of_getElem? (i := 527) (by decide +kernel)⟩
theorem lw_p20 : lw_okq (⟨"PackPost$PackReader", "lacking", "(I)I"⟩, 6) := ⟨⟨by decide +kernel, by decide +kernel⟩, List.mem_of_getElem? (i := 174) (by decide +kernel), List.mem_of_getElem? (i := 530) (by decide +kernel), List.mem_of_getElem? (i := 531) (by decide +kernel)⟩
theorem lw_p21 : lw_okq (⟨"PackPost$PackReader", "refuseIfLacking", "(I)V"⟩, 6) := ⟨⟨by decide +kernel, by decide +kernel⟩, List.mem_of_getElem? (i := 174) (by decide +kernel), List.mem_of_getElem? (i := 539) (by decide +kernel), List.mem_of_getElem? (i := 540) (by decide +kernel)⟩
theorem lw_p22 : lw_okq (⟨"PackPost$PackReader", "hearOps", "(I)V"⟩, 6) := ⟨⟨by decide +kernel, by decide +kernel⟩, List.mem_of_getElem? (i := 174) (by decide +kernel), List.mem_of_getElem? (i := 543) (by decide +kernel), List.mem_of_getElem? (i := 544) (by decide +kernel)⟩
theorem lw_p23 : lw_okq (⟨"PackPost$PackReader", "hearCopy", "(II)V"⟩, 6) := ⟨⟨by decide +kernel, by decide +kernel⟩, List.mem_of_getElem? (i := 174) (by decide +kernel), List.mem_of_getElem? (i := 547) (by decide +kernel), List.mem_of_getElem? (i := 548) (by decide +kernel)⟩
theorem lw_p24 : lw_okq (⟨"PackPost$PackReader", "hearPlain", "(II)V"⟩, 6) := ⟨⟨by decide +kernel, by decide +kernel⟩, List.mem_of_getElem? (i := 174) (by decide +kernel), List.mem_of_getElem? (i := 552) (by decide +kernel), List.mem_of_getElem? (i := 553) (by decide +kernel)⟩
theorem lw_p25 : lw_okq (⟨"PackPost$PackReader", "hearPlainPage", "(I)V"⟩, 6) := ⟨⟨by decide +kernel, by decide +kernel⟩, List.mem_of_getElem? (i := 174) (by decide +kernel), List.mem_of_getElem? (i := 557) (by decide +kernel), List.mem_of_getElem? (i := 558) (by decide +kernel)⟩
theorem lw_p26 : lw_okq (⟨"PackPost$PackReader", "hearEnd", "()V"⟩, 6) := ⟨⟨by decide +kernel, by decide +kernel⟩, List.mem_of_getElem? (i := 174) (by decide +kernel), List.mem_of_getElem? (i := 561) (by decide +kernel), List.mem_of_getElem? (i := 562) (by decide +kernel)⟩
theorem lw_p27 : lw_okq (⟨"PackPost", "bookAt", "(I)LPackPost$Book;"⟩, 12) := ⟨⟨by decide +kernel, by decide +kernel⟩, List.mem_of_getElem? (i := 13) (by decide +kernel), List.mem_of_getElem? (i := 610) (by decide +kernel), List.mem_of_getElem? (i := 611) (by decide +kernel)⟩
theorem lw_p28 : lw_okq (⟨"PackPost", "isReelSpoiled", "()Z"⟩, 12) := ⟨⟨by decide +kernel, by decide +kernel⟩, List.mem_of_getElem? (i := 13) (by decide +kernel), List.mem_of_getElem? (i := 614) (by decide +kernel), List.mem_of_getElem? (i := 615) (by decide +kernel)⟩
theorem lw_p29 : lw_okq (⟨"PackPost", "refuse", "(II)I"⟩, 12) := ⟨⟨by decide +kernel, by decide +kernel⟩, List.mem_of_getElem? (i := 13) (by decide +kernel), List.mem_of_getElem? (i := 651) (by decide +kernel), List.mem_of_getElem? (i := 652) (by decide +kernel)⟩
theorem lw_p30 : lw_okq (⟨"PackPost$Shelf", "meeting", "(LPackPost$Content;I)I"⟩, 2) := ⟨⟨by decide +kernel, by decide +kernel⟩, List.mem_of_getElem? (i := 204) (by decide +kernel), List.mem_of_getElem? (i := 659) (by decide +kernel), List.mem_of_getElem? (i := 660) (by decide +kernel)⟩
theorem lw_p31 : lw_okq (⟨"PackPost$Shelf", "seenBy", "(LPackPost$Content;)I"⟩, 2) := ⟨⟨by decide +kernel, by decide +kernel⟩, List.mem_of_getElem? (i := 204) (by decide +kernel), List.mem_of_getElem? (i := 675) (by decide +kernel), List.mem_of_getElem? (i := 676) (by decide +kernel)⟩
def lw_privs_2 : List (MethodName × Nat) := [(⟨"PackPost$PackReader", "hearRows", "()V"⟩, 6), (⟨"PackPost$PackReader", "hearPair", "(I)I"⟩, 6), (⟨"PackPost$PackReader", "hearPages", "()V"⟩, 6), (⟨"PackPost$PackReader", "hearPairs", "(I)V"⟩, 6), (⟨"PackPost$PackReader", "lacking", "(I)I"⟩, 6), (⟨"PackPost$PackReader", "refuseIfLacking", "(I)V"⟩, 6), (⟨"PackPost$PackReader", "hearOps", "(I)V"⟩, 6), (⟨"PackPost$PackReader", "hearCopy", "(II)V"⟩, 6), (⟨"PackPost$PackReader", "hearPlain", "(II)V"⟩, 6), (⟨"PackPost$PackReader", "hearPlainPage", "(I)V"⟩, 6), (⟨"PackPost$PackReader", "hearEnd", "()V"⟩, 6), (⟨"PackPost", "bookAt", "(I)LPackPost$Book;"⟩, 12), (⟨"PackPost", "isReelSpoiled", "()Z"⟩, 12), (⟨"PackPost", "refuse", "(II)I"⟩, 12), (⟨"PackPost$Shelf", "meeting", "(LPackPost$Content;I)I"⟩, 2), (⟨"PackPost$Shelf", "seenBy", "(LPackPost$Content;)I"⟩, 2)]
theorem lw_r2 : ∀ q ∈ lw_privs_2, lw_okq q := List.forall_mem_cons.mpr ⟨lw_p16, List.forall_mem_cons.mpr ⟨lw_p17, List.forall_mem_cons.mpr ⟨lw_p18, List.forall_mem_cons.mpr ⟨lw_p19, List.forall_mem_cons.mpr ⟨lw_p20, List.forall_mem_cons.mpr ⟨lw_p21, List.forall_mem_cons.mpr ⟨lw_p22, List.forall_mem_cons.mpr ⟨lw_p23, List.forall_mem_cons.mpr ⟨lw_p24, List.forall_mem_cons.mpr ⟨lw_p25, List.forall_mem_cons.mpr ⟨lw_p26, List.forall_mem_cons.mpr ⟨lw_p27, List.forall_mem_cons.mpr ⟨lw_p28, List.forall_mem_cons.mpr ⟨lw_p29, List.forall_mem_cons.mpr ⟨lw_p30, List.forall_mem_cons.mpr ⟨lw_p31, fun _ h => absurd h List.not_mem_nil⟩⟩⟩⟩⟩⟩⟩⟩⟩⟩⟩⟩⟩⟩⟩⟩
theorem lw_p32 : lw_okq (⟨"PackPost", "setClosed", "(IZ)I"⟩, 12) := ⟨⟨by decide +kernel, by decide +kernel⟩, List.mem_of_getElem? (i := 13) (by decide +kernel), List.mem_of_getElem? (i := 745) (by decide +kernel), List.mem_of_getElem? (i := 746) (by decide +kernel)⟩
theorem lw_p33 : lw_okq (⟨"PackPost$Finding", "ask", "(LPackPost$Shelf;III)I"⟩, 3) := ⟨⟨by decide +kernel, by decide +kernel⟩, List.mem_of_getElem? (i := 220) (by decide +kernel), List.mem_of_getElem? (i := 773) (by decide +kernel), List.mem_of_getElem? (i := 774) (by decide +kernel)⟩
theorem lw_p34 : lw_okq (⟨"PackPost$Finding", "looksInto", "(LPackPost$Entry;II)Z"⟩, 3) := ⟨⟨by decide +kernel, by decide +kernel⟩, List.mem_of_getElem? (i := 220) (by decide +kernel), List.mem_of_getElem? (i := 779) (by decide +kernel), List.mem_of_getElem? (i := 780) (by decide +kernel)⟩
theorem lw_p35 : lw_okq (⟨"PackPost", "pageEntry", "(II)I"⟩, 12) := ⟨⟨by decide +kernel, by decide +kernel⟩, List.mem_of_getElem? (i := 13) (by decide +kernel), List.mem_of_getElem? (i := 801) (by decide +kernel), List.mem_of_getElem? (i := 802) (by decide +kernel)⟩
theorem lw_p36 : lw_okq (⟨"PackPost$Shelf", "countAhead", "(LPackPost$Content;I)I"⟩, 2) := ⟨⟨by decide +kernel, by decide +kernel⟩, List.mem_of_getElem? (i := 204) (by decide +kernel), List.mem_of_getElem? (i := 823) (by decide +kernel), List.mem_of_getElem? (i := 824) (by decide +kernel)⟩
theorem lw_p37 : lw_okq (⟨"PackPostModel", "addByte", "(I)V"⟩, 57) := ⟨⟨by decide +kernel, by decide +kernel⟩, List.mem_of_getElem? (i := 840) (by decide +kernel), List.mem_of_getElem? (i := 1049) (by decide +kernel), List.mem_of_getElem? (i := 1050) (by decide +kernel)⟩
theorem lw_p38 : lw_okq (⟨"PackPostModel", "writeHead", "(I)V"⟩, 57) := ⟨⟨by decide +kernel, by decide +kernel⟩, List.mem_of_getElem? (i := 840) (by decide +kernel), List.mem_of_getElem? (i := 1061) (by decide +kernel), List.mem_of_getElem? (i := 1062) (by decide +kernel)⟩
theorem lw_p39 : lw_okq (⟨"PackPostModel", "write", "(I)V"⟩, 57) := ⟨⟨by decide +kernel, by decide +kernel⟩, List.mem_of_getElem? (i := 840) (by decide +kernel), List.mem_of_getElem? (i := 1065) (by decide +kernel), List.mem_of_getElem? (i := 1066) (by decide +kernel)⟩
theorem lw_p40 : lw_okq (⟨"PackPostModel", "squeezeRow", "(I)V"⟩, 57) := ⟨⟨by decide +kernel, by decide +kernel⟩, List.mem_of_getElem? (i := 840) (by decide +kernel), List.mem_of_getElem? (i := 1069) (by decide +kernel), List.mem_of_getElem? (i := 1070) (by decide +kernel)⟩
theorem lw_p41 : lw_okq (⟨"PackPostModel", "writePairs", "(II)V"⟩, 57) := ⟨⟨by decide +kernel, by decide +kernel⟩, List.mem_of_getElem? (i := 840) (by decide +kernel), List.mem_of_getElem? (i := 1073) (by decide +kernel), List.mem_of_getElem? (i := 1074) (by decide +kernel)⟩
theorem lw_p42 : lw_okq (⟨"PackPostModel", "squeeze", "(I)V"⟩, 57) := ⟨⟨by decide +kernel, by decide +kernel⟩, List.mem_of_getElem? (i := 840) (by decide +kernel), List.mem_of_getElem? (i := 1077) (by decide +kernel), List.mem_of_getElem? (i := 1078) (by decide +kernel)⟩
theorem lw_p43 : lw_okq (⟨"PackPostModel", "writeOps", "(II)V"⟩, 57) := ⟨⟨by decide +kernel, by decide +kernel⟩, List.mem_of_getElem? (i := 840) (by decide +kernel), List.mem_of_getElem? (i := 1081) (by decide +kernel), List.mem_of_getElem? (i := 1082) (by decide +kernel)⟩
theorem lw_p44 : lw_okq (⟨"PackPostModel", "bestBack", "(III)I"⟩, 57) := ⟨⟨by decide +kernel, by decide +kernel⟩, List.mem_of_getElem? (i := 840) (by decide +kernel), List.mem_of_getElem? (i := 1085) (by decide +kernel), List.mem_of_getElem? (i := 1086) (by decide +kernel)⟩
theorem lw_p45 : lw_okq (⟨"PackPostModel", "likeAhead", "(IIII)I"⟩, 57) := ⟨⟨by decide +kernel, by decide +kernel⟩, List.mem_of_getElem? (i := 840) (by decide +kernel), List.mem_of_getElem? (i := 1089) (by decide +kernel), List.mem_of_getElem? (i := 1090) (by decide +kernel)⟩
theorem lw_p46 : lw_okq (⟨"PackPostModel", "writePlain", "(II)V"⟩, 57) := ⟨⟨by decide +kernel, by decide +kernel⟩, List.mem_of_getElem? (i := 840) (by decide +kernel), List.mem_of_getElem? (i := 1093) (by decide +kernel), List.mem_of_getElem? (i := 1094) (by decide +kernel)⟩
theorem lw_p47 : lw_okq (⟨"PackPostModel", "writtenSum", "(I)I"⟩, 57) := ⟨⟨by decide +kernel, by decide +kernel⟩, List.mem_of_getElem? (i := 840) (by decide +kernel), List.mem_of_getElem? (i := 1097) (by decide +kernel), List.mem_of_getElem? (i := 1098) (by decide +kernel)⟩
def lw_privs_3 : List (MethodName × Nat) := [(⟨"PackPost", "setClosed", "(IZ)I"⟩, 12), (⟨"PackPost$Finding", "ask", "(LPackPost$Shelf;III)I"⟩, 3), (⟨"PackPost$Finding", "looksInto", "(LPackPost$Entry;II)Z"⟩, 3), (⟨"PackPost", "pageEntry", "(II)I"⟩, 12), (⟨"PackPost$Shelf", "countAhead", "(LPackPost$Content;I)I"⟩, 2), (⟨"PackPostModel", "addByte", "(I)V"⟩, 57), (⟨"PackPostModel", "writeHead", "(I)V"⟩, 57), (⟨"PackPostModel", "write", "(I)V"⟩, 57), (⟨"PackPostModel", "squeezeRow", "(I)V"⟩, 57), (⟨"PackPostModel", "writePairs", "(II)V"⟩, 57), (⟨"PackPostModel", "squeeze", "(I)V"⟩, 57), (⟨"PackPostModel", "writeOps", "(II)V"⟩, 57), (⟨"PackPostModel", "bestBack", "(III)I"⟩, 57), (⟨"PackPostModel", "likeAhead", "(IIII)I"⟩, 57), (⟨"PackPostModel", "writePlain", "(II)V"⟩, 57), (⟨"PackPostModel", "writtenSum", "(I)I"⟩, 57)]
theorem lw_r3 : ∀ q ∈ lw_privs_3, lw_okq q := List.forall_mem_cons.mpr ⟨lw_p32, List.forall_mem_cons.mpr ⟨lw_p33, List.forall_mem_cons.mpr ⟨lw_p34, List.forall_mem_cons.mpr ⟨lw_p35, List.forall_mem_cons.mpr ⟨lw_p36, List.forall_mem_cons.mpr ⟨lw_p37, List.forall_mem_cons.mpr ⟨lw_p38, List.forall_mem_cons.mpr ⟨lw_p39, List.forall_mem_cons.mpr ⟨lw_p40, List.forall_mem_cons.mpr ⟨lw_p41, List.forall_mem_cons.mpr ⟨lw_p42, List.forall_mem_cons.mpr ⟨lw_p43, List.forall_mem_cons.mpr ⟨lw_p44, List.forall_mem_cons.mpr ⟨lw_p45, List.forall_mem_cons.mpr ⟨lw_p46, List.forall_mem_cons.mpr ⟨lw_p47, fun _ h => absurd h List.not_mem_nil⟩⟩⟩⟩⟩⟩⟩⟩⟩⟩⟩⟩⟩⟩⟩⟩
theorem lw_p48 : lw_okq (⟨"PackPostModel", "writeFour", "(I)V"⟩, 57) := ⟨⟨by decide +kernel, by decide +kernel⟩, List.mem_of_getElem? (i := 840) (by decide +kernel), List.mem_of_getElem? (i := 1105) (by decide +kernel), List.mem_of_getElem? (i := 1106) (by decide +kernel)⟩
theorem lw_p49 : lw_okq (⟨"PackPostModel", "isPack", "(I)Z"⟩, 57) := ⟨⟨by decide +kernel, by decide +kernel⟩, List.mem_of_getElem? (i := 840) (by decide +kernel), List.mem_of_getElem? (i := 1113) (by decide +kernel), List.mem_of_getElem? (i := 1114) (by decide +kernel)⟩
theorem lw_p50 : lw_okq (⟨"PackPostModel", "isOctet", "(II)Z"⟩, 57) := ⟨⟨by decide +kernel, by decide +kernel⟩, List.mem_of_getElem? (i := 840) (by decide +kernel), List.mem_of_getElem? (i := 1121) (by decide +kernel), List.mem_of_getElem? (i := 1122) (by decide +kernel)⟩
theorem lw_p51 : lw_okq (⟨"PackPostModel", "wrong", "(I)I"⟩, 57) := ⟨⟨by decide +kernel, by decide +kernel⟩, List.mem_of_getElem? (i := 840) (by decide +kernel), List.mem_of_getElem? (i := 1137) (by decide +kernel), List.mem_of_getElem? (i := 1138) (by decide +kernel)⟩
theorem lw_p52 : lw_okq (⟨"PackPostModel", "readHead", "()V"⟩, 57) := ⟨⟨by decide +kernel, by decide +kernel⟩, List.mem_of_getElem? (i := 840) (by decide +kernel), List.mem_of_getElem? (i := 1141) (by decide +kernel), List.mem_of_getElem? (i := 1142) (by decide +kernel)⟩
theorem lw_p53 : lw_okq (⟨"PackPostModel", "exactly", "(I)V"⟩, 57) := ⟨⟨by decide +kernel, by decide +kernel⟩, List.mem_of_getElem? (i := 840) (by decide +kernel), List.mem_of_getElem? (i := 1145) (by decide +kernel), List.mem_of_getElem? (i := 1146) (by decide +kernel)⟩
theorem lw_p54 : lw_okq (⟨"PackPostModel", "want", "(I)I"⟩, 57) := ⟨⟨by decide +kernel, by decide +kernel⟩, List.mem_of_getElem? (i := 840) (by decide +kernel), List.mem_of_getElem? (i := 1149) (by decide +kernel), List.mem_of_getElem? (i := 1150) (by decide +kernel)⟩
theorem lw_p55 : lw_okq (⟨"PackPostModel", "here", "(I)I"⟩, 57) := ⟨⟨by decide +kernel, by decide +kernel⟩, List.mem_of_getElem? (i := 840) (by decide +kernel), List.mem_of_getElem? (i := 1153) (by decide +kernel), List.mem_of_getElem? (i := 1154) (by decide +kernel)⟩
theorem lw_p56 : lw_okq (⟨"PackPostModel", "wantNew", "(IIII)V"⟩, 57) := ⟨⟨by decide +kernel, by decide +kernel⟩, List.mem_of_getElem? (i := 840) (by decide +kernel), List.mem_of_getElem? (i := 1157) (by decide +kernel), List.mem_of_getElem? (i := 1158) (by decide +kernel)⟩
theorem lw_p57 : lw_okq (⟨"PackPostModel", "came", "(IIII)Z"⟩, 57) := ⟨⟨by decide +kernel, by decide +kernel⟩, List.mem_of_getElem? (i := 840) (by decide +kernel), List.mem_of_getElem? (i := 1161) (by decide +kernel), List.mem_of_getElem? (i := 1162) (by decide +kernel)⟩
theorem lw_p58 : lw_okq (⟨"PackPostModel", "wantTwo", "(I)V"⟩, 57) := ⟨⟨by decide +kernel, by decide +kernel⟩, List.mem_of_getElem? (i := 840) (by decide +kernel), List.mem_of_getElem? (i := 1165) (by decide +kernel), List.mem_of_getElem? (i := 1166) (by decide +kernel)⟩
theorem lw_p59 : lw_okq (⟨"PackPostModel", "readPlain", "(II)V"⟩, 57) := ⟨⟨by decide +kernel, by decide +kernel⟩, List.mem_of_getElem? (i := 840) (by decide +kernel), List.mem_of_getElem? (i := 1169) (by decide +kernel), List.mem_of_getElem? (i := 1170) (by decide +kernel)⟩
theorem lw_p60 : lw_okq (⟨"PackPostModel", "readPairs", "(II)V"⟩, 57) := ⟨⟨by decide +kernel, by decide +kernel⟩, List.mem_of_getElem? (i := 840) (by decide +kernel), List.mem_of_getElem? (i := 1173) (by decide +kernel), List.mem_of_getElem? (i := 1174) (by decide +kernel)⟩
theorem lw_p61 : lw_okq (⟨"PackPostModel", "readOps", "(II)V"⟩, 57) := ⟨⟨by decide +kernel, by decide +kernel⟩, List.mem_of_getElem? (i := 840) (by decide +kernel), List.mem_of_getElem? (i := 1177) (by decide +kernel), List.mem_of_getElem? (i := 1178) (by decide +kernel)⟩
theorem lw_p62 : lw_okq (⟨"PackPostModel", "sumOf", "(II)I"⟩, 57) := ⟨⟨by decide +kernel, by decide +kernel⟩, List.mem_of_getElem? (i := 840) (by decide +kernel), List.mem_of_getElem? (i := 1181) (by decide +kernel), List.mem_of_getElem? (i := 1182) (by decide +kernel)⟩
theorem lw_p63 : lw_okq (⟨"PackPostModel", "isSigned", "()Z"⟩, 57) := ⟨⟨by decide +kernel, by decide +kernel⟩, List.mem_of_getElem? (i := 840) (by decide +kernel), List.mem_of_getElem? (i := 1185) (by decide +kernel), List.mem_of_getElem? (i := 1186) (by decide +kernel)⟩
def lw_privs_4 : List (MethodName × Nat) := [(⟨"PackPostModel", "writeFour", "(I)V"⟩, 57), (⟨"PackPostModel", "isPack", "(I)Z"⟩, 57), (⟨"PackPostModel", "isOctet", "(II)Z"⟩, 57), (⟨"PackPostModel", "wrong", "(I)I"⟩, 57), (⟨"PackPostModel", "readHead", "()V"⟩, 57), (⟨"PackPostModel", "exactly", "(I)V"⟩, 57), (⟨"PackPostModel", "want", "(I)I"⟩, 57), (⟨"PackPostModel", "here", "(I)I"⟩, 57), (⟨"PackPostModel", "wantNew", "(IIII)V"⟩, 57), (⟨"PackPostModel", "came", "(IIII)Z"⟩, 57), (⟨"PackPostModel", "wantTwo", "(I)V"⟩, 57), (⟨"PackPostModel", "readPlain", "(II)V"⟩, 57), (⟨"PackPostModel", "readPairs", "(II)V"⟩, 57), (⟨"PackPostModel", "readOps", "(II)V"⟩, 57), (⟨"PackPostModel", "sumOf", "(II)I"⟩, 57), (⟨"PackPostModel", "isSigned", "()Z"⟩, 57)]
theorem lw_r4 : ∀ q ∈ lw_privs_4, lw_okq q := List.forall_mem_cons.mpr ⟨lw_p48, List.forall_mem_cons.mpr ⟨lw_p49, List.forall_mem_cons.mpr ⟨lw_p50, List.forall_mem_cons.mpr ⟨lw_p51, List.forall_mem_cons.mpr ⟨lw_p52, List.forall_mem_cons.mpr ⟨lw_p53, List.forall_mem_cons.mpr ⟨lw_p54, List.forall_mem_cons.mpr ⟨lw_p55, List.forall_mem_cons.mpr ⟨lw_p56, List.forall_mem_cons.mpr ⟨lw_p57, List.forall_mem_cons.mpr ⟨lw_p58, List.forall_mem_cons.mpr ⟨lw_p59, List.forall_mem_cons.mpr ⟨lw_p60, List.forall_mem_cons.mpr ⟨lw_p61, List.forall_mem_cons.mpr ⟨lw_p62, List.forall_mem_cons.mpr ⟨lw_p63, fun _ h => absurd h List.not_mem_nil⟩⟩⟩⟩⟩⟩⟩⟩⟩⟩⟩⟩⟩⟩⟩⟩
theorem lw_p64 : lw_okq (⟨"PackPostModel", "tapeSum", "(I)I"⟩, 57) := ⟨⟨by decide +kernel, by decide +kernel⟩, List.mem_of_getElem? (i := 840) (by decide +kernel), List.mem_of_getElem? (i := 1202) (by decide +kernel), List.mem_of_getElem? (i := 1203) (by decide +kernel)⟩
theorem lw_p65 : lw_okq (⟨"PackPostModel", "isSpoiled", "()Z"⟩, 57) := ⟨⟨by decide +kernel, by decide +kernel⟩, List.mem_of_getElem? (i := 840) (by decide +kernel), List.mem_of_getElem? (i := 1218) (by decide +kernel), List.mem_of_getElem? (i := 1219) (by decide +kernel)⟩
theorem lw_p66 : lw_okq (⟨"PackPostModel", "bookLength", "(I)I"⟩, 57) := ⟨⟨by decide +kernel, by decide +kernel⟩, List.mem_of_getElem? (i := 840) (by decide +kernel), List.mem_of_getElem? (i := 1222) (by decide +kernel), List.mem_of_getElem? (i := 1223) (by decide +kernel)⟩
theorem lw_p67 : lw_okq (⟨"PackPostModel", "join", "(I)I"⟩, 57) := ⟨⟨by decide +kernel, by decide +kernel⟩, List.mem_of_getElem? (i := 840) (by decide +kernel), List.mem_of_getElem? (i := 1226) (by decide +kernel), List.mem_of_getElem? (i := 1227) (by decide +kernel)⟩
theorem lw_p68 : lw_okq (⟨"PackPostModel", "emptyBook", "(I)V"⟩, 57) := ⟨⟨by decide +kernel, by decide +kernel⟩, List.mem_of_getElem? (i := 840) (by decide +kernel), List.mem_of_getElem? (i := 1230) (by decide +kernel), List.mem_of_getElem? (i := 1231) (by decide +kernel)⟩
theorem lw_p69 : lw_okq (⟨"PackPostModel", "layDown", "(I)Z"⟩, 57) := ⟨⟨by decide +kernel, by decide +kernel⟩, List.mem_of_getElem? (i := 840) (by decide +kernel), List.mem_of_getElem? (i := 1247) (by decide +kernel), List.mem_of_getElem? (i := 1248) (by decide +kernel)⟩
theorem lw_p70 : lw_okq (⟨"PackPostModel", "unpack", "(IIIII)V"⟩, 57) := ⟨⟨by decide +kernel, by decide +kernel⟩, List.mem_of_getElem? (i := 840) (by decide +kernel), List.mem_of_getElem? (i := 1251) (by decide +kernel), List.mem_of_getElem? (i := 1252) (by decide +kernel)⟩
theorem lw_p71 : lw_okq (⟨"PackPostModel", "meeting", "(IIZ)I"⟩, 57) := ⟨⟨by decide +kernel, by decide +kernel⟩, List.mem_of_getElem? (i := 840) (by decide +kernel), List.mem_of_getElem? (i := 1255) (by decide +kernel), List.mem_of_getElem? (i := 1256) (by decide +kernel)⟩
theorem lw_p72 : lw_okq (⟨"PackPostModel", "sealedGroup", "(I)I"⟩, 57) := ⟨⟨by decide +kernel, by decide +kernel⟩, List.mem_of_getElem? (i := 840) (by decide +kernel), List.mem_of_getElem? (i := 1259) (by decide +kernel), List.mem_of_getElem? (i := 1260) (by decide +kernel)⟩
theorem lw_p73 : lw_okq (⟨"PackPostModel", "findSeen", "(I)V"⟩, 57) := ⟨⟨by decide +kernel, by decide +kernel⟩, List.mem_of_getElem? (i := 840) (by decide +kernel), List.mem_of_getElem? (i := 1263) (by decide +kernel), List.mem_of_getElem? (i := 1264) (by decide +kernel)⟩
theorem lw_p74 : lw_okq (⟨"PackPostModel", "seals", "(II)Z"⟩, 57) := ⟨⟨by decide +kernel, by decide +kernel⟩, List.mem_of_getElem? (i := 840) (by decide +kernel), List.mem_of_getElem? (i := 1267) (by decide +kernel), List.mem_of_getElem? (i := 1268) (by decide +kernel)⟩
theorem lw_p75 : lw_okq (⟨"PackPostModel", "hasRowOf", "(II)Z"⟩, 57) := ⟨⟨by decide +kernel, by decide +kernel⟩, List.mem_of_getElem? (i := 840) (by decide +kernel), List.mem_of_getElem? (i := 1271) (by decide +kernel), List.mem_of_getElem? (i := 1272) (by decide +kernel)⟩
theorem lw_p76 : lw_okq (⟨"PackPostModel", "isEntry", "(I)Z"⟩, 57) := ⟨⟨by decide +kernel, by decide +kernel⟩, List.mem_of_getElem? (i := 840) (by decide +kernel), List.mem_of_getElem? (i := 1283) (by decide +kernel), List.mem_of_getElem? (i := 1284) (by decide +kernel)⟩
theorem lw_p77 : lw_okq (⟨"PackPostModel", "ask", "(II)I"⟩, 57) := ⟨⟨by decide +kernel, by decide +kernel⟩, List.mem_of_getElem? (i := 840) (by decide +kernel), List.mem_of_getElem? (i := 1303) (by decide +kernel), List.mem_of_getElem? (i := 1304) (by decide +kernel)⟩
theorem lw_p78 : lw_okq (⟨"PackPostModel", "looks", "(II)Z"⟩, 57) := ⟨⟨by decide +kernel, by decide +kernel⟩, List.mem_of_getElem? (i := 840) (by decide +kernel), List.mem_of_getElem? (i := 1307) (by decide +kernel), List.mem_of_getElem? (i := 1308) (by decide +kernel)⟩
theorem lw_p79 : lw_okq (⟨"PackPostModel", "rowOf", "(II)I"⟩, 57) := ⟨⟨by decide +kernel, by decide +kernel⟩, List.mem_of_getElem? (i := 840) (by decide +kernel), List.mem_of_getElem? (i := 1311) (by decide +kernel), List.mem_of_getElem? (i := 1312) (by decide +kernel)⟩
def lw_privs_5 : List (MethodName × Nat) := [(⟨"PackPostModel", "tapeSum", "(I)I"⟩, 57), (⟨"PackPostModel", "isSpoiled", "()Z"⟩, 57), (⟨"PackPostModel", "bookLength", "(I)I"⟩, 57), (⟨"PackPostModel", "join", "(I)I"⟩, 57), (⟨"PackPostModel", "emptyBook", "(I)V"⟩, 57), (⟨"PackPostModel", "layDown", "(I)Z"⟩, 57), (⟨"PackPostModel", "unpack", "(IIIII)V"⟩, 57), (⟨"PackPostModel", "meeting", "(IIZ)I"⟩, 57), (⟨"PackPostModel", "sealedGroup", "(I)I"⟩, 57), (⟨"PackPostModel", "findSeen", "(I)V"⟩, 57), (⟨"PackPostModel", "seals", "(II)Z"⟩, 57), (⟨"PackPostModel", "hasRowOf", "(II)Z"⟩, 57), (⟨"PackPostModel", "isEntry", "(I)Z"⟩, 57), (⟨"PackPostModel", "ask", "(II)I"⟩, 57), (⟨"PackPostModel", "looks", "(II)Z"⟩, 57), (⟨"PackPostModel", "rowOf", "(II)I"⟩, 57)]
theorem lw_r5 : ∀ q ∈ lw_privs_5, lw_okq q := List.forall_mem_cons.mpr ⟨lw_p64, List.forall_mem_cons.mpr ⟨lw_p65, List.forall_mem_cons.mpr ⟨lw_p66, List.forall_mem_cons.mpr ⟨lw_p67, List.forall_mem_cons.mpr ⟨lw_p68, List.forall_mem_cons.mpr ⟨lw_p69, List.forall_mem_cons.mpr ⟨lw_p70, List.forall_mem_cons.mpr ⟨lw_p71, List.forall_mem_cons.mpr ⟨lw_p72, List.forall_mem_cons.mpr ⟨lw_p73, List.forall_mem_cons.mpr ⟨lw_p74, List.forall_mem_cons.mpr ⟨lw_p75, List.forall_mem_cons.mpr ⟨lw_p76, List.forall_mem_cons.mpr ⟨lw_p77, List.forall_mem_cons.mpr ⟨lw_p78, List.forall_mem_cons.mpr ⟨lw_p79, fun _ h => absurd h List.not_mem_nil⟩⟩⟩⟩⟩⟩⟩⟩⟩⟩⟩⟩⟩⟩⟩⟩
def lw_privs : List (MethodName × Nat) := lw_privs_1 ++ (lw_privs_2 ++ (lw_privs_3 ++ (lw_privs_4 ++ (lw_privs_5))))
def lw_tbl : List Cond := k2_sels lw_privs ++ tables_1
theorem lw_privs_ok : ∀ q ∈ lw_privs, lw_okq q := by
  show ∀ q ∈ lw_privs_1 ++ (lw_privs_2 ++ (lw_privs_3 ++ (lw_privs_4 ++ (lw_privs_5)))), lw_okq q
  exact List.forall_mem_append.mpr ⟨lw_r1, List.forall_mem_append.mpr ⟨lw_r2, List.forall_mem_append.mpr ⟨lw_r3, List.forall_mem_append.mpr ⟨lw_r4, lw_r5⟩⟩⟩⟩
end
section
def RX0 : String := "PackPost$Book"
def TX0 : u_T := fun k => match k with
  | 0 => ("PackPost$Book", "taken", "[LPackPost$ByteRow;", true)
  | 1 => ("PackPost$Book", "wanted", "I", false)
  | 2 => ("PackPost$Book", "came", "I", false)
  | _ => ("PackPost$Book", "bytes", "I", false)
def tyX0 : Nat → FieldType := fun k => match k with
  | 0 => .array (.object "PackPost$ByteRow")
  | 1 => .int
  | 2 => .int
  | _ => .int
theorem nmX0 : ∀ a, a < 4 → ∀ b, b < 4 → a ≠ b → (TX0 a).2.1 ≠ (TX0 b).2.1 := by decide +kernel
theorem tyX0_ok : ∀ k, k < 4 → parseFieldDescriptor (TX0 k).2.2.1 = some (tyX0 k) := by decide +kernel
abbrev cX0_init : ByteArray := prog_2_method_1_code
def yX0_init : MethodName := ⟨RX0, "<init>", "()V"⟩
abbrev cX0_hasPart : ByteArray := prog_2_method_2_code
def yX0_hasPart : MethodName := ⟨RX0, "hasPart", "(I)Z"⟩
abbrev cX0_putPart : ByteArray := prog_2_method_3_code
def yX0_putPart : MethodName := ⟨RX0, "putPart", "(IILPackPost$ByteRow;)V"⟩
abbrev cX0_joinOnto : ByteArray := prog_2_method_4_code
def yX0_joinOnto : MethodName := ⟨RX0, "joinOnto", "(LPackPost$ByteRow;)V"⟩
abbrev cX0_clear : ByteArray := prog_2_method_5_code
def yX0_clear : MethodName := ⟨RX0, "clear", "()V"⟩
def RX1 : String := "PackPost$ByteRow"
def TX1 : u_T := fun k => match k with
  | 0 => ("PackPost$ByteRow", "cells", "[I", true)
  | _ => ("PackPost$ByteRow", "count", "I", false)
def tyX1 : Nat → FieldType := fun k => match k with
  | 0 => .array .int
  | _ => .int
theorem nmX1 : ∀ a, a < 2 → ∀ b, b < 2 → a ≠ b → (TX1 a).2.1 ≠ (TX1 b).2.1 := by decide +kernel
theorem tyX1_ok : ∀ k, k < 2 → parseFieldDescriptor (TX1 k).2.2.1 = some (tyX1 k) := by decide +kernel
abbrev cX1_init : ByteArray := prog_3_method_1_code
def yX1_init : MethodName := ⟨RX1, "<init>", "(I)V"⟩
abbrev cX1_has : ByteArray := prog_3_method_2_code
def yX1_has : MethodName := ⟨RX1, "has", "(I)Z"⟩
abbrev cX1_at : ByteArray := prog_3_method_3_code
def yX1_at : MethodName := ⟨RX1, "at", "(I)I"⟩
abbrev cX1_clear : ByteArray := prog_3_method_4_code
def yX1_clear : MethodName := ⟨RX1, "clear", "()V"⟩
abbrev cX1_push : ByteArray := prog_3_method_5_code
def yX1_push : MethodName := ⟨RX1, "push", "(I)V"⟩
abbrev cX1_pushRange : ByteArray := prog_3_method_6_code
def yX1_pushRange : MethodName := ⟨RX1, "pushRange", "(LPackPost$ByteRow;II)V"⟩
abbrev cX1_pushNumber : ByteArray := prog_3_method_7_code
def yX1_pushNumber : MethodName := ⟨RX1, "pushNumber", "(I)V"⟩
abbrev cX1_number : ByteArray := prog_3_method_8_code
def yX1_number : MethodName := ⟨RX1, "number", "(I)I"⟩
abbrev cX1_sum : ByteArray := prog_3_method_9_code
def yX1_sum : MethodName := ⟨RX1, "sum", "(II)I"⟩
abbrev cX1_xor : ByteArray := prog_3_method_10_code
def yX1_xor : MethodName := ⟨RX1, "xor", "(II)V"⟩
abbrev cX1_keepFirst : ByteArray := prog_3_method_11_code
def yX1_keepFirst : MethodName := ⟨RX1, "keepFirst", "(I)V"⟩
abbrev cX1_part : ByteArray := prog_3_method_12_code
def yX1_part : MethodName := ⟨RX1, "part", "(II)LPackPost$ByteRow;"⟩
def RX2 : String := "PackPost$Content"
def TX2 : u_T := fun k => match k with
  | 0 => ("PackPost$Content", "name", "I", false)
  | 1 => ("PackPost$Content", "edition", "I", false)
  | 2 => ("PackPost$Content", "manner", "I", false)
  | 3 => ("PackPost$Content", "signed", "Z", false)
  | 4 => ("PackPost$Content", "needNames", "[I", true)
  | 5 => ("PackPost$Content", "needEditions", "[I", true)
  | 6 => ("PackPost$Content", "needExact", "[Z", true)
  | 7 => ("PackPost$Content", "needCount", "I", false)
  | 8 => ("PackPost$Content", "seals", "[I", true)
  | 9 => ("PackPost$Content", "sealCount", "I", false)
  | 10 => ("PackPost$Content", "keys", "[I", true)
  | 11 => ("PackPost$Content", "packings", "[I", true)
  | 12 => ("PackPost$Content", "lengths", "[I", true)
  | 13 => ("PackPost$Content", "pages", "[[I", true)
  | _ => ("PackPost$Content", "rowCount", "I", false)
def tyX2 : Nat → FieldType := fun k => match k with
  | 0 => .int
  | 1 => .int
  | 2 => .int
  | 3 => .boolean
  | 4 => .array .int
  | 5 => .array .int
  | 6 => .array .boolean
  | 7 => .int
  | 8 => .array .int
  | 9 => .int
  | 10 => .array .int
  | 11 => .array .int
  | 12 => .array .int
  | 13 => .array (.array .int)
  | _ => .int
theorem nmX2 : ∀ a, a < 15 → ∀ b, b < 15 → a ≠ b → (TX2 a).2.1 ≠ (TX2 b).2.1 := by decide +kernel
theorem tyX2_ok : ∀ k, k < 15 → parseFieldDescriptor (TX2 k).2.2.1 = some (tyX2 k) := by decide +kernel
abbrev cX2_init : ByteArray := prog_4_method_1_code
def yX2_init : MethodName := ⟨RX2, "<init>", "()V"⟩
abbrev cX2_begin : ByteArray := prog_4_method_2_code
def yX2_begin : MethodName := ⟨RX2, "begin", "()V"⟩
abbrev cX2_title : ByteArray := prog_4_method_3_code
def yX2_title : MethodName := ⟨RX2, "title", "(III)V"⟩
abbrev cX2_needsName : ByteArray := prog_4_method_4_code
def yX2_needsName : MethodName := ⟨RX2, "needsName", "(I)Z"⟩
abbrev cX2_putNeed : ByteArray := prog_4_method_5_code
def yX2_putNeed : MethodName := ⟨RX2, "putNeed", "(IIZ)V"⟩
abbrev cX2_sealsGroup : ByteArray := prog_4_method_6_code
def yX2_sealsGroup : MethodName := ⟨RX2, "sealsGroup", "(I)Z"⟩
abbrev cX2_putSeal : ByteArray := prog_4_method_7_code
def yX2_putSeal : MethodName := ⟨RX2, "putSeal", "(I)V"⟩
abbrev cX2_rowOf : ByteArray := prog_4_method_8_code
def yX2_rowOf : MethodName := ⟨RX2, "rowOf", "(I)I"⟩
abbrev cX2_hasRowOfGroup : ByteArray := prog_4_method_9_code
def yX2_hasRowOfGroup : MethodName := ⟨RX2, "hasRowOfGroup", "(I)Z"⟩
abbrev cX2_putRow : ByteArray := prog_4_method_10_code
def yX2_putRow : MethodName := ⟨RX2, "putRow", "(II)V"⟩
abbrev cX2_pageLength : ByteArray := prog_4_method_11_code
def yX2_pageLength : MethodName := ⟨RX2, "pageLength", "(I)I"⟩
abbrev cX2_byteAt : ByteArray := prog_4_method_12_code
def yX2_byteAt : MethodName := ⟨RX2, "byteAt", "(II)I"⟩
abbrev cX2_putByte : ByteArray := prog_4_method_13_code
def yX2_putByte : MethodName := ⟨RX2, "putByte", "(II)V"⟩
abbrev cX2_putCopies : ByteArray := prog_4_method_14_code
def yX2_putCopies : MethodName := ⟨RX2, "putCopies", "(III)V"⟩
abbrev cX2_putLike : ByteArray := prog_4_method_15_code
def yX2_putLike : MethodName := ⟨RX2, "putLike", "(III)V"⟩
def RX3 : String := "PackPost$Entry"
def TX3 : u_T := fun k => match k with
  | 0 => ("PackPost$Entry", "said", "LPackPost$Content;", true)
  | 1 => ("PackPost$Entry", "metBy", "[I", true)
  | 2 => ("PackPost$Entry", "sees", "I", true)
  | 3 => ("PackPost$Entry", "closed", "Z", false)
  | 4 => ("PackPost$Entry", "overlays", "[I", true)
  | _ => ("PackPost$Entry", "overlayCount", "I", false)
def tyX3 : Nat → FieldType := fun k => match k with
  | 0 => .object "PackPost$Content"
  | 1 => .array .int
  | 2 => .int
  | 3 => .boolean
  | 4 => .array .int
  | _ => .int
theorem nmX3 : ∀ a, a < 6 → ∀ b, b < 6 → a ≠ b → (TX3 a).2.1 ≠ (TX3 b).2.1 := by decide +kernel
theorem tyX3_ok : ∀ k, k < 6 → parseFieldDescriptor (TX3 k).2.2.1 = some (tyX3 k) := by decide +kernel
abbrev cX3_init : ByteArray := prog_5_method_1_code
def yX3_init : MethodName := ⟨RX3, "<init>", "(LPackPost$Content;[II)V"⟩
abbrev cX3_meeting : ByteArray := prog_5_method_2_code
def yX3_meeting : MethodName := ⟨RX3, "meeting", "(I)I"⟩
abbrev cX3_leansOn : ByteArray := prog_5_method_3_code
def yX3_leansOn : MethodName := ⟨RX3, "leansOn", "(I)Z"⟩
abbrev cX3_hasOverlay : ByteArray := prog_5_method_4_code
def yX3_hasOverlay : MethodName := ⟨RX3, "hasOverlay", "(I)Z"⟩
abbrev cX3_putOverlay : ByteArray := prog_5_method_5_code
def yX3_putOverlay : MethodName := ⟨RX3, "putOverlay", "(I)V"⟩
abbrev cX3_hasRowOf : ByteArray := prog_5_method_6_code
def yX3_hasRowOf : MethodName := ⟨RX3, "hasRowOf", "(I)Z"⟩
def RX4 : String := "PackPost$Finding"
def TX4 : u_T := fun k => match k with
  | 0 => ("PackPost$Finding", "asked", "[Z", true)
  | 1 => ("PackPost$Finding", "trail", "[I", true)
  | _ => ("PackPost$Finding", "steps", "I", false)
def tyX4 : Nat → FieldType := fun k => match k with
  | 0 => .array .boolean
  | 1 => .array .int
  | _ => .int
theorem nmX4 : ∀ a, a < 3 → ∀ b, b < 3 → a ≠ b → (TX4 a).2.1 ≠ (TX4 b).2.1 := by decide +kernel
theorem tyX4_ok : ∀ k, k < 3 → parseFieldDescriptor (TX4 k).2.2.1 = some (tyX4 k) := by decide +kernel
abbrev cX4_init : ByteArray := prog_6_method_1_code
def yX4_init : MethodName := ⟨RX4, "<init>", "()V"⟩
abbrev cX4_from : ByteArray := prog_6_method_2_code
def yX4_from : MethodName := ⟨RX4, "from", "(LPackPost$Shelf;II)I"⟩
abbrev cX4_step : ByteArray := prog_6_method_3_code
def yX4_step : MethodName := ⟨RX4, "step", "(I)I"⟩
abbrev cX4_ask : ByteArray := prog_6_method_4_code
def yX4_ask : MethodName := ⟨RX4, "ask", "(LPackPost$Shelf;III)I"⟩
abbrev cX4_looksInto : ByteArray := prog_6_method_5_code
def yX4_looksInto : MethodName := ⟨RX4, "looksInto", "(LPackPost$Entry;II)Z"⟩
def RX5 : String := "PackPost$PackReader"
def TX5 : u_T := fun k => match k with
  | 0 => ("PackPost$PackReader", "bytes", "LPackPost$ByteRow;", false)
  | 1 => ("PackPost$PackReader", "said", "LPackPost$Content;", false)
  | 2 => ("PackPost$PackReader", "place", "I", false)
  | 3 => ("PackPost$PackReader", "wrong", "I", false)
  | 4 => ("PackPost$PackReader", "lengths", "[I", true)
  | _ => ("PackPost$PackReader", "sizes", "[I", true)
def tyX5 : Nat → FieldType := fun k => match k with
  | 0 => .object "PackPost$ByteRow"
  | 1 => .object "PackPost$Content"
  | 2 => .int
  | 3 => .int
  | 4 => .array .int
  | _ => .array .int
theorem nmX5 : ∀ a, a < 6 → ∀ b, b < 6 → a ≠ b → (TX5 a).2.1 ≠ (TX5 b).2.1 := by decide +kernel
theorem tyX5_ok : ∀ k, k < 6 → parseFieldDescriptor (TX5 k).2.2.1 = some (tyX5 k) := by decide +kernel
abbrev cX5_init : ByteArray := prog_7_method_1_code
def yX5_init : MethodName := ⟨RX5, "<init>", "()V"⟩
abbrev cX5_wrongPlace : ByteArray := prog_7_method_2_code
def yX5_wrongPlace : MethodName := ⟨RX5, "wrongPlace", "(LPackPost$ByteRow;)I"⟩
abbrev cX5_isSignedBy : ByteArray := prog_7_method_3_code
def yX5_isSignedBy : MethodName := ⟨RX5, "isSignedBy", "(I)Z"⟩
abbrev cX5_handOver : ByteArray := prog_7_method_4_code
def yX5_handOver : MethodName := ⟨RX5, "handOver", "()LPackPost$Content;"⟩
abbrev cX5_next : ByteArray := prog_7_method_5_code
def yX5_next : MethodName := ⟨RX5, "next", "(II)I"⟩
abbrev cX5_isFine : ByteArray := prog_7_method_6_code
def yX5_isFine : MethodName := ⟨RX5, "isFine", "()Z"⟩
abbrev cX5_refuseAt : ByteArray := prog_7_method_7_code
def yX5_refuseAt : MethodName := ⟨RX5, "refuseAt", "(I)V"⟩
abbrev cX5_hearTitle : ByteArray := prog_7_method_8_code
def yX5_hearTitle : MethodName := ⟨RX5, "hearTitle", "()V"⟩
abbrev cX5_hearNeeds : ByteArray := prog_7_method_9_code
def yX5_hearNeeds : MethodName := ⟨RX5, "hearNeeds", "()V"⟩
abbrev cX5_hearSeals : ByteArray := prog_7_method_10_code
def yX5_hearSeals : MethodName := ⟨RX5, "hearSeals", "()V"⟩
abbrev cX5_hearRows : ByteArray := prog_7_method_11_code
def yX5_hearRows : MethodName := ⟨RX5, "hearRows", "()V"⟩
abbrev cX5_hearPair : ByteArray := prog_7_method_12_code
def yX5_hearPair : MethodName := ⟨RX5, "hearPair", "(I)I"⟩
abbrev cX5_hearPages : ByteArray := prog_7_method_13_code
def yX5_hearPages : MethodName := ⟨RX5, "hearPages", "()V"⟩
abbrev cX5_lacking : ByteArray := prog_7_method_14_code
def yX5_lacking : MethodName := ⟨RX5, "lacking", "(I)I"⟩
abbrev cX5_hearPlainPage : ByteArray := prog_7_method_15_code
def yX5_hearPlainPage : MethodName := ⟨RX5, "hearPlainPage", "(I)V"⟩
abbrev cX5_hearPlain : ByteArray := prog_7_method_16_code
def yX5_hearPlain : MethodName := ⟨RX5, "hearPlain", "(II)V"⟩
abbrev cX5_hearPairs : ByteArray := prog_7_method_17_code
def yX5_hearPairs : MethodName := ⟨RX5, "hearPairs", "(I)V"⟩
abbrev cX5_hearOps : ByteArray := prog_7_method_18_code
def yX5_hearOps : MethodName := ⟨RX5, "hearOps", "(I)V"⟩
abbrev cX5_hearCopy : ByteArray := prog_7_method_19_code
def yX5_hearCopy : MethodName := ⟨RX5, "hearCopy", "(II)V"⟩
abbrev cX5_refuseIfLacking : ByteArray := prog_7_method_20_code
def yX5_refuseIfLacking : MethodName := ⟨RX5, "refuseIfLacking", "(I)V"⟩
abbrev cX5_hearEnd : ByteArray := prog_7_method_21_code
def yX5_hearEnd : MethodName := ⟨RX5, "hearEnd", "()V"⟩
def RX6 : String := "PackPost$PackWriter"
def TX6 : u_T := fun k => match k with
  | 0 => ("PackPost$PackWriter", "body", "LPackPost$ByteRow;", true)
  | 1 => ("PackPost$PackWriter", "sizes", "[I", true)
  | 2 => ("PackPost$PackWriter", "matchBack", "I", false)
  | _ => ("PackPost$PackWriter", "matchLength", "I", false)
def tyX6 : Nat → FieldType := fun k => match k with
  | 0 => .object "PackPost$ByteRow"
  | 1 => .array .int
  | 2 => .int
  | _ => .int
theorem nmX6 : ∀ a, a < 4 → ∀ b, b < 4 → a ≠ b → (TX6 a).2.1 ≠ (TX6 b).2.1 := by decide +kernel
theorem tyX6_ok : ∀ k, k < 4 → parseFieldDescriptor (TX6 k).2.2.1 = some (tyX6 k) := by decide +kernel
abbrev cX6_init : ByteArray := prog_8_method_1_code
def yX6_init : MethodName := ⟨RX6, "<init>", "()V"⟩
abbrev cX6_write : ByteArray := prog_8_method_2_code
def yX6_write : MethodName := ⟨RX6, "write", "(LPackPost$Content;ILPackPost$ByteRow;)V"⟩
abbrev cX6_writeHead : ByteArray := prog_8_method_3_code
def yX6_writeHead : MethodName := ⟨RX6, "writeHead", "(LPackPost$Content;ZLPackPost$ByteRow;)V"⟩
abbrev cX6_pushPair : ByteArray := prog_8_method_4_code
def yX6_pushPair : MethodName := ⟨RX6, "pushPair", "(LPackPost$ByteRow;I)V"⟩
abbrev cX6_writeBody : ByteArray := prog_8_method_5_code
def yX6_writeBody : MethodName := ⟨RX6, "writeBody", "(LPackPost$Content;)V"⟩
abbrev cX6_writePlain : ByteArray := prog_8_method_6_code
def yX6_writePlain : MethodName := ⟨RX6, "writePlain", "(LPackPost$Content;III)V"⟩
abbrev cX6_writePairs : ByteArray := prog_8_method_7_code
def yX6_writePairs : MethodName := ⟨RX6, "writePairs", "(LPackPost$Content;I)V"⟩
abbrev cX6_writeOps : ByteArray := prog_8_method_8_code
def yX6_writeOps : MethodName := ⟨RX6, "writeOps", "(LPackPost$Content;I)V"⟩
abbrev cX6_writePlainOps : ByteArray := prog_8_method_9_code
def yX6_writePlainOps : MethodName := ⟨RX6, "writePlainOps", "(LPackPost$Content;III)V"⟩
abbrev cX6_searchMatch : ByteArray := prog_8_method_10_code
def yX6_searchMatch : MethodName := ⟨RX6, "searchMatch", "(LPackPost$Content;II)V"⟩
def RX7 : String := "PackPost$Shelf"
def TX7 : u_T := fun k => match k with
  | 0 => ("PackPost$Shelf", "entries", "[LPackPost$Entry;", true)
  | _ => ("PackPost$Shelf", "count", "I", false)
def tyX7 : Nat → FieldType := fun k => match k with
  | 0 => .array (.object "PackPost$Entry")
  | _ => .int
theorem nmX7 : ∀ a, a < 2 → ∀ b, b < 2 → a ≠ b → (TX7 a).2.1 ≠ (TX7 b).2.1 := by decide +kernel
theorem tyX7_ok : ∀ k, k < 2 → parseFieldDescriptor (TX7 k).2.2.1 = some (tyX7 k) := by decide +kernel
abbrev cX7_init : ByteArray := prog_9_method_1_code
def yX7_init : MethodName := ⟨RX7, "<init>", "()V"⟩
abbrev cX7_at : ByteArray := prog_9_method_2_code
def yX7_at : MethodName := ⟨RX7, "at", "(I)LPackPost$Entry;"⟩
abbrev cX7_firstUnmet : ByteArray := prog_9_method_3_code
def yX7_firstUnmet : MethodName := ⟨RX7, "firstUnmet", "(LPackPost$Content;)I"⟩
abbrev cX7_leastSealed : ByteArray := prog_9_method_4_code
def yX7_leastSealed : MethodName := ⟨RX7, "leastSealed", "(LPackPost$Content;)I"⟩
abbrev cX7_put : ByteArray := prog_9_method_5_code
def yX7_put : MethodName := ⟨RX7, "put", "(LPackPost$Content;)I"⟩
abbrev cX7_overlayWith : ByteArray := prog_9_method_6_code
def yX7_overlayWith : MethodName := ⟨RX7, "overlayWith", "(II)I"⟩
abbrev cX7_ranked : ByteArray := prog_9_method_7_code
def yX7_ranked : MethodName := ⟨RX7, "ranked", "(II)I"⟩
abbrev cX7_leaning : ByteArray := prog_9_method_8_code
def yX7_leaning : MethodName := ⟨RX7, "leaning", "(II)I"⟩
abbrev cX7_meeting : ByteArray := prog_9_method_9_code
def yX7_meeting : MethodName := ⟨RX7, "meeting", "(LPackPost$Content;I)I"⟩
abbrev cX7_suits : ByteArray := prog_9_method_10_code
def yX7_suits : MethodName := ⟨RX7, "suits", "(LPackPost$Content;LPackPost$Content;I)Z"⟩
abbrev cX7_seenBy : ByteArray := prog_9_method_11_code
def yX7_seenBy : MethodName := ⟨RX7, "seenBy", "(LPackPost$Content;)I"⟩
abbrev cX7_isBetween : ByteArray := prog_9_method_12_code
def yX7_isBetween : MethodName := ⟨RX7, "isBetween", "(ILPackPost$Content;LPackPost$Entry;)Z"⟩
abbrev cX7_countAhead : ByteArray := prog_9_method_13_code
def yX7_countAhead : MethodName := ⟨RX7, "countAhead", "(LPackPost$Content;I)I"⟩
def RX8 : String := "PackPost"
def TX8 : u_T := fun k => match k with
  | 0 => ("PackPost", "sheet", "LPackPost$Content;", true)
  | 1 => ("PackPost", "drafting", "Z", false)
  | 2 => ("PackPost", "packs", "[LPackPost$ByteRow;", true)
  | 3 => ("PackPost", "packCount", "I", false)
  | 4 => ("PackPost", "desk", "LPackPost$ByteRow;", true)
  | 5 => ("PackPost", "reel", "LPackPost$ByteRow;", true)
  | 6 => ("PackPost", "books", "[LPackPost$Book;", true)
  | 7 => ("PackPost", "writer", "LPackPost$PackWriter;", true)
  | 8 => ("PackPost", "reader", "LPackPost$PackReader;", true)
  | 9 => ("PackPost", "shelf", "LPackPost$Shelf;", true)
  | 10 => ("PackPost", "finding", "LPackPost$Finding;", true)
  | _ => ("PackPost", "reason", "I", false)
def tyX8 : Nat → FieldType := fun k => match k with
  | 0 => .object "PackPost$Content"
  | 1 => .boolean
  | 2 => .array (.object "PackPost$ByteRow")
  | 3 => .int
  | 4 => .object "PackPost$ByteRow"
  | 5 => .object "PackPost$ByteRow"
  | 6 => .array (.object "PackPost$Book")
  | 7 => .object "PackPost$PackWriter"
  | 8 => .object "PackPost$PackReader"
  | 9 => .object "PackPost$Shelf"
  | 10 => .object "PackPost$Finding"
  | _ => .int
theorem nmX8 : ∀ a, a < 12 → ∀ b, b < 12 → a ≠ b → (TX8 a).2.1 ≠ (TX8 b).2.1 := by decide +kernel
theorem tyX8_ok : ∀ k, k < 12 → parseFieldDescriptor (TX8 k).2.2.1 = some (tyX8 k) := by decide +kernel
abbrev cX8_init : ByteArray := prog_1_method_1_code
def yX8_init : MethodName := ⟨RX8, "<init>", "()V"⟩
abbrev cX8_draft : ByteArray := prog_1_method_2_code
def yX8_draft : MethodName := ⟨RX8, "draft", "(III)I"⟩
abbrev cX8_need : ByteArray := prog_1_method_3_code
def yX8_need : MethodName := ⟨RX8, "need", "(IIZ)I"⟩
abbrev cX8_seal : ByteArray := prog_1_method_4_code
def yX8_seal : MethodName := ⟨RX8, "seal", "(I)I"⟩
abbrev cX8_row : ByteArray := prog_1_method_5_code
def yX8_row : MethodName := ⟨RX8, "row", "(II)I"⟩
abbrev cX8_add : ByteArray := prog_1_method_6_code
def yX8_add : MethodName := ⟨RX8, "add", "(IIIII)I"⟩
abbrev cX8_again : ByteArray := prog_1_method_7_code
def yX8_again : MethodName := ⟨RX8, "again", "(II)I"⟩
abbrev cX8_pack : ByteArray := prog_1_method_8_code
def yX8_pack : MethodName := ⟨RX8, "pack", "(I)I"⟩
abbrev cX8_length : ByteArray := prog_1_method_9_code
def yX8_length : MethodName := ⟨RX8, "length", "(I)I"⟩
abbrev cX8_octet : ByteArray := prog_1_method_10_code
def yX8_octet : MethodName := ⟨RX8, "octet", "(II)I"⟩
abbrev cX8_spoil : ByteArray := prog_1_method_11_code
def yX8_spoil : MethodName := ⟨RX8, "spoil", "(III)I"⟩
abbrev cX8_trim : ByteArray := prog_1_method_12_code
def yX8_trim : MethodName := ⟨RX8, "trim", "(II)I"⟩
abbrev cX8_check : ByteArray := prog_1_method_13_code
def yX8_check : MethodName := ⟨RX8, "check", "(I)I"⟩
abbrev cX8_signer : ByteArray := prog_1_method_14_code
def yX8_signer : MethodName := ⟨RX8, "signer", "(II)I"⟩
abbrev cX8_parts : ByteArray := prog_1_method_15_code
def yX8_parts : MethodName := ⟨RX8, "parts", "(II)I"⟩
abbrev cX8_load : ByteArray := prog_1_method_16_code
def yX8_load : MethodName := ⟨RX8, "load", "(III)I"⟩
abbrev cX8_tape : ByteArray := prog_1_method_17_code
def yX8_tape : MethodName := ⟨RX8, "tape", "(I)I"⟩
abbrev cX8_bend : ByteArray := prog_1_method_18_code
def yX8_bend : MethodName := ⟨RX8, "bend", "(II)I"⟩
abbrev cX8_take : ByteArray := prog_1_method_19_code
def yX8_take : MethodName := ⟨RX8, "take", "()I"⟩
abbrev cX8_book : ByteArray := prog_1_method_20_code
def yX8_book : MethodName := ⟨RX8, "book", "(II)I"⟩
abbrev cX8_drop : ByteArray := prog_1_method_21_code
def yX8_drop : MethodName := ⟨RX8, "drop", "(I)I"⟩
abbrev cX8_open : ByteArray := prog_1_method_22_code
def yX8_open : MethodName := ⟨RX8, "open", "(II)I"⟩
abbrev cX8_why : ByteArray := prog_1_method_23_code
def yX8_why : MethodName := ⟨RX8, "why", "()I"⟩
abbrev cX8_entry : ByteArray := prog_1_method_24_code
def yX8_entry : MethodName := ⟨RX8, "entry", "(II)I"⟩
abbrev cX8_close : ByteArray := prog_1_method_25_code
def yX8_close : MethodName := ⟨RX8, "close", "(I)I"⟩
abbrev cX8_reopen : ByteArray := prog_1_method_26_code
def yX8_reopen : MethodName := ⟨RX8, "reopen", "(I)I"⟩
abbrev cX8_overlay : ByteArray := prog_1_method_27_code
def yX8_overlay : MethodName := ⟨RX8, "overlay", "(II)I"⟩
abbrev cX8_find : ByteArray := prog_1_method_28_code
def yX8_find : MethodName := ⟨RX8, "find", "(II)I"⟩
abbrev cX8_path : ByteArray := prog_1_method_29_code
def yX8_path : MethodName := ⟨RX8, "path", "(III)I"⟩
abbrev cX8_page : ByteArray := prog_1_method_30_code
def yX8_page : MethodName := ⟨RX8, "page", "(II)I"⟩
abbrev cX8_read : ByteArray := prog_1_method_31_code
def yX8_read : MethodName := ⟨RX8, "read", "(III)I"⟩
abbrev cX8_edition : ByteArray := prog_1_method_32_code
def yX8_edition : MethodName := ⟨RX8, "edition", "(II)I"⟩
abbrev cX8_needed : ByteArray := prog_1_method_33_code
def yX8_needed : MethodName := ⟨RX8, "needed", "(II)I"⟩
abbrev cX8_isBelow : ByteArray := prog_1_method_34_code
def yX8_isBelow : MethodName := ⟨RX8, "isBelow", "(II)Z"⟩
abbrev cX8_isPartSize : ByteArray := prog_1_method_35_code
def yX8_isPartSize : MethodName := ⟨RX8, "isPartSize", "(I)Z"⟩
abbrev cX8_partCount : ByteArray := prog_1_method_36_code
def yX8_partCount : MethodName := ⟨RX8, "partCount", "(II)I"⟩
abbrev cX8_xorByte : ByteArray := prog_1_method_37_code
def yX8_xorByte : MethodName := ⟨RX8, "xorByte", "(LPackPost$ByteRow;II)I"⟩
abbrev cX8_hasRowInDraft : ByteArray := prog_1_method_38_code
def yX8_hasRowInDraft : MethodName := ⟨RX8, "hasRowInDraft", "()Z"⟩
abbrev cX8_packAt : ByteArray := prog_1_method_39_code
def yX8_packAt : MethodName := ⟨RX8, "packAt", "(I)LPackPost$ByteRow;"⟩
abbrev cX8_bookAt : ByteArray := prog_1_method_40_code
def yX8_bookAt : MethodName := ⟨RX8, "bookAt", "(I)LPackPost$Book;"⟩
abbrev cX8_keepDesk : ByteArray := prog_1_method_41_code
def yX8_keepDesk : MethodName := ⟨RX8, "keepDesk", "()I"⟩
abbrev cX8_isReelSpoiled : ByteArray := prog_1_method_42_code
def yX8_isReelSpoiled : MethodName := ⟨RX8, "isReelSpoiled", "()Z"⟩
abbrev cX8_refuse : ByteArray := prog_1_method_43_code
def yX8_refuse : MethodName := ⟨RX8, "refuse", "(II)I"⟩
abbrev cX8_setClosed : ByteArray := prog_1_method_44_code
def yX8_setClosed : MethodName := ⟨RX8, "setClosed", "(IZ)I"⟩
abbrev cX8_pageEntry : ByteArray := prog_1_method_45_code
def yX8_pageEntry : MethodName := ⟨RX8, "pageEntry", "(II)I"⟩
def RX9 : String := "PackPostModel"
def TX9 : u_T := fun k => match k with
  | 0 => ("PackPostModel", "drafted", "Z", false)
  | 1 => ("PackPostModel", "draftName", "I", false)
  | 2 => ("PackPostModel", "draftEdition", "I", false)
  | 3 => ("PackPostModel", "draftManner", "I", false)
  | 4 => ("PackPostModel", "needMany", "I", false)
  | 5 => ("PackPostModel", "needName", "[I", true)
  | 6 => ("PackPostModel", "needEdition", "[I", true)
  | 7 => ("PackPostModel", "needExact", "[I", true)
  | 8 => ("PackPostModel", "sealMany", "I", false)
  | 9 => ("PackPostModel", "seals", "[I", true)
  | 10 => ("PackPostModel", "rowMany", "I", false)
  | 11 => ("PackPostModel", "rowKey", "[I", true)
  | 12 => ("PackPostModel", "rowPacking", "[I", true)
  | 13 => ("PackPostModel", "rowLength", "[I", true)
  | 14 => ("PackPostModel", "pages", "[I", true)
  | 15 => ("PackPostModel", "written", "[I", true)
  | 16 => ("PackPostModel", "writtenMany", "I", false)
  | 17 => ("PackPostModel", "squeezed", "[I", true)
  | 18 => ("PackPostModel", "squeezedMany", "I", false)
  | 19 => ("PackPostModel", "packs", "I", false)
  | 20 => ("PackPostModel", "octets", "[I", true)
  | 21 => ("PackPostModel", "lengths", "[I", true)
  | 22 => ("PackPostModel", "at", "I", false)
  | 23 => ("PackPostModel", "atPack", "I", false)
  | 24 => ("PackPostModel", "place", "I", false)
  | 25 => ("PackPostModel", "readNeeds", "I", false)
  | 26 => ("PackPostModel", "readSeals", "I", false)
  | 27 => ("PackPostModel", "readRows", "I", false)
  | 28 => ("PackPostModel", "readRowsAt", "I", false)
  | 29 => ("PackPostModel", "tape", "[I", true)
  | 30 => ("PackPostModel", "taped", "I", false)
  | 31 => ("PackPostModel", "parts", "[B", true)
  | 32 => ("PackPostModel", "partLength", "[I", true)
  | 33 => ("PackPostModel", "wanted", "[I", true)
  | 34 => ("PackPostModel", "came", "[I", true)
  | 35 => ("PackPostModel", "entries", "I", false)
  | 36 => ("PackPostModel", "entryName", "[I", true)
  | 37 => ("PackPostModel", "entryEdition", "[I", true)
  | 38 => ("PackPostModel", "entryManner", "[I", true)
  | 39 => ("PackPostModel", "closed", "[Z", true)
  | 40 => ("PackPostModel", "entryNeeds", "[I", true)
  | 41 => ("PackPostModel", "meets", "[I", true)
  | 42 => ("PackPostModel", "entrySeals", "[I", true)
  | 43 => ("PackPostModel", "sealed", "[I", true)
  | 44 => ("PackPostModel", "entryRows", "[I", true)
  | 45 => ("PackPostModel", "keys", "[I", true)
  | 46 => ("PackPostModel", "pageLength", "[I", true)
  | 47 => ("PackPostModel", "kept", "[I", true)
  | 48 => ("PackPostModel", "overlayMany", "[I", true)
  | 49 => ("PackPostModel", "overlays", "[I", true)
  | 50 => ("PackPostModel", "because", "I", false)
  | 51 => ("PackPostModel", "seen", "[Z", true)
  | 52 => ("PackPostModel", "asked", "[Z", true)
  | 53 => ("PackPostModel", "pile", "[I", true)
  | 54 => ("PackPostModel", "next", "[I", true)
  | 55 => ("PackPostModel", "way", "[I", true)
  | _ => ("PackPostModel", "wayMany", "I", false)
def tyX9 : Nat → FieldType := fun k => match k with
  | 0 => .boolean
  | 1 => .int
  | 2 => .int
  | 3 => .int
  | 4 => .int
  | 5 => .array .int
  | 6 => .array .int
  | 7 => .array .int
  | 8 => .int
  | 9 => .array .int
  | 10 => .int
  | 11 => .array .int
  | 12 => .array .int
  | 13 => .array .int
  | 14 => .array .int
  | 15 => .array .int
  | 16 => .int
  | 17 => .array .int
  | 18 => .int
  | 19 => .int
  | 20 => .array .int
  | 21 => .array .int
  | 22 => .int
  | 23 => .int
  | 24 => .int
  | 25 => .int
  | 26 => .int
  | 27 => .int
  | 28 => .int
  | 29 => .array .int
  | 30 => .int
  | 31 => .array .byte
  | 32 => .array .int
  | 33 => .array .int
  | 34 => .array .int
  | 35 => .int
  | 36 => .array .int
  | 37 => .array .int
  | 38 => .array .int
  | 39 => .array .boolean
  | 40 => .array .int
  | 41 => .array .int
  | 42 => .array .int
  | 43 => .array .int
  | 44 => .array .int
  | 45 => .array .int
  | 46 => .array .int
  | 47 => .array .int
  | 48 => .array .int
  | 49 => .array .int
  | 50 => .int
  | 51 => .array .boolean
  | 52 => .array .boolean
  | 53 => .array .int
  | 54 => .array .int
  | 55 => .array .int
  | _ => .int
theorem nmX9 : ∀ a, a < 57 → ∀ b, b < 57 → a ≠ b → (TX9 a).2.1 ≠ (TX9 b).2.1 := by decide +kernel
theorem tyX9_ok : ∀ k, k < 57 → parseFieldDescriptor (TX9 k).2.2.1 = some (tyX9 k) := by decide +kernel
abbrev cX9_init : ByteArray := prog_11_method_1_code
def yX9_init : MethodName := ⟨RX9, "<init>", "()V"⟩
abbrev cX9_in : ByteArray := prog_11_method_2_code
def yX9_in : MethodName := ⟨RX9, "in", "(II)Z"⟩
abbrev cX9_draft : ByteArray := prog_11_method_3_code
def yX9_draft : MethodName := ⟨RX9, "draft", "(III)I"⟩
abbrev cX9_has : ByteArray := prog_11_method_4_code
def yX9_has : MethodName := ⟨RX9, "has", "([III)Z"⟩
abbrev cX9_need : ByteArray := prog_11_method_5_code
def yX9_need : MethodName := ⟨RX9, "need", "(IIZ)I"⟩
abbrev cX9_seal : ByteArray := prog_11_method_6_code
def yX9_seal : MethodName := ⟨RX9, "seal", "(I)I"⟩
abbrev cX9_row : ByteArray := prog_11_method_7_code
def yX9_row : MethodName := ⟨RX9, "row", "(II)I"⟩
abbrev cX9_one : ByteArray := prog_11_method_8_code
def yX9_one : MethodName := ⟨RX9, "one", "(IIIIII)I"⟩
abbrev cX9_addByte : ByteArray := prog_11_method_9_code
def yX9_addByte : MethodName := ⟨RX9, "addByte", "(I)V"⟩
abbrev cX9_add : ByteArray := prog_11_method_10_code
def yX9_add : MethodName := ⟨RX9, "add", "(IIIII)I"⟩
abbrev cX9_again : ByteArray := prog_11_method_11_code
def yX9_again : MethodName := ⟨RX9, "again", "(II)I"⟩
abbrev cX9_write : ByteArray := prog_11_method_12_code
def yX9_write : MethodName := ⟨RX9, "write", "(I)V"⟩
abbrev cX9_go : ByteArray := prog_11_method_13_code
def yX9_go : MethodName := ⟨RX9, "go", "(II)I"⟩
abbrev cX9_writeFour : ByteArray := prog_11_method_14_code
def yX9_writeFour : MethodName := ⟨RX9, "writeFour", "(I)V"⟩
abbrev cX9_writtenSum : ByteArray := prog_11_method_15_code
def yX9_writtenSum : MethodName := ⟨RX9, "writtenSum", "(I)I"⟩
abbrev cX9_squeeze : ByteArray := prog_11_method_16_code
def yX9_squeeze : MethodName := ⟨RX9, "squeeze", "(I)V"⟩
abbrev cX9_writePairs : ByteArray := prog_11_method_17_code
def yX9_writePairs : MethodName := ⟨RX9, "writePairs", "(II)V"⟩
abbrev cX9_likeAhead : ByteArray := prog_11_method_18_code
def yX9_likeAhead : MethodName := ⟨RX9, "likeAhead", "(IIII)I"⟩
abbrev cX9_bestBack : ByteArray := prog_11_method_19_code
def yX9_bestBack : MethodName := ⟨RX9, "bestBack", "(III)I"⟩
abbrev cX9_writeOps : ByteArray := prog_11_method_20_code
def yX9_writeOps : MethodName := ⟨RX9, "writeOps", "(II)V"⟩
abbrev cX9_writePlain : ByteArray := prog_11_method_21_code
def yX9_writePlain : MethodName := ⟨RX9, "writePlain", "(II)V"⟩
abbrev cX9_squeezeRow : ByteArray := prog_11_method_22_code
def yX9_squeezeRow : MethodName := ⟨RX9, "squeezeRow", "(I)V"⟩
abbrev cX9_writeHead : ByteArray := prog_11_method_23_code
def yX9_writeHead : MethodName := ⟨RX9, "writeHead", "(I)V"⟩
abbrev cX9_pack : ByteArray := prog_11_method_24_code
def yX9_pack : MethodName := ⟨RX9, "pack", "(I)I"⟩
abbrev cX9_isPack : ByteArray := prog_11_method_25_code
def yX9_isPack : MethodName := ⟨RX9, "isPack", "(I)Z"⟩
abbrev cX9_isOctet : ByteArray := prog_11_method_26_code
def yX9_isOctet : MethodName := ⟨RX9, "isOctet", "(II)Z"⟩
abbrev cX9_length : ByteArray := prog_11_method_27_code
def yX9_length : MethodName := ⟨RX9, "length", "(I)I"⟩
abbrev cX9_octet : ByteArray := prog_11_method_28_code
def yX9_octet : MethodName := ⟨RX9, "octet", "(II)I"⟩
abbrev cX9_spoil : ByteArray := prog_11_method_29_code
def yX9_spoil : MethodName := ⟨RX9, "spoil", "(III)I"⟩
abbrev cX9_trim : ByteArray := prog_11_method_30_code
def yX9_trim : MethodName := ⟨RX9, "trim", "(II)I"⟩
abbrev cX9_here : ByteArray := prog_11_method_31_code
def yX9_here : MethodName := ⟨RX9, "here", "(I)I"⟩
abbrev cX9_want : ByteArray := prog_11_method_32_code
def yX9_want : MethodName := ⟨RX9, "want", "(I)I"⟩
abbrev cX9_came : ByteArray := prog_11_method_33_code
def yX9_came : MethodName := ⟨RX9, "came", "(IIII)Z"⟩
abbrev cX9_wantNew : ByteArray := prog_11_method_34_code
def yX9_wantNew : MethodName := ⟨RX9, "wantNew", "(IIII)V"⟩
abbrev cX9_exactly : ByteArray := prog_11_method_35_code
def yX9_exactly : MethodName := ⟨RX9, "exactly", "(I)V"⟩
abbrev cX9_wantTwo : ByteArray := prog_11_method_36_code
def yX9_wantTwo : MethodName := ⟨RX9, "wantTwo", "(I)V"⟩
abbrev cX9_readHead : ByteArray := prog_11_method_37_code
def yX9_readHead : MethodName := ⟨RX9, "readHead", "()V"⟩
abbrev cX9_readPlain : ByteArray := prog_11_method_38_code
def yX9_readPlain : MethodName := ⟨RX9, "readPlain", "(II)V"⟩
abbrev cX9_readPairs : ByteArray := prog_11_method_39_code
def yX9_readPairs : MethodName := ⟨RX9, "readPairs", "(II)V"⟩
abbrev cX9_readOps : ByteArray := prog_11_method_40_code
def yX9_readOps : MethodName := ⟨RX9, "readOps", "(II)V"⟩
abbrev cX9_sumOf : ByteArray := prog_11_method_41_code
def yX9_sumOf : MethodName := ⟨RX9, "sumOf", "(II)I"⟩
abbrev cX9_isSigned : ByteArray := prog_11_method_42_code
def yX9_isSigned : MethodName := ⟨RX9, "isSigned", "()Z"⟩
abbrev cX9_wrong : ByteArray := prog_11_method_43_code
def yX9_wrong : MethodName := ⟨RX9, "wrong", "(I)I"⟩
abbrev cX9_check : ByteArray := prog_11_method_44_code
def yX9_check : MethodName := ⟨RX9, "check", "(I)I"⟩
abbrev cX9_signer : ByteArray := prog_11_method_45_code
def yX9_signer : MethodName := ⟨RX9, "signer", "(II)I"⟩
abbrev cX9_parts : ByteArray := prog_11_method_46_code
def yX9_parts : MethodName := ⟨RX9, "parts", "(II)I"⟩
abbrev cX9_tapeSum : ByteArray := prog_11_method_47_code
def yX9_tapeSum : MethodName := ⟨RX9, "tapeSum", "(I)I"⟩
abbrev cX9_load : ByteArray := prog_11_method_48_code
def yX9_load : MethodName := ⟨RX9, "load", "(III)I"⟩
abbrev cX9_tape : ByteArray := prog_11_method_49_code
def yX9_tape : MethodName := ⟨RX9, "tape", "(I)I"⟩
abbrev cX9_bend : ByteArray := prog_11_method_50_code
def yX9_bend : MethodName := ⟨RX9, "bend", "(II)I"⟩
abbrev cX9_isSpoiled : ByteArray := prog_11_method_51_code
def yX9_isSpoiled : MethodName := ⟨RX9, "isSpoiled", "()Z"⟩
abbrev cX9_bookLength : ByteArray := prog_11_method_52_code
def yX9_bookLength : MethodName := ⟨RX9, "bookLength", "(I)I"⟩
abbrev cX9_emptyBook : ByteArray := prog_11_method_53_code
def yX9_emptyBook : MethodName := ⟨RX9, "emptyBook", "(I)V"⟩
abbrev cX9_join : ByteArray := prog_11_method_54_code
def yX9_join : MethodName := ⟨RX9, "join", "(I)I"⟩
abbrev cX9_take : ByteArray := prog_11_method_55_code
def yX9_take : MethodName := ⟨RX9, "take", "()I"⟩
abbrev cX9_book : ByteArray := prog_11_method_56_code
def yX9_book : MethodName := ⟨RX9, "book", "(II)I"⟩
abbrev cX9_drop : ByteArray := prog_11_method_57_code
def yX9_drop : MethodName := ⟨RX9, "drop", "(I)I"⟩
abbrev cX9_meeting : ByteArray := prog_11_method_58_code
def yX9_meeting : MethodName := ⟨RX9, "meeting", "(IIZ)I"⟩
abbrev cX9_findSeen : ByteArray := prog_11_method_59_code
def yX9_findSeen : MethodName := ⟨RX9, "findSeen", "(I)V"⟩
abbrev cX9_hasRowOf : ByteArray := prog_11_method_60_code
def yX9_hasRowOf : MethodName := ⟨RX9, "hasRowOf", "(II)Z"⟩
abbrev cX9_seals : ByteArray := prog_11_method_61_code
def yX9_seals : MethodName := ⟨RX9, "seals", "(II)Z"⟩
abbrev cX9_sealedGroup : ByteArray := prog_11_method_62_code
def yX9_sealedGroup : MethodName := ⟨RX9, "sealedGroup", "(I)I"⟩
abbrev cX9_unpack : ByteArray := prog_11_method_63_code
def yX9_unpack : MethodName := ⟨RX9, "unpack", "(IIIII)V"⟩
abbrev cX9_layDown : ByteArray := prog_11_method_64_code
def yX9_layDown : MethodName := ⟨RX9, "layDown", "(I)Z"⟩
abbrev cX9_open : ByteArray := prog_11_method_65_code
def yX9_open : MethodName := ⟨RX9, "open", "(II)I"⟩
abbrev cX9_why : ByteArray := prog_11_method_66_code
def yX9_why : MethodName := ⟨RX9, "why", "()I"⟩
abbrev cX9_isEntry : ByteArray := prog_11_method_67_code
def yX9_isEntry : MethodName := ⟨RX9, "isEntry", "(I)Z"⟩
abbrev cX9_entry : ByteArray := prog_11_method_68_code
def yX9_entry : MethodName := ⟨RX9, "entry", "(II)I"⟩
abbrev cX9_close : ByteArray := prog_11_method_69_code
def yX9_close : MethodName := ⟨RX9, "close", "(I)I"⟩
abbrev cX9_reopen : ByteArray := prog_11_method_70_code
def yX9_reopen : MethodName := ⟨RX9, "reopen", "(I)I"⟩
abbrev cX9_overlay : ByteArray := prog_11_method_71_code
def yX9_overlay : MethodName := ⟨RX9, "overlay", "(II)I"⟩
abbrev cX9_rowOf : ByteArray := prog_11_method_72_code
def yX9_rowOf : MethodName := ⟨RX9, "rowOf", "(II)I"⟩
abbrev cX9_looks : ByteArray := prog_11_method_73_code
def yX9_looks : MethodName := ⟨RX9, "looks", "(II)Z"⟩
abbrev cX9_ask : ByteArray := prog_11_method_74_code
def yX9_ask : MethodName := ⟨RX9, "ask", "(II)I"⟩
abbrev cX9_find : ByteArray := prog_11_method_75_code
def yX9_find : MethodName := ⟨RX9, "find", "(II)I"⟩
abbrev cX9_path : ByteArray := prog_11_method_76_code
def yX9_path : MethodName := ⟨RX9, "path", "(III)I"⟩
abbrev cX9_page : ByteArray := prog_11_method_77_code
def yX9_page : MethodName := ⟨RX9, "page", "(II)I"⟩
abbrev cX9_read : ByteArray := prog_11_method_78_code
def yX9_read : MethodName := ⟨RX9, "read", "(III)I"⟩
abbrev cX9_edition : ByteArray := prog_11_method_79_code
def yX9_edition : MethodName := ⟨RX9, "edition", "(II)I"⟩
abbrev cX9_needed : ByteArray := prog_11_method_80_code
def yX9_needed : MethodName := ⟨RX9, "needed", "(II)I"⟩
def RJ9 : String := "java/lang/Math"
abbrev cJ9_max_7cf53 : ByteArray := prog_12_method_65_code
def yJ9_max_7cf53 : MethodName := ⟨RJ9, "max", "(II)I"⟩
abbrev cJ9_min_7cf53 : ByteArray := prog_12_method_69_code
def yJ9_min_7cf53 : MethodName := ⟨RJ9, "min", "(II)I"⟩
def RL : String := "PackPostLaw"
abbrev cL_law : ByteArray := code
def yL_law : MethodName := ⟨RL, "law", "([I)Z"⟩
abbrev vwCl : List vw_C := [(RX0, TX0, 4), (RX1, TX1, 2), (RX2, TX2, 15), (RX3, TX3, 6), (RX4, TX4, 3), (RX5, TX5, 6), (RX6, TX6, 4), (RX7, TX7, 2), (RX8, TX8, 12), (RX9, TX9, 57)]
end
section
/-! ===== the light logic: a judgement over an abstract heap of numbered cells, made once of the kit's rows ===== -/
abbrev xC : Type := Nat × List Value
abbrev xS : Type := (Nat → Option xC) × Nat × Nat
abbrev xG : Type := Launch × (Nat → ClassId) × (Nat → Nat → Nat) × Nat
abbrev xE : Type := (Nat × Nat × Int32) × Nat
abbrev xM : Type := MethodName × ByteArray × Nat × Option FieldType × List (Nat × xE)
abbrev xL : Type := List (Option Value)
abbrev rf (G : xG) (k : Nat) : Value := .ref (G.2.2.2 + k)
def xisN : Cond → Bool
  | .fieldLinkNest .. => true
  | .methodLinkNest .. => true
  | _ => false
def xGw : List Cond := lw_tbl.filter goodWord
def xNw : List Cond := lw_tbl.filter xisN
theorem xGw_in {w : Cond} (h : w ∈ lw_tbl) (g : goodWord w = true) : w ∈ xGw := List.mem_filter.mpr ⟨h, g⟩
theorem xNw_in {w : Cond} (h : w ∈ lw_tbl) (g : xisN w = true) : w ∈ xNw := List.mem_filter.mpr ⟨h, g⟩
def xtag (t : Nat) : FieldType := match t with
  | 10 => .byte
  | 11 => .int
  | 12 => .boolean
  | 13 => .object "PackPost$Book"
  | 14 => .object "PackPost$ByteRow"
  | 15 => .object "PackPost$Entry"
  | _ => .array .int
def xtys (dC : Nat → ClassId) : List (ClassId × FieldType) := [(dC 10, xtag 10), (dC 11, xtag 11), (dC 12, xtag 12), (dC 13, xtag 13), (dC 14, xtag 14), (dC 15, xtag 15), (dC 16, xtag 16)]
def xOA (U : State) : Prop := (Cond.arrayOver (.array .int)).before #[] U = true
def xK (G : xG) (U : State) : Prop := va_K (G.2.1, G.2.2.1) vwCl (xtys G.2.1) U ∧ (∀ w ∈ xNw, va_Nw w U) ∧ (∀ C ∈ ["PackPost$Book", "PackPost$ByteRow", "PackPost$Entry"], va_AO C U) ∧ xOA U
theorem xOA.moved {u U : State} (hvm : u.vm.Alike U.vm) (h : xOA u) : xOA U := by
  obtain ⟨comp, c, k, h1, h2, h3, h4, h5⟩ := arrayOverA_spec h
  obtain ⟨k', hk', he⟩ := hvm.2.2 _ _ h3
  have hi : (U.vm.classes.findIdx? fun (x : Class) => match x.kind with | .array component _ => component == comp | _ => false) = some c := by
    have e1 := va_idx_bare U.vm comp
    have e2 := va_idx_bare u.vm comp
    have e3 : U.vm.bare = u.vm.bare := by first | exact hvm.bare_eq | exact hvm.bare_eq.symm
    rw [e3] at e1
    exact e1.symm.trans (e2.trans h2)
  have hkind : k'.kind = .array comp (.array .int) := by rw [he]; exact h4
  have f1 : U.vm.findClass (FieldType.array .int).toString = some comp := by rw [hvm.findClass]; exact h1
  have f2 : U.vm.findClass ("[" ++ (FieldType.array .int).toString) = some c := by rw [hvm.findClass]; exact h5
  unfold xOA Cond.before Cond.holds
  simp only [Cond.value]
  rw [f1, Option.bind_some]
  refine (congrArg (fun o : Option Nat => (o.bind (fun c => (U.vm.classes[c]?).map fun (k : Class) => match k.kind with | .array _ ty => decide (ty = FieldType.array .int) && decide (U.vm.findClass ("[" ++ (FieldType.array .int).toString) = some c) | _ => false) == some true)) hi).trans ?_
  simp [hk', hkind, f2]
theorem xK.moved {G : xG} {s U : State} (hW : s.WarmedH U.vm) (h : xK G s) : xK G U := by
  obtain ⟨h1, h2, h3, h4⟩ := h
  refine ⟨va_K.moved hW.alike h1, fun w hw => ?_, fun C hC => va_AO.moved hW.alike (h3 C hC), xOA.moved hW.alike h4⟩
  have hn := (List.mem_filter.mp hw).2
  have hz := h2 w hw
  cases w <;> first | exact absurd hn (by decide) | exact va_Nw.warmF hW hz | exact va_Nw.warmM hW hz | exact absurd hn (by simp [xisN])
theorem xK.same {G : xG} {s U : State} (hvm : s.vm = U.vm) (h : xK G s) : xK G U := by
  obtain ⟨h1, h2, h3, h4⟩ := h
  have hA : s.vm.Alike U.vm := by rw [hvm]; exact Vm.Alike.refl _
  refine ⟨va_K.moved hA h1, fun w hw => ?_, fun C hC => va_AO.moved hA (h3 C hC), xOA.moved hA h4⟩
  have hn := (List.mem_filter.mp hw).2
  refine va_Nw.same ?_ hvm (h2 w hw)
  cases w <;> first | rfl | exact absurd hn (by simp [xisN])
/-- an array's cell -/
def xar (G : xG) (t : Nat) (vs : List Value) : Cell := { cls := G.2.1 t, slots := vs.toArray, vm := .none }
def xat (G : xG) (H : Heap) (k : Nat) (c : xC) : Prop :=
  (∃ r : vw_C, vwCl[c.1]? = some r ∧ c.2.length = r.2.2 ∧ t_OB (G.2.2.2 + k) (G.2.1 c.1) r.2.2 (G.2.2.1 c.1) H (vp_V c.2)) ∨
  (10 ≤ c.1 ∧ c.1 ≤ 16 ∧ H[G.2.2.2 + k]? = some (xar G c.1 c.2))
def xrel (G : xG) (σ : xS) (H : Heap) : Prop := H.size = G.2.2.2 + σ.2.1 ∧ ∀ k c, σ.1 k = some c → xat G H k c
def xfr (G : xG) (s : State) (H : Heap) (locs : List Loc) : Prop := (∀ q : Nat, q < G.2.2.2 → H[q]? = s.heap[q]?) ∧ ∀ l ∈ locs, G.2.2.2 ≤ l.base
def xll (lo : xL) : List (Nat × Value) := (List.range lo.length).filterMap (fun i => (lo[i]?).join.map (fun v => (i, v)))
def xlo (ls : Array Slot) (n : Nat) (lo : xL) : Prop := lo.length = n ∧ lv_has ls n (xll lo) ∧ ∀ (i : Nat) (v : Value), lo[i]? = some (some v) → v.category = 1
theorem xll_mem {lo : xL} {q : Nat × Value} : q ∈ xll lo ↔ lo[q.1]? = some (some q.2) := by
  unfold xll
  rw [List.mem_filterMap]
  constructor
  · rintro ⟨i, -, hi⟩
    cases hl : lo[i]? with
    | none => rw [hl] at hi; simp at hi
    | some o =>
      cases o with
      | none => rw [hl] at hi; simp at hi
      | some v => rw [hl] at hi; simp at hi; subst hi; exact hl
  · intro h
    have hlt : q.1 < lo.length := (List.getElem?_eq_some_iff.mp h).1
    exact ⟨q.1, List.mem_range.mpr hlt, by rw [h]; rfl⟩
theorem xlo.get {ls : Array Slot} {n : Nat} {lo : xL} (h : xlo ls n lo) {i : Nat} {v : Value} (hi : lo[i]? = some (some v)) : ls[i]? = some (.val v) := h.2.1.2.2 (i, v) (xll_mem.mpr hi)
theorem xlo.set {ls : Array Slot} {n : Nat} {lo : xL} {i : Nat} {v : Value} (h : xlo ls n lo) (hi : i < n) (hc : v.category = 1) : ∃ ls', storeLocals ls i v = some ls' ∧ xlo ls' n (lo.set i (some v)) := by
  obtain ⟨ls', e, hs, hw, hq⟩ := lv_store1 h.2.1 hi hc
  refine ⟨ls', e, by rw [List.length_set]; exact h.1, ⟨hs, hw, fun q hm => ?_⟩, fun j u hj => ?_⟩
  · have hm' := xll_mem.mp hm
    rw [List.getElem?_set] at hm'
    by_cases hji : i = q.1
    · rw [if_pos hji] at hm'
      have hlt : i < lo.length := by rw [h.1]; exact hi
      rw [if_pos hlt] at hm'
      have e1 : v = q.2 := by simpa using hm'
      refine hq q (List.mem_cons.mpr (Or.inl ?_))
      rw [hji, e1]
    · rw [if_neg hji] at hm'
      refine hq q (List.mem_cons.mpr (Or.inr (List.mem_filter.mpr ⟨xll_mem.mpr hm', ?_⟩)))
      have h1 := h.2.2 _ _ hm'
      simp [h1, Ne.symm hji]
  · rw [List.getElem?_set] at hj
    by_cases hji : i = j
    · rw [if_pos hji] at hj
      split at hj
      · have e1 : v = u := by simpa using hj
        rw [← e1]; exact hc
      · simp at hj
    · rw [if_neg hji] at hj
      exact h.2.2 j u hj
theorem xlook {β : Type} {l : List (Nat × β)} {a : Nat} {b : β} (h : l.lookup a = some b) : (a, b) ∈ l := by
  induction l with
  | nil => simp at h
  | cons x l ih =>
    obtain ⟨x1, x2⟩ := x
    rw [List.lookup_cons] at h
    by_cases e : a = x1
    · subst e
      simp at h
      subst h
      exact List.mem_cons_self
    · rw [show (a == x1) = false by simpa using e] at h
      exact List.mem_cons_of_mem _ (ih h)
/-- an instruction of ours as the machine's -/
def xins (pc : Nat) (e : Nat × Nat × Int32) : Instr := match e with
  | (1, _, _) => .aconst_null
  | (2, _, v) => .iconst v.toInt
  | (16, _, v) => .bipush v.toInt
  | (17, _, v) => .sipush v.toInt
  | (18, a, _) => .ldc a
  | (21, a, _) => .iload a
  | (25, a, _) => .aload a
  | (26, a, _) => .iload_n (Fin.ofNat 4 a)
  | (42, a, _) => .aload_n (Fin.ofNat 4 a)
  | (46, _, _) => .iaload
  | (50, _, _) => .aaload
  | (51, _, _) => .baload
  | (54, a, _) => .istore a
  | (58, a, _) => .astore a
  | (59, a, _) => .istore_n (Fin.ofNat 4 a)
  | (75, a, _) => .astore_n (Fin.ofNat 4 a)
  | (79, _, _) => .iastore
  | (83, _, _) => .aastore
  | (84, _, _) => .bastore
  | (87, _, _) => .pop
  | (89, _, _) => .dup
  | (92, _, _) => .dup2
  | (96, _, _) => .iadd
  | (100, _, _) => .isub
  | (104, _, _) => .imul
  | (108, _, _) => .idiv
  | (112, _, _) => .irem
  | (120, _, _) => .ishl
  | (122, _, _) => .ishr
  | (124, _, _) => .iushr
  | (126, _, _) => .iand
  | (128, _, _) => .ior
  | (130, _, _) => .ixor
  | (132, a, v) => .iinc a v.toInt
  | (145, _, _) => .i2b
  | (153, a, _) => .ifCond .eq ((a : Int) - pc)
  | (154, a, _) => .ifCond .ne ((a : Int) - pc)
  | (155, a, _) => .ifCond .lt ((a : Int) - pc)
  | (156, a, _) => .ifCond .ge ((a : Int) - pc)
  | (157, a, _) => .ifCond .gt ((a : Int) - pc)
  | (158, a, _) => .ifCond .le ((a : Int) - pc)
  | (159, a, _) => .if_icmp .eq ((a : Int) - pc)
  | (160, a, _) => .if_icmp .ne ((a : Int) - pc)
  | (161, a, _) => .if_icmp .lt ((a : Int) - pc)
  | (162, a, _) => .if_icmp .ge ((a : Int) - pc)
  | (163, a, _) => .if_icmp .gt ((a : Int) - pc)
  | (164, a, _) => .if_icmp .le ((a : Int) - pc)
  | (167, a, _) => .goto ((a : Int) - pc)
  | (172, _, _) => .ireturn
  | (176, _, _) => .areturn
  | (177, _, _) => .return_
  | (180, a, _) => .getfield a
  | (181, a, _) => .putfield a
  | (182, a, _) => .invokevirtual a
  | (183, a, _) => .invokespecial a
  | (184, a, _) => .invokestatic a
  | (187, a, _) => .new a
  | (188, 4, _) => .newarray .boolean
  | (188, 8, _) => .newarray .byte
  | (188, _, _) => .newarray .int
  | (189, a, _) => .anewarray a
  | (190, _, _) => .arraylength
  | (197, a, _) => .multianewarray a 2
  | (198, a, _) => .ifnull ((a : Int) - pc)
  | (199, a, _) => .ifnonnull ((a : Int) - pc)
  | _ => .nop
def xval (e : Nat × Nat × Int32) : Bool := match e with
  | (16, _, v) => (Int8.ofInt v.toInt).toInt32 == v
  | (17, _, v) => (Int16.ofInt v.toInt).toInt32 == v
  | (26, a, _) => decide (a < 4)
  | (42, a, _) => decide (a < 4)
  | (59, a, _) => decide (a < 4)
  | (75, a, _) => decide (a < 4)
  | _ => true
def xtok (cc : ByteArray) (tb : List (Nat × xE)) : Prop := ∀ q ∈ tb, decode cc q.1 = .ok (xins q.1 q.2.1, q.2.2) ∧ xval q.2.1 = true
end
section
theorem xwords (ws : List Cond) (ps : List Nat) (h : ws = ps.filterMap (fun i => lw_tbl[i]?)) (g : ws.all goodWord = true) : ∀ w ∈ ws, w ∈ xGw := by
  intro w hw
  have hg := List.all_eq_true.mp g w hw
  rw [h] at hw
  obtain ⟨i, -, hi⟩ := List.mem_filterMap.mp hw
  exact xGw_in (List.mem_of_getElem? hi) hg
theorem uX0 : ∀ w ∈ u_ws RX0 TX0 4, w ∈ xGw := xwords _ [223, 225, 227, 229] (by decide +kernel) (by decide +kernel)
theorem uX1 : ∀ w ∈ u_ws RX1 TX1 2, w ∈ xGw := xwords _ [203, 205] (by decide +kernel) (by decide +kernel)
theorem uX2 : ∀ w ∈ u_ws RX2 TX2 15, w ∈ xGw := xwords _ [154, 156, 158, 160, 162, 164, 166, 168, 170, 172, 174, 176, 178, 180, 182] (by decide +kernel) (by decide +kernel)
theorem uX3 : ∀ w ∈ u_ws RX3 TX3 6, w ∈ xGw := xwords _ [794, 796, 798, 800, 802, 804] (by decide +kernel) (by decide +kernel)
theorem uX4 : ∀ w ∈ u_ws RX4 TX4 3, w ∈ xGw := xwords _ [308, 310, 312] (by decide +kernel) (by decide +kernel)
theorem uX5 : ∀ w ∈ u_ws RX5 TX5 6, w ∈ xGw := xwords _ [270, 272, 274, 276, 278, 280] (by decide +kernel) (by decide +kernel)
theorem uX6 : ∀ w ∈ u_ws RX6 TX6 4, w ∈ xGw := xwords _ [244, 246, 248, 250] (by decide +kernel) (by decide +kernel)
theorem uX7 : ∀ w ∈ u_ws RX7 TX7 2, w ∈ xGw := xwords _ [294, 296] (by decide +kernel) (by decide +kernel)
theorem uX8 : ∀ w ∈ u_ws RX8 TX8 12, w ∈ xGw := xwords _ [327, 329, 331, 333, 335, 337, 339, 341, 343, 345, 347, 349] (by decide +kernel) (by decide +kernel)
theorem uX9 : ∀ w ∈ u_ws RX9 TX9 57, w ∈ xGw := xwords _ [983, 985, 987, 989, 991, 993, 995, 997, 999, 1001, 1003, 1005, 1007, 1009, 1011, 1013, 1015, 1017, 1019, 1021, 1023, 1025, 1027, 1029, 1031, 1033, 1035, 1037, 1039, 1041, 1043, 1045, 1047, 1049, 1051, 1053, 1055, 1057, 1059, 1061, 1063, 1065, 1067, 1069, 1071, 1073, 1075, 1077, 1079, 1081, 1083, 1085, 1087, 1089, 1091, 1093, 1095] (by decide +kernel) (by decide +kernel)
def xTy (ci : Nat) : Nat → FieldType := match ci with
  | 0 => tyX0
  | 1 => tyX1
  | 2 => tyX2
  | 3 => tyX3
  | 4 => tyX4
  | 5 => tyX5
  | 6 => tyX6
  | 7 => tyX7
  | 8 => tyX8
  | _ => tyX9
theorem xty_ok {ci : Nat} {r : vw_C} (h : vwCl[ci]? = some r) : ∀ k, k < r.2.2 → parseFieldDescriptor (r.2.1 k).2.2.1 = some (xTy ci k) := by
  match ci, h with
  | 0, h => cases h; exact tyX0_ok
  | 1, h => cases h; exact tyX1_ok
  | 2, h => cases h; exact tyX2_ok
  | 3, h => cases h; exact tyX3_ok
  | 4, h => cases h; exact tyX4_ok
  | 5, h => cases h; exact tyX5_ok
  | 6, h => cases h; exact tyX6_ok
  | 7, h => cases h; exact tyX7_ok
  | 8, h => cases h; exact tyX8_ok
  | 9, h => cases h; exact tyX9_ok
  | n + 10, h => simp [vwCl] at h
theorem xnm_ok {ci : Nat} {r : vw_C} (h : vwCl[ci]? = some r) : ∀ a, a < r.2.2 → ∀ b, b < r.2.2 → a ≠ b → (r.2.1 a).2.1 ≠ (r.2.1 b).2.1 := by
  match ci, h with
  | 0, h => cases h; exact nmX0
  | 1, h => cases h; exact nmX1
  | 2, h => cases h; exact nmX2
  | 3, h => cases h; exact nmX3
  | 4, h => cases h; exact nmX4
  | 5, h => cases h; exact nmX5
  | 6, h => cases h; exact nmX6
  | 7, h => cases h; exact nmX7
  | 8, h => cases h; exact nmX8
  | 9, h => cases h; exact nmX9
  | n + 10, h => simp [vwCl] at h
theorem xus_ok {ci : Nat} {r : vw_C} (h : vwCl[ci]? = some r) : ∀ w ∈ u_ws r.1 r.2.1 r.2.2, w ∈ xGw := by
  match ci, h with
  | 0, h => cases h; exact uX0
  | 1, h => cases h; exact uX1
  | 2, h => cases h; exact uX2
  | 3, h => cases h; exact uX3
  | 4, h => cases h; exact uX4
  | 5, h => cases h; exact uX5
  | 6, h => cases h; exact uX6
  | 7, h => cases h; exact uX7
  | 8, h => cases h; exact uX8
  | 9, h => cases h; exact uX9
  | n + 10, h => simp [vwCl] at h
def xFin (ci k : Nat) : Bool := match vwCl[ci]? with
  | some r => (r.2.1 k).2.2.2
  | none => false
theorem xlen {ci : Nat} {r : vw_C} (h : vwCl[ci]? = some r) : ci < 10 := (List.getElem?_eq_some_iff.mp h).1
end
section
/-! ===== the judgement ===== -/
def xctx (G : xG) (d : Nat) (M : xM) (n0 s0 n1 s1 : Nat) (p : Program) (R : Room) (s : State) (m : MethodId) (args : Array Value) (meth : Method) (c : Code) : Prop :=
  p.tables.exec = Jvm.exec ∧ c.code = M.2.1 ∧ c.maxLocals = M.2.2.1 ∧ meth.sig.returnType = M.2.2.2.1 ∧ meth.locks = false ∧ s.vm.findClass M.1.cls = some m.cls ∧ meth.name = M.1.name ∧ (∀ w ∈ xGw, w.before args s = true) ∧ xK G s ∧ d ≤ R.frames ∧ 50 * d ≤ R.locals ∧ R.cells = n1 - n0 ∧ R.slots = s1 - s0 ∧ xtok M.2.1 M.2.2.2.2 ∧ G.2.2.2 ≤ s.heap.size
def xQc (G : xG) (v : Option Value) (σ' : xS) : Array Value → State → Outcome → State → Prop := fun _ st o t => o = .returned v ∧ xrel G σ' t.heap ∧ ∀ q : Nat, q < G.2.2.2 → t.heap[q]? = st.heap[q]?
def xwo (G : xG) (d : Nat) (M : xM) (pc : Nat) (lo : xL) (st : List Value) (σ : xS) (v : Option Value) (σ' : xS) : Prop :=
  σ.2.1 ≤ σ'.2.1 ∧ σ.2.2 ≤ σ'.2.2 ∧ ∀ (n0 s0 : Nat) (p : Program) (e : Env) (R : Room) (s : State) (m : MethodId) (args : Array Value) (below : List Frame) (meth : Method) (c : Code) (H : Heap) (locs : List Loc) (ls : Array Slot),
    xctx G d M n0 s0 σ'.2.1 σ'.2.2 p R s m args meth c → n0 ≤ σ.2.1 → s0 ≤ σ.2.2 → xrel G σ H → xfr G s H locs → xlo ls M.2.2.1 lo →
    W p G.1 e R s m args below meth c H locs (σ.2.1 - n0) (σ.2.2 - s0) (MQ below (xQc G v σ') args s (σ'.2.1 - n0) (σ'.2.2 - s0) (fun q => G.2.2.2 ≤ q)) (F0 m pc ls st)
def xw (G : xG) (d : Nat) (M : xM) (pc : Nat) (lo : xL) (st : List Value) (σ : xS) (Q : Option Value → xS → Prop) : Prop := ∃ v σ', Q v σ' ∧ xwo G d M pc lo st σ v σ'
/-- a method's contract: from the state σ with the arguments As it returns, Q holds -/
def xm (G : xG) (d : Nat) (M : xM) (As : List Value) (σ : xS) (Q : Option Value → xS → Prop) : Prop :=
  ∃ v σ', Q v σ' ∧ σ.2.1 ≤ σ'.2.1 ∧ σ.2.2 ≤ σ'.2.2 ∧ Met G.1 M.1 (.code M.1 M.2.1 M.2.2.1 M.2.2.2.1 :: xGw) { frames := d, cells := σ'.2.1 - σ.2.1, slots := σ'.2.2 - σ.2.2, locals := 50 * d }
    (va_Pc As (fun U => xrel G σ U.heap ∧ xK G U)) (xQc G v σ') (σ'.2.1 - σ.2.1) (σ'.2.2 - σ.2.2) (fun q => G.2.2.2 ≤ q)
theorem xm.mono {G : xG} {d : Nat} {M : xM} {As : List Value} {σ : xS} {Q Q' : Option Value → xS → Prop} (h : xm G d M As σ Q) (hq : ∀ v σ', Q v σ' → Q' v σ') : xm G d M As σ Q' := by
  obtain ⟨v, σ', h1, h2⟩ := h
  exact ⟨v, σ', hq _ _ h1, h2⟩
def xstep (G : xG) (M : xM) (σ : xS) (pc : Nat) (lo : xL) (st : List Value) (pc' : Nat) (lo' : xL) (st' : List Value) : Prop :=
  ∀ (p : Program) (e : Env) (R : Room) (s : State) (m : MethodId) (args : Array Value) (below : List Frame) (meth : Method) (c : Code) (H : Heap) (locs : List Loc) (cells slots : Nat) (Qw : State → Prop) (ls : Array Slot),
    p.tables.exec = Jvm.exec → c.code = M.2.1 → s.vm.findClass M.1.cls = some m.cls → (∀ w ∈ xGw, w.before args s = true) → xK G s → xtok M.2.1 M.2.2.2.2 → xrel G σ H → xlo ls M.2.2.1 lo →
    (∀ ls', xlo ls' M.2.2.1 lo' → W p G.1 e R s m args below meth c H locs cells slots Qw (F0 m pc' ls' st')) → W p G.1 e R s m args below meth c H locs cells slots Qw (F0 m pc ls st)
theorem xlo.put {ls ls' : Array Slot} {n : Nat} {lo : xL} {i : Nat} {v : Value} (h : xlo ls n lo) (hi : i < n) (hc : v.category = 1) (h' : lv_has ls' n ((i, v) :: (xll lo).filter (fun q => !(q.1 == i) && !(q.1 + 1 == i && q.2.category == 2)))) : xlo ls' n (lo.set i (some v)) := by
  obtain ⟨hs, hw, hq⟩ := h'
  refine ⟨by rw [List.length_set]; exact h.1, ⟨hs, hw, fun q hm => ?_⟩, fun j u hj => ?_⟩
  · have hm' := xll_mem.mp hm
    rw [List.getElem?_set] at hm'
    by_cases hji : i = q.1
    · rw [if_pos hji] at hm'
      have hlt : i < lo.length := by rw [h.1]; exact hi
      rw [if_pos hlt] at hm'
      have e1 : v = q.2 := by simpa using hm'
      refine hq q (List.mem_cons.mpr (Or.inl ?_))
      rw [hji, e1]
    · rw [if_neg hji] at hm'
      refine hq q (List.mem_cons.mpr (Or.inr (List.mem_filter.mpr ⟨xll_mem.mpr hm', ?_⟩)))
      have h1 := h.2.2 _ _ hm'
      simp [h1, Ne.symm hji]
  · rw [List.getElem?_set] at hj
    by_cases hji : i = j
    · rw [if_pos hji] at hj
      split at hj
      · have e1 : v = u := by simpa using hj
        rw [← e1]; exact hc
      · simp at hj
    · rw [if_neg hji] at hj
      exact h.2.2 j u hj
/-- one simple instruction, computed -/
def x1 (e : xE) (pc : Nat) (lo : xL) (st : List Value) : Option (Nat × xL × List Value) := match e with
  | ((1, _, _), 1) => some (pc + 1, lo, .null :: st)
  | ((2, _, v), 1) => some (pc + 1, lo, .int v :: st)
  | ((16, _, v), 2) => some (pc + 2, lo, .int v :: st)
  | ((17, _, v), 3) => some (pc + 3, lo, .int v :: st)
  | ((21, a, _), 2) => match lo[a]? with
    | some (some (.int x)) => some (pc + 2, lo, .int x :: st)
    | _ => none
  | ((26, a, _), 1) => match lo[a]? with
    | some (some (.int x)) => some (pc + 1, lo, .int x :: st)
    | _ => none
  | ((25, a, _), 2) => match lo[a]? with
    | some (some (.ref x)) => some (pc + 2, lo, .ref x :: st)
    | some (some .null) => some (pc + 2, lo, .null :: st)
    | _ => none
  | ((42, a, _), 1) => match lo[a]? with
    | some (some (.ref x)) => some (pc + 1, lo, .ref x :: st)
    | some (some .null) => some (pc + 1, lo, .null :: st)
    | _ => none
  | ((54, a, _), 2) => match st, lo[a]? with
    | .int x :: r, some _ => some (pc + 2, lo.set a (some (.int x)), r)
    | _, _ => none
  | ((59, a, _), 1) => match st, lo[a]? with
    | .int x :: r, some _ => some (pc + 1, lo.set a (some (.int x)), r)
    | _, _ => none
  | ((58, a, _), 2) => match st, lo[a]? with
    | .ref x :: r, some _ => some (pc + 2, lo.set a (some (.ref x)), r)
    | .null :: r, some _ => some (pc + 2, lo.set a (some .null), r)
    | _, _ => none
  | ((75, a, _), 1) => match st, lo[a]? with
    | .ref x :: r, some _ => some (pc + 1, lo.set a (some (.ref x)), r)
    | .null :: r, some _ => some (pc + 1, lo.set a (some .null), r)
    | _, _ => none
  | ((87, _, _), 1) => match st with
    | .int _ :: r => some (pc + 1, lo, r)
    | _ => none
  | ((89, _, _), 1) => match st with
    | .int x :: r => some (pc + 1, lo, .int x :: .int x :: r)
    | .ref x :: r => some (pc + 1, lo, .ref x :: .ref x :: r)
    | _ => none
  | ((92, _, _), 1) => match st with
    | .int x :: .ref y :: r => some (pc + 1, lo, .int x :: .ref y :: .int x :: .ref y :: r)
    | _ => none
  | ((96, _, _), 1) => match st with
    | .int y :: .int x :: r => some (pc + 1, lo, .int (x + y) :: r)
    | _ => none
  | ((100, _, _), 1) => match st with
    | .int y :: .int x :: r => some (pc + 1, lo, .int (x - y) :: r)
    | _ => none
  | ((104, _, _), 1) => match st with
    | .int y :: .int x :: r => some (pc + 1, lo, .int (x * y) :: r)
    | _ => none
  | ((120, _, _), 1) => match st with
    | .int y :: .int x :: r => some (pc + 1, lo, .int (x <<< (y &&& 31)) :: r)
    | _ => none
  | ((122, _, _), 1) => match st with
    | .int y :: .int x :: r => some (pc + 1, lo, .int (x >>> (y &&& 31)) :: r)
    | _ => none
  | ((124, _, _), 1) => match st with
    | .int y :: .int x :: r => some (pc + 1, lo, .int (x.toUInt32 >>> (y.toUInt32 &&& Int32.toUInt32 31)).toInt32 :: r)
    | _ => none
  | ((126, _, _), 1) => match st with
    | .int y :: .int x :: r => some (pc + 1, lo, .int (x &&& y) :: r)
    | _ => none
  | ((128, _, _), 1) => match st with
    | .int y :: .int x :: r => some (pc + 1, lo, .int (x ||| y) :: r)
    | _ => none
  | ((130, _, _), 1) => match st with
    | .int y :: .int x :: r => some (pc + 1, lo, .int (x ^^^ y) :: r)
    | _ => none
  | ((132, a, v), 3) => match lo[a]? with
    | some (some (.int x)) => some (pc + 3, lo.set a (some (.int (x + v))), st)
    | _ => none
  | ((145, _, _), 1) => match st with
    | .int x :: r => some (pc + 1, lo, .int x.toInt8.toInt32 :: r)
    | _ => none
  | ((167, a, _), 3) => some (a, lo, st)
  | _ => none
section X1
variable {G : xG} {d : Nat} {M : xM} {pc : Nat} {lo : xL} {st : List Value} {σ : xS} {Q : Option Value → xS → Prop}
theorem xlt {lo : xL} {a : Nat} {o : Option Value} (h : lo[a]? = some o) : a < lo.length := (List.getElem?_eq_some_iff.mp h).1
theorem xfin4 {a : Nat} (h : a < 4) : ((Fin.ofNat 4 a : Fin 4) : Nat) = a := by simp [Fin.ofNat]; omega
set_option maxHeartbeats 4000000 in
theorem x1_step {e : xE} {pc' : Nat} {lo' : xL} {st' : List Value} (hd : M.2.2.2.2.lookup pc = some e) (h : x1 e pc lo st = some (pc', lo', st')) : xstep G M σ pc lo st pc' lo' st' := by
  intro p ev R s m args below meth c H locs cells slots Qw ls hx hb ho hts hK ht hr hl k
  obtain ⟨hdec, hval⟩ := ht _ (xlook hd)
  dsimp only at hdec hval
  have hn := hl.1
  unfold x1 at h
  split at h
  · cases h; exact lv_null hx hb hdec (k ls hl)
  · cases h; exact lv_iconst hx hb hdec (by simp) (k ls hl)
  · cases h; exact lv_bipush hx hb hdec (by simpa [xval] using hval) (k ls hl)
  · cases h; exact lv_sipush hx hb hdec (by simpa [xval] using hval) (k ls hl)
  · split at h
    next x hlo => cases h; exact lv_iload hx hb hdec (hl.get hlo) (k ls hl)
    next => cases h
  · split at h
    next x hlo => cases h; exact lv_iload_n hx hb hdec (xfin4 (by simpa [xval] using hval)) (hl.get hlo) (k ls hl)
    next => cases h
  · split at h
    next x hlo => cases h; exact lv_aload hx hb hdec (hl.get hlo) (k ls hl)
    next hlo => cases h; exact lv_aloadN hx hb hdec (hl.get hlo) (k ls hl)
    next => cases h
  · split at h
    next x hlo => cases h; exact lv_aload_n hx hb hdec (xfin4 (by simpa [xval] using hval)) (hl.get hlo) (k ls hl)
    next hlo => cases h; exact lv_aload_nN hx hb hdec (xfin4 (by simpa [xval] using hval)) (hl.get hlo) (k ls hl)
    next => cases h
  · split at h
    next x r o hlo => cases h; exact lv_istore hx hb hdec hl.2.1 (by rw [← hn]; exact xlt hlo) rfl (fun ls' h' => k ls' (hl.put (by rw [← hn]; exact xlt hlo) rfl h'))
    next => cases h
  · split at h
    next x r o hlo => cases h; exact lv_istore_n hx hb hdec (xfin4 (by simpa [xval] using hval)) hl.2.1 (by rw [← hn]; exact xlt hlo) rfl (fun ls' h' => k ls' (hl.put (by rw [← hn]; exact xlt hlo) rfl h'))
    next => cases h
  · split at h
    next x r o hlo => cases h; exact lv_astore hx hb hdec hl.2.1 (by rw [← hn]; exact xlt hlo) rfl (fun ls' h' => k ls' (hl.put (by rw [← hn]; exact xlt hlo) rfl h'))
    next r o hlo => cases h; exact lv_astoreN hx hb hdec hl.2.1 (by rw [← hn]; exact xlt hlo) rfl (fun ls' h' => k ls' (hl.put (by rw [← hn]; exact xlt hlo) rfl h'))
    next => cases h
  · split at h
    next x r o hlo => cases h; exact lv_astore_n hx hb hdec (xfin4 (by simpa [xval] using hval)) hl.2.1 (by rw [← hn]; exact xlt hlo) rfl (fun ls' h' => k ls' (hl.put (by rw [← hn]; exact xlt hlo) rfl h'))
    next r o hlo => cases h; exact lv_astore_nN hx hb hdec (xfin4 (by simpa [xval] using hval)) hl.2.1 (by rw [← hn]; exact xlt hlo) rfl (fun ls' h' => k ls' (hl.put (by rw [← hn]; exact xlt hlo) rfl h'))
    next => cases h
  · split at h
    next => cases h; exact lv_pop hx hb hdec rfl (k ls hl)
    next => cases h
  · split at h
    next => cases h; exact lv_dup hx hb hdec rfl (k ls hl)
    next => cases h; exact lv_dup hx hb hdec rfl (k ls hl)
    next => cases h
  · split at h
    next => cases h; exact lv_dup2_11 hx hb hdec rfl rfl (k ls hl)
    next => cases h
  · split at h
    next => cases h; exact lv_iadd hx hb hdec (k ls hl)
    next => cases h
  · split at h
    next => cases h; exact lv_isub hx hb hdec (k ls hl)
    next => cases h
  · split at h
    next => cases h; exact lv_imul hx hb hdec (k ls hl)
    next => cases h
  · split at h
    next => cases h; exact lv_ishl hx hb hdec (k ls hl)
    next => cases h
  · split at h
    next => cases h; exact lv_ishr hx hb hdec (k ls hl)
    next => cases h
  · split at h
    next => cases h; exact lv_iushr hx hb hdec rfl (k ls hl)
    next => cases h
  · split at h
    next => cases h; exact lv_iand hx hb hdec (k ls hl)
    next => cases h
  · split at h
    next => cases h; exact lv_ior hx hb hdec (k ls hl)
    next => cases h
  · split at h
    next => cases h; exact lv_ixor hx hb hdec (k ls hl)
    next => cases h
  · split at h
    next x hlo =>
      cases h
      obtain ⟨kk, hkk⟩ := List.getElem?_of_mem (xll_mem (q := (_, _)).mpr hlo)
      exact lv_iinc hx hb hdec hl.2.1 hkk (by simp) (by rw [← hn]; exact xlt hlo) rfl (fun ls' h' => k ls' (hl.put (by rw [← hn]; exact xlt hlo) rfl h'))
    next => cases h
  · split at h
    next => cases h; exact lv_i2b hx hb hdec rfl (k ls hl)
    next => cases h
  · cases h; exact lv_goto hx hb hdec (by omega) (k ls hl)
  · cases h
theorem xw.of_step {pc' : Nat} {lo' : xL} {st' : List Value} (hs : xstep G M σ pc lo st pc' lo' st') (h : xw G d M pc' lo' st' σ Q) : xw G d M pc lo st σ Q := by
  obtain ⟨v, σ', hq, h1, h2, k⟩ := h
  refine ⟨v, σ', hq, h1, h2, fun n0 s0 p e R s m args below meth c H locs ls C a1 a2 hr hf hl => ?_⟩
  exact hs p e R s m args below meth c H locs _ _ _ ls C.1 C.2.1 C.2.2.2.2.2.1 C.2.2.2.2.2.2.2.1 C.2.2.2.2.2.2.2.2.1 C.2.2.2.2.2.2.2.2.2.2.2.2.2.1 hr hl (fun ls' hl' => k n0 s0 p e R s m args below meth c H locs ls' C a1 a2 hr hf hl')
/-- as many simple instructions as come, at most n -/
def xrun (tb : List (Nat × xE)) : Nat → Nat → xL → List Value → Nat × xL × List Value
  | 0, pc, lo, st => (pc, lo, st)
  | n + 1, pc, lo, st => match tb.lookup pc with
    | none => (pc, lo, st)
    | some e => match x1 e pc lo st with
      | none => (pc, lo, st)
      | some (pc', lo', st') => xrun tb n pc' lo' st'
theorem xgo (n : Nat) {pc' : Nat} {lo' : xL} {st' : List Value} (h : xrun M.2.2.2.2 n pc lo st = (pc', lo', st')) (k : xw G d M pc' lo' st' σ Q) : xw G d M pc lo st σ Q := by
  induction n generalizing pc lo st with
  | zero => cases h; exact k
  | succ n ih =>
    unfold xrun at h
    split at h
    next => cases h; exact k
    next e he =>
      split at h
      next => cases h; exact k
      next q1 q2 q3 h1 => exact xw.of_step (x1_step he h1) (ih h)
end X1
end
section
section X2
variable {G : xG} {d : Nat} {M : xM} {pc : Nat} {lo : xL} {st : List Value} {σ : xS} {Q : Option Value → xS → Prop}
theorem xw.mono {Q' : Option Value → xS → Prop} (h : xw G d M pc lo st σ Q) (hq : ∀ v σ', Q v σ' → Q' v σ') : xw G d M pc lo st σ Q' := by
  obtain ⟨v, σ', h1, h2⟩ := h
  exact ⟨v, σ', hq _ _ h1, h2⟩
theorem xi_ifeq {x : Int32} {a : Nat} (hd : M.2.2.2.2.lookup pc = some ((153, a, 0), 3)) (kt : x = 0 → xw G d M a lo st σ Q) (kf : ¬ x = 0 → xw G d M (pc + 3) lo st σ Q) : xw G d M pc lo (.int x :: st) σ Q := by
  by_cases hP : x = 0
  · exact xw.of_step (fun p e R s m args below meth c H locs cells slots Qw ls hx hb ho hts hK ht hr hl k => lv_if_eq (tgt := a) hx hb (ht _ (xlook hd)).1 (by omega) (fun _ => k ls hl) (fun h => absurd hP h)) (kt hP)
  · exact xw.of_step (fun p e R s m args below meth c H locs cells slots Qw ls hx hb ho hts hK ht hr hl k => lv_if_eq (tgt := a) hx hb (ht _ (xlook hd)).1 (by omega) (fun h => absurd h hP) (fun _ => k ls hl)) (kf hP)
theorem xi_ifne {x : Int32} {a : Nat} (hd : M.2.2.2.2.lookup pc = some ((154, a, 0), 3)) (kt : ¬ x = 0 → xw G d M a lo st σ Q) (kf : x = 0 → xw G d M (pc + 3) lo st σ Q) : xw G d M pc lo (.int x :: st) σ Q := by
  by_cases hP : ¬ x = 0
  · exact xw.of_step (fun p e R s m args below meth c H locs cells slots Qw ls hx hb ho hts hK ht hr hl k => lv_if_ne (tgt := a) hx hb (ht _ (xlook hd)).1 (by omega) (fun _ => k ls hl) (fun h => absurd h hP)) (kt hP)
  · exact xw.of_step (fun p e R s m args below meth c H locs cells slots Qw ls hx hb ho hts hK ht hr hl k => lv_if_ne (tgt := a) hx hb (ht _ (xlook hd)).1 (by omega) (fun h => absurd (Classical.not_not.mp hP) h) (fun _ => k ls hl)) (kf (Classical.not_not.mp hP))
theorem xi_iflt {x : Int32} {a : Nat} (hd : M.2.2.2.2.lookup pc = some ((155, a, 0), 3)) (kt : x < 0 → xw G d M a lo st σ Q) (kf : ¬ x < 0 → xw G d M (pc + 3) lo st σ Q) : xw G d M pc lo (.int x :: st) σ Q := by
  by_cases hP : x < 0
  · exact xw.of_step (fun p e R s m args below meth c H locs cells slots Qw ls hx hb ho hts hK ht hr hl k => lv_if_lt (tgt := a) hx hb (ht _ (xlook hd)).1 (by omega) (fun _ => k ls hl) (fun h => absurd hP h)) (kt hP)
  · exact xw.of_step (fun p e R s m args below meth c H locs cells slots Qw ls hx hb ho hts hK ht hr hl k => lv_if_lt (tgt := a) hx hb (ht _ (xlook hd)).1 (by omega) (fun h => absurd h hP) (fun _ => k ls hl)) (kf hP)
theorem xi_ifge {x : Int32} {a : Nat} (hd : M.2.2.2.2.lookup pc = some ((156, a, 0), 3)) (kt : 0 ≤ x → xw G d M a lo st σ Q) (kf : ¬ 0 ≤ x → xw G d M (pc + 3) lo st σ Q) : xw G d M pc lo (.int x :: st) σ Q := by
  by_cases hP : 0 ≤ x
  · exact xw.of_step (fun p e R s m args below meth c H locs cells slots Qw ls hx hb ho hts hK ht hr hl k => lv_if_ge (tgt := a) hx hb (ht _ (xlook hd)).1 (by omega) (fun _ => k ls hl) (fun h => absurd hP h)) (kt hP)
  · exact xw.of_step (fun p e R s m args below meth c H locs cells slots Qw ls hx hb ho hts hK ht hr hl k => lv_if_ge (tgt := a) hx hb (ht _ (xlook hd)).1 (by omega) (fun h => absurd h hP) (fun _ => k ls hl)) (kf hP)
theorem xi_ifgt {x : Int32} {a : Nat} (hd : M.2.2.2.2.lookup pc = some ((157, a, 0), 3)) (kt : 0 < x → xw G d M a lo st σ Q) (kf : ¬ 0 < x → xw G d M (pc + 3) lo st σ Q) : xw G d M pc lo (.int x :: st) σ Q := by
  by_cases hP : 0 < x
  · exact xw.of_step (fun p e R s m args below meth c H locs cells slots Qw ls hx hb ho hts hK ht hr hl k => lv_if_gt (tgt := a) hx hb (ht _ (xlook hd)).1 (by omega) (fun _ => k ls hl) (fun h => absurd hP h)) (kt hP)
  · exact xw.of_step (fun p e R s m args below meth c H locs cells slots Qw ls hx hb ho hts hK ht hr hl k => lv_if_gt (tgt := a) hx hb (ht _ (xlook hd)).1 (by omega) (fun h => absurd h hP) (fun _ => k ls hl)) (kf hP)
theorem xi_ifle {x : Int32} {a : Nat} (hd : M.2.2.2.2.lookup pc = some ((158, a, 0), 3)) (kt : x ≤ 0 → xw G d M a lo st σ Q) (kf : ¬ x ≤ 0 → xw G d M (pc + 3) lo st σ Q) : xw G d M pc lo (.int x :: st) σ Q := by
  by_cases hP : x ≤ 0
  · exact xw.of_step (fun p e R s m args below meth c H locs cells slots Qw ls hx hb ho hts hK ht hr hl k => lv_if_le (tgt := a) hx hb (ht _ (xlook hd)).1 (by omega) (fun _ => k ls hl) (fun h => absurd hP h)) (kt hP)
  · exact xw.of_step (fun p e R s m args below meth c H locs cells slots Qw ls hx hb ho hts hK ht hr hl k => lv_if_le (tgt := a) hx hb (ht _ (xlook hd)).1 (by omega) (fun h => absurd h hP) (fun _ => k ls hl)) (kf hP)
theorem xi_icmpeq {x y : Int32} {a : Nat} (hd : M.2.2.2.2.lookup pc = some ((159, a, 0), 3)) (kt : x = y → xw G d M a lo st σ Q) (kf : ¬ x = y → xw G d M (pc + 3) lo st σ Q) : xw G d M pc lo (.int y :: .int x :: st) σ Q := by
  by_cases hP : x = y
  · exact xw.of_step (fun p e R s m args below meth c H locs cells slots Qw ls hx hb ho hts hK ht hr hl k => lv_icmp_eq (tgt := a) hx hb (ht _ (xlook hd)).1 (by omega) (fun _ => k ls hl) (fun h => absurd hP h)) (kt hP)
  · exact xw.of_step (fun p e R s m args below meth c H locs cells slots Qw ls hx hb ho hts hK ht hr hl k => lv_icmp_eq (tgt := a) hx hb (ht _ (xlook hd)).1 (by omega) (fun h => absurd h hP) (fun _ => k ls hl)) (kf hP)
theorem xi_icmpne {x y : Int32} {a : Nat} (hd : M.2.2.2.2.lookup pc = some ((160, a, 0), 3)) (kt : ¬ x = y → xw G d M a lo st σ Q) (kf : x = y → xw G d M (pc + 3) lo st σ Q) : xw G d M pc lo (.int y :: .int x :: st) σ Q := by
  by_cases hP : ¬ x = y
  · exact xw.of_step (fun p e R s m args below meth c H locs cells slots Qw ls hx hb ho hts hK ht hr hl k => lv_icmp_ne (tgt := a) hx hb (ht _ (xlook hd)).1 (by omega) (fun _ => k ls hl) (fun h => absurd h hP)) (kt hP)
  · exact xw.of_step (fun p e R s m args below meth c H locs cells slots Qw ls hx hb ho hts hK ht hr hl k => lv_icmp_ne (tgt := a) hx hb (ht _ (xlook hd)).1 (by omega) (fun h => absurd (Classical.not_not.mp hP) h) (fun _ => k ls hl)) (kf (Classical.not_not.mp hP))
theorem xi_icmplt {x y : Int32} {a : Nat} (hd : M.2.2.2.2.lookup pc = some ((161, a, 0), 3)) (kt : x < y → xw G d M a lo st σ Q) (kf : ¬ x < y → xw G d M (pc + 3) lo st σ Q) : xw G d M pc lo (.int y :: .int x :: st) σ Q := by
  by_cases hP : x < y
  · exact xw.of_step (fun p e R s m args below meth c H locs cells slots Qw ls hx hb ho hts hK ht hr hl k => lv_icmp_lt (tgt := a) hx hb (ht _ (xlook hd)).1 (by omega) (fun _ => k ls hl) (fun h => absurd hP h)) (kt hP)
  · exact xw.of_step (fun p e R s m args below meth c H locs cells slots Qw ls hx hb ho hts hK ht hr hl k => lv_icmp_lt (tgt := a) hx hb (ht _ (xlook hd)).1 (by omega) (fun h => absurd h hP) (fun _ => k ls hl)) (kf hP)
theorem xi_icmpge {x y : Int32} {a : Nat} (hd : M.2.2.2.2.lookup pc = some ((162, a, 0), 3)) (kt : y ≤ x → xw G d M a lo st σ Q) (kf : ¬ y ≤ x → xw G d M (pc + 3) lo st σ Q) : xw G d M pc lo (.int y :: .int x :: st) σ Q := by
  by_cases hP : y ≤ x
  · exact xw.of_step (fun p e R s m args below meth c H locs cells slots Qw ls hx hb ho hts hK ht hr hl k => lv_icmp_ge (tgt := a) hx hb (ht _ (xlook hd)).1 (by omega) (fun _ => k ls hl) (fun h => absurd hP h)) (kt hP)
  · exact xw.of_step (fun p e R s m args below meth c H locs cells slots Qw ls hx hb ho hts hK ht hr hl k => lv_icmp_ge (tgt := a) hx hb (ht _ (xlook hd)).1 (by omega) (fun h => absurd h hP) (fun _ => k ls hl)) (kf hP)
theorem xi_icmpgt {x y : Int32} {a : Nat} (hd : M.2.2.2.2.lookup pc = some ((163, a, 0), 3)) (kt : y < x → xw G d M a lo st σ Q) (kf : ¬ y < x → xw G d M (pc + 3) lo st σ Q) : xw G d M pc lo (.int y :: .int x :: st) σ Q := by
  by_cases hP : y < x
  · exact xw.of_step (fun p e R s m args below meth c H locs cells slots Qw ls hx hb ho hts hK ht hr hl k => lv_icmp_gt (tgt := a) hx hb (ht _ (xlook hd)).1 (by omega) (fun _ => k ls hl) (fun h => absurd hP h)) (kt hP)
  · exact xw.of_step (fun p e R s m args below meth c H locs cells slots Qw ls hx hb ho hts hK ht hr hl k => lv_icmp_gt (tgt := a) hx hb (ht _ (xlook hd)).1 (by omega) (fun h => absurd h hP) (fun _ => k ls hl)) (kf hP)
theorem xi_icmple {x y : Int32} {a : Nat} (hd : M.2.2.2.2.lookup pc = some ((164, a, 0), 3)) (kt : x ≤ y → xw G d M a lo st σ Q) (kf : ¬ x ≤ y → xw G d M (pc + 3) lo st σ Q) : xw G d M pc lo (.int y :: .int x :: st) σ Q := by
  by_cases hP : x ≤ y
  · exact xw.of_step (fun p e R s m args below meth c H locs cells slots Qw ls hx hb ho hts hK ht hr hl k => lv_icmp_le (tgt := a) hx hb (ht _ (xlook hd)).1 (by omega) (fun _ => k ls hl) (fun h => absurd hP h)) (kt hP)
  · exact xw.of_step (fun p e R s m args below meth c H locs cells slots Qw ls hx hb ho hts hK ht hr hl k => lv_icmp_le (tgt := a) hx hb (ht _ (xlook hd)).1 (by omega) (fun h => absurd h hP) (fun _ => k ls hl)) (kf hP)
theorem xi_ifnull_r {x a : Nat} (hd : M.2.2.2.2.lookup pc = some ((198, a, 0), 3)) (k : xw G d M (pc + 3) lo st σ Q) : xw G d M pc lo (.ref x :: st) σ Q :=
  xw.of_step (fun p e R s m args below meth c H locs cells slots Qw ls hx hb ho hts hK ht hr hl k => lv_ifnull hx hb (ht _ (xlook hd)).1 (k ls hl)) k
theorem xi_ifnull_n {a : Nat} (hd : M.2.2.2.2.lookup pc = some ((198, a, 0), 3)) (k : xw G d M a lo st σ Q) : xw G d M pc lo (.null :: st) σ Q :=
  xw.of_step (fun p e R s m args below meth c H locs cells slots Qw ls hx hb ho hts hK ht hr hl k => lv_ifnullN hx hb (ht _ (xlook hd)).1 (by omega) (k ls hl)) k
theorem xi_ifnonnull_r {x a : Nat} (hd : M.2.2.2.2.lookup pc = some ((199, a, 0), 3)) (k : xw G d M a lo st σ Q) : xw G d M pc lo (.ref x :: st) σ Q :=
  xw.of_step (fun p e R s m args below meth c H locs cells slots Qw ls hx hb ho hts hK ht hr hl k => lv_ifnonnull hx hb (ht _ (xlook hd)).1 (by omega) (k ls hl)) k
theorem xi_ifnonnull_n {a : Nat} (hd : M.2.2.2.2.lookup pc = some ((199, a, 0), 3)) (k : xw G d M (pc + 3) lo st σ Q) : xw G d M pc lo (.null :: st) σ Q :=
  xw.of_step (fun p e R s m args below meth c H locs cells slots Qw ls hx hb ho hts hK ht hr hl k => lv_ifnonnullN hx hb (ht _ (xlook hd)).1 (k ls hl)) k
theorem xi_idiv {x y : Int32} (hd : M.2.2.2.2.lookup pc = some ((108, 0, 0), 1)) (hne : ¬ y = 0) (k : xw G d M (pc + 1) lo (.int (x / y) :: st) σ Q) : xw G d M pc lo (.int y :: .int x :: st) σ Q :=
  xw.of_step (fun p e R s m args below meth c H locs cells slots Qw ls hx hb ho hts hK ht hr hl k => lv_idiv hx hb (ht _ (xlook hd)).1 hne (k ls hl)) k
theorem xi_irem {x y : Int32} (hd : M.2.2.2.2.lookup pc = some ((112, 0, 0), 1)) (hne : ¬ y = 0) (k : xw G d M (pc + 1) lo (.int (x - x / y * y) :: st) σ Q) : xw G d M pc lo (.int y :: .int x :: st) σ Q :=
  xw.of_step (fun p e R s m args below meth c H locs cells slots Qw ls hx hb ho hts hK ht hr hl k => lv_irem hx hb (ht _ (xlook hd)).1 hne (k ls hl)) k
theorem xi_ldc {a : Nat} {v : Int32} (hd : M.2.2.2.2.lookup pc = some ((18, a, v), 2)) (hw : Cond.constant M.1.cls a v ∈ xGw) (k : xw G d M (pc + 2) lo (.int v :: st) σ Q) : xw G d M pc lo st σ Q :=
  xw.of_step (fun p e R s m args below meth c H locs cells slots Qw ls hx hb ho hts hK ht hr hl k => lv_ldc hx hb ho (hts _ hw) (ht _ (xlook hd)).1 (k ls hl)) k
theorem xi_iincw {a : Nat} {v x : Int32} (hd : M.2.2.2.2.lookup pc = some ((132, a, v), 6)) (hlo : lo[a]? = some (some (.int x))) (k : xw G d M (pc + 6) (lo.set a (some (.int (x + v)))) st σ Q) : xw G d M pc lo st σ Q :=
  xw.of_step (fun p e R s m args below meth c H locs cells slots Qw ls hx hb ho hts hK ht hr hl k => by
    have hn := hl.1
    obtain ⟨kk, hkk⟩ := List.getElem?_of_mem (xll_mem (q := (_, _)).mpr hlo)
    exact lv_iincW hx hb (ht _ (xlook hd)).1 hl.2.1 hkk (by simp) (by rw [← hn]; exact xlt hlo) rfl (fun ls' h' => k ls' (hl.put (by rw [← hn]; exact xlt hlo) rfl h'))) k
theorem xi_tableIn {dflt lw hi : Int} {offs : Array Int} {len : Nat} {x : Int32} {off : Int} {tgt : Nat} (hd : decode M.2.1 pc = .ok (.tableswitch dflt lw hi offs, len)) (h1 : ¬ x.toInt < lw) (h2 : ¬ hi < x.toInt) (hof : offs[(x.toInt - lw).toNat]? = some off) (htg : (pc : Int) + off = (tgt : Int)) (k : xw G d M tgt lo st σ Q) : xw G d M pc lo (.int x :: st) σ Q :=
  xw.of_step (fun p e R s m args below meth c H locs cells slots Qw ls hx hb ho hts hK ht hr hl k => lv_tableIn hx hb hd h1 h2 hof htg (k ls hl)) k
theorem xi_tableOut {dflt lw hi : Int} {offs : Array Int} {len : Nat} {x : Int32} {tgt : Nat} (hd : decode M.2.1 pc = .ok (.tableswitch dflt lw hi offs, len)) (h : x.toInt < lw ∨ hi < x.toInt) (htg : (pc : Int) + dflt = (tgt : Int)) (k : xw G d M tgt lo st σ Q) : xw G d M pc lo (.int x :: st) σ Q :=
  xw.of_step (fun p e R s m args below meth c H locs cells slots Qw ls hx hb ho hts hK ht hr hl k => lv_tableOut hx hb hd h htg (k ls hl)) k
theorem xi_lookup {dflt : Int} {ps : Array (Int × Int)} {len : Nat} {x : Int32} {off : Int} {tgt : Nat} (hd : decode M.2.1 pc = .ok (.lookupswitch dflt ps, len)) (hp : (ps.toList.zip (ps.toList.drop 1)).all (fun (a, next) => a.1 < next.1) = true) (hof : Op.lookupswitch.offset ps.toList dflt x.toInt = off) (htg : (pc : Int) + off = (tgt : Int)) (k : xw G d M tgt lo st σ Q) : xw G d M pc lo (.int x :: st) σ Q :=
  xw.of_step (fun p e R s m args below meth c H locs cells slots Qw ls hx hb ho hts hK ht hr hl k => lv_lookup hx hb hd hp hof htg (k ls hl)) k
theorem xi_ret_i (hd : M.2.2.2.2.lookup pc = some ((172, 0, 0), 1)) {x : Int32} {ty : FieldType} (hty : M.2.2.2.1 = some ty) (hn : narrow ty (.int x) = .int x) (hq : Q (some (.int x)) σ) : xw G d M pc lo [.int x] σ Q := by
  refine ⟨_, σ, hq, Nat.le_refl _, Nat.le_refl _, fun n0 s0 p e R s m args below meth c H locs ls C a1 a2 hr hf hl => ?_⟩
  obtain ⟨hx, hb, -, hre, hlk, -, -, -, -, -, -, -, -, ht, -⟩ := C
  exact W.zret hx hb (hre.trans hty) hn (fun t ht2 hW => ⟨rfl, by rw [ht2]; exact hr, fun q hq2 => by rw [ht2]; exact hf.1 q hq2⟩) hf.2 (ht _ (xlook hd)).1 hlk
theorem xi_ret_v (hd : M.2.2.2.2.lookup pc = some ((177, 0, 0), 1)) (hty : M.2.2.2.1 = none) (hq : Q (none) σ) : xw G d M pc lo [] σ Q := by
  refine ⟨_, σ, hq, Nat.le_refl _, Nat.le_refl _, fun n0 s0 p e R s m args below meth c H locs ls C a1 a2 hr hf hl => ?_⟩
  obtain ⟨hx, hb, -, hre, hlk, -, -, -, -, -, -, -, -, ht, -⟩ := C
  exact W.vret hx hb (hre.trans hty) (fun t ht2 hW => ⟨rfl, by rw [ht2]; exact hr, fun q hq2 => by rw [ht2]; exact hf.1 q hq2⟩) hf.2 (ht _ (xlook hd)).1 hlk
theorem xi_ret_a (hd : M.2.2.2.2.lookup pc = some ((176, 0, 0), 1)) {v : Value} {ty : FieldType} (hty : M.2.2.2.1 = some ty) (hn : (∃ n, ty = .object n) ∨ ∃ t, ty = .array t) (hv : v = .null ∨ ∃ a, v = .ref a) (hq : Q (some v) σ) : xw G d M pc lo [v] σ Q := by
  refine ⟨_, σ, hq, Nat.le_refl _, Nat.le_refl _, fun n0 s0 p e R s m args below meth c H locs ls C a1 a2 hr hf hl => ?_⟩
  obtain ⟨hx, hb, -, hre, hlk, -, -, -, -, -, -, -, -, ht, -⟩ := C
  exact W.aret hx hb (hre.trans hty) hn hv (fun t ht2 hW => ⟨rfl, by rw [ht2]; exact hr, fun q hq2 => by rw [ht2]; exact hf.1 q hq2⟩) hf.2 (ht _ (xlook hd)).1 hlk
end X2
end
section
/-! ===== heap rules of the light logic ===== -/
/-- one cell of the state put anew -/
def xu (σ : xS) (a : Nat) (c : xC) : xS := (fun q => if q = a then some c else σ.1 q, σ.2.1, σ.2.2)
/-- one cell made -/
def xnew (σ : xS) (c : xC) (n : Nat) : xS := (fun q => if q = σ.2.1 then some c else σ.1 q, σ.2.1 + 1, σ.2.2 + n)
theorem xar_arrV (G : xG) (t : Nat) (vs : List Value) : xar G t vs = arrV (G.2.1 t) vs.length (vp_V vs) := by
  unfold xar arrV
  congr 1
  apply Array.ext
  · simp
  · intro i h1 h2
    have h3 : i < vs.length := by simpa using h1
    simp [vp_V, List.getD_eq_getElem?_getD, h3]
theorem xar_set (G : xG) (t : Nat) (vs : List Value) (i : Nat) (v : Value) : (xar G t vs).setSlot i v = xar G t (vs.set i v) := by
  unfold xar Cell.setSlot
  congr 1
  exact List.setIfInBounds_toArray ..
theorem xar_read {G : xG} {t : Nat} {vs : List Value} {i : Nat} {v : Value} (h : vs[i]? = some v) : (xar G t vs).slots[i]? = some v := by
  show vs.toArray[i]? = some v
  rw [List.getElem?_toArray]
  exact h
theorem xar_size (G : xG) (t : Nat) (vs : List Value) : (xar G t vs).slots.size = vs.length := by simp [xar]
theorem xat.arr {G : xG} {H : Heap} {k t : Nat} {vs : List Value} (h : xat G H k (t, vs)) (ht : 10 ≤ t) : t ≤ 16 ∧ H[G.2.2.2 + k]? = some (xar G t vs) := by
  rcases h with ⟨r, h1, -⟩ | ⟨-, h2, h3⟩
  · have h9 : t < 10 := xlen h1
    omega
  · exact ⟨h2, h3⟩
theorem xat.obj {G : xG} {H : Heap} {k t : Nat} {vs : List Value} (h : xat G H k (t, vs)) (ht : t < 10) : ∃ r : vw_C, vwCl[t]? = some r ∧ vs.length = r.2.2 ∧ t_OB (G.2.2.2 + k) (G.2.1 t) r.2.2 (G.2.2.1 t) H (vp_V vs) := by
  rcases h with h | ⟨h1, -⟩
  · exact h
  · have h9 : 10 ≤ t := h1
    omega
theorem xat.kept {G : xG} {H H1 : Heap} {k : Nat} {c : xC} (h : xat G H k c) (e : H1[G.2.2.2 + k]? = H[G.2.2.2 + k]?) : xat G H1 k c := by
  rcases h with ⟨r, h1, h2, h3⟩ | ⟨h1, h2, h3⟩
  · exact Or.inl ⟨r, h1, h2, h3.kept e⟩
  · exact Or.inr ⟨h1, h2, by rw [e]; exact h3⟩
theorem xat.lt {G : xG} {H : Heap} {k : Nat} {c : xC} (h : xat G H k c) : G.2.2.2 + k < H.size := by
  rcases h with ⟨r, -, -, cell, h1, -⟩ | ⟨-, -, h1⟩
  · exact (Array.getElem?_eq_some_iff.mp h1).1
  · exact (Array.getElem?_eq_some_iff.mp h1).1
theorem xrel.put {G : xG} {σ : xS} {H H1 : Heap} {a : Nat} {c : xC} (h : xrel G σ H) (hs : H1.size = H.size) (hc : xat G H1 a c) (ho : ∀ q, q ≠ G.2.2.2 + a → H1[q]? = H[q]?) : xrel G (xu σ a c) H1 := by
  refine ⟨by rw [hs]; exact h.1, fun k c' hk => ?_⟩
  by_cases e : k = a
  · have hk' : (if k = a then some c else σ.1 k) = some c' := hk
    rw [if_pos e] at hk'
    cases hk'
    rw [e]
    exact hc
  · have hk' : (if k = a then some c else σ.1 k) = some c' := hk
    rw [if_neg e] at hk'
    exact (h.2 k c' hk').kept (ho _ (by omega))
theorem xrel.made {G : xG} {σ : xS} {H H1 : Heap} {c : xC} {n : Nat} (h : xrel G σ H) (hs : H1.size = H.size + 1) (hc : xat G H1 σ.2.1 c) (ho : ∀ q, q < H.size → H1[q]? = H[q]?) : xrel G (xnew σ c n) H1 := by
  refine ⟨by rw [hs, h.1]; show _ = G.2.2.2 + (σ.2.1 + 1); omega, fun k c' hk => ?_⟩
  have hk' : (if k = σ.2.1 then some c else σ.1 k) = some c' := hk
  by_cases e : k = σ.2.1
  · rw [if_pos e] at hk'
    cases hk'
    rw [e]
    exact hc
  · rw [if_neg e] at hk'
    exact (h.2 k c' hk').kept (ho _ (h.2 k c' hk').lt)
theorem xarr_of {G : xG} {s : State} (hK : xK G s) {t : Nat} (h1 : 10 ≤ t) (h2 : t ≤ 16) (vs : List Value) : s.isArrayOf (xar G t vs) (xtag t) := by
  rw [xar_arrV]
  have hT := hK.1.2 (t - 10) (G.2.1 t, xtag t) (by
    rcases (show t = 10 ∨ t = 11 ∨ t = 12 ∨ t = 13 ∨ t = 14 ∨ t = 15 ∨ t = 16 by omega) with rfl | rfl | rfl | rfl | rfl | rfl | rfl <;> rfl)
  exact hT.1 _ _
/-- a field's link: from the class own, at its pool's idx, to field k of the class ci -/
def xfl (own : String) (idx ci k : Nat) : Prop := ∃ r : vw_C, vwCl[ci]? = some r ∧ k < r.2.2 ∧ (Cond.fieldLink own idx (r.2.1 k).1 (r.2.1 k).2.1 (r.2.1 k).2.2.1 ∈ xGw ∨ ∃ host, Cond.fieldLinkNest own idx (r.2.1 k).1 (r.2.1 k).2.1 (r.2.1 k).2.2.1 host ∈ xNw)
section X3
variable {G : xG} {d : Nat} {M : xM} {pc : Nat} {lo : xL} {st : List Value} {σ : xS} {Q : Option Value → xS → Prop}
theorem xi_get {idx a ci k : Nat} {fs : List Value} {v : Value} (hd : M.2.2.2.2.lookup pc = some ((180, idx, 0), 3)) (hf : xfl M.1.cls idx ci k) (ha : σ.1 a = some (ci, fs)) (hv : fs[k]? = some v) (kk : xw G d M (pc + 3) lo (v :: st) σ Q) : xw G d M pc lo (rf G a :: st) σ Q := by
  refine xw.of_step (fun p e R s m args below meth c H locs cells slots Qw ls hx hb ho hts hK ht hr hl kc => ?_) kk
  obtain ⟨r, hc, hk, hlink⟩ := hf
  obtain ⟨r', hc', hlen, cell, q1, q2, q3, q4⟩ := (hr.2 a _ ha).obj (xlen hc)
  cases hc.symm.trans hc'
  obtain ⟨hS, hfc, kC, hkC, hkind⟩ := hK.1.1 ci _ hc
  obtain ⟨cf, kf, fi, f, hi, hsl⟩ := hS k hk
  have hslot : cell.slots[f.slot]? = some v := by
    rw [hsl, q4 k hk]
    simp [vp_V, hv]
  have hst := (u_facts hfc hkC (u_lays hts (xus_ok hc) hk) hi).1
  rcases hlink with hlink | ⟨host, hlink⟩
  · exact W.getf hx hb ho (hts _ hlink) hi hst q1 (by rw [q3]; exact fun h => by cases h) hslot rfl rfl (ht _ (xlook hd)).1 (kc ls hl)
  · exact va_Wgetf hx hb ho (va_Nw.use rfl (hK.2.1 _ hlink)) hi hst q1 (by rw [q3]; exact fun h => by cases h) hslot rfl rfl (ht _ (xlook hd)).1 (kc ls hl)
/-- a step that changes the heap, nothing made -/
theorem xw.of_put {pc' : Nat} {lo' : xL} {st' : List Value} {σ1 : xS} (e1 : σ1.2.1 = σ.2.1) (e2 : σ1.2.2 = σ.2.2)
    (hs : ∀ (p : Program) (e : Env) (R : Room) (s : State) (m : MethodId) (args : Array Value) (below : List Frame) (meth : Method) (c : Code) (H : Heap) (locs : List Loc) (cells slots : Nat) (Qw : State → Prop) (ls : Array Slot),
      p.tables.exec = Jvm.exec → c.code = M.2.1 → s.vm.findClass M.1.cls = some m.cls → meth.name = M.1.name → (∀ w ∈ xGw, w.before args s = true) → xK G s → xtok M.2.1 M.2.2.2.2 → xrel G σ H → xlo ls M.2.2.1 lo →
      (∀ ls' H1 locs1, xlo ls' M.2.2.1 lo' → xrel G σ1 H1 → (∀ q : Nat, q < G.2.2.2 → H1[q]? = H[q]?) → (∀ l ∈ locs1, l ∈ locs ∨ G.2.2.2 ≤ l.base) → W p G.1 e R s m args below meth c H1 locs1 cells slots Qw (F0 m pc' ls' st')) → W p G.1 e R s m args below meth c H locs cells slots Qw (F0 m pc ls st))
    (h : xw G d M pc' lo' st' σ1 Q) : xw G d M pc lo st σ Q := by
  obtain ⟨v, σ', hq, h1, h2, k⟩ := h
  refine ⟨v, σ', hq, by rw [← e1]; exact h1, by rw [← e2]; exact h2, fun n0 s0 p e R s m args below meth c H locs ls C a1 a2 hr hf hl => ?_⟩
  refine hs p e R s m args below meth c H locs _ _ _ ls C.1 C.2.1 C.2.2.2.2.2.1 C.2.2.2.2.2.2.1 C.2.2.2.2.2.2.2.1 C.2.2.2.2.2.2.2.2.1 C.2.2.2.2.2.2.2.2.2.2.2.2.2.1 hr hl (fun ls' H1 locs1 hl' hr1 hk hl1 => ?_)
  have := k n0 s0 p e R s m args below meth c H1 locs1 ls' C (by omega) (by omega) hr1 ⟨fun q hq => (hk q hq).trans (hf.1 q hq), fun l hl2 => (hl1 l hl2).elim (fun h => hf.2 l h) id⟩ hl'
  rw [e1, e2] at this
  exact this
theorem xi_put {idx a ci k : Nat} {fs : List Value} {v : Value} (hd : M.2.2.2.2.lookup pc = some ((181, idx, 0), 3)) (hf : xfl M.1.cls idx ci k) (ha : σ.1 a = some (ci, fs)) (hfin : xFin ci k = false) (hn : narrow (xTy ci k) v = v) (hfit : fits (xTy ci k) v = true)
    (kk : xw G d M (pc + 3) lo st (xu σ a (ci, fs.set k v)) Q) : xw G d M pc lo (v :: rf G a :: st) σ Q := by
  refine xw.of_put (σ1 := xu σ a (ci, fs.set k v)) rfl rfl (fun p e R s m args below meth c H locs cells slots Qw ls hx hb ho hmn hts hK ht hr hl kc => ?_) kk
  obtain ⟨r, hc, hk, hlink⟩ := hf
  obtain ⟨r', hc', hlen, cell, q1, q2, q3, q4⟩ := (hr.2 a _ ha).obj (xlen hc)
  cases hc.symm.trans hc'
  have hfin' : (r.2.1 k).2.2.2 = false := by simpa [xFin, hc] using hfin
  have hap := va_apart (own := M.1.cls) hts (xus_ok hc) (xTy ci) (xty_ok hc) (xnm_ok hc) hK.1 hc
  obtain ⟨hS, hfc, kC, hkC, hkind⟩ := hK.1.1 ci _ hc
  obtain ⟨cf, kf, fi, f, hi, hsl⟩ := hS k hk
  have hlay := hts _ (xus_ok hc _ (u_in_lay hk))
  unfold u_lay at hlay
  rw [if_neg (by rw [hfin']; decide)] at hlay
  have hst := (u_facts hfc hkC (u_lays hts (xus_ok hc) hk) hi).1
  have h6 := u_store hfc hkC hkind hlay hi (xty_ok hc k hk) hn hfit
  have go : ∀ H' : Heap, H'[G.2.2.2 + a]? = some (cell.setSlot f.slot v) → H'.size = H.size → (∀ q, q ≠ G.2.2.2 + a → H'[q]? = H[q]?) → W p G.1 e R s m args below meth c H' (locs ++ [⟨G.2.2.2 + a, f.slot⟩]) cells slots Qw (F0 m (pc + 3) ls st) := fun H' e1 e2 e3 => by
    rw [hsl] at e1
    refine kc ls H' _ hl (hr.put e2 (Or.inl ⟨r, hc, by rw [List.length_set]; exact hlen, t_OB.to (V := updV (vp_V fs) k v) ⟨_, e1, q2, q3, t_set q4 hap hk v⟩ (fun j _ => vp_updV_set (by rw [hlen]; exact hk) v j)⟩) e3) (fun q hq => e3 q (Nat.ne_of_lt (Nat.lt_of_lt_of_le hq (Nat.le_add_right _ _)))) (fun l hl2 => ?_)
    rcases List.mem_append.mp hl2 with h | h
    · exact Or.inl h
    · rw [List.mem_singleton.mp h]
      exact Or.inr (Nat.le_add_right _ _)
  rcases hlink with hlink | ⟨host, hlink⟩
  · exact W.putK hx hb (f := f) ⟨ho, hts _ hlink, ⟨_, _, _, hi⟩, hst⟩ (by rw [q2]; exact h6) q1 q3 (by rw [hsl]; exact k2_hasslot (q4 k hk)) rfl rfl (ht _ (xlook hd)).1 go
  · exact va_WputK hx hb (f := f) ho (va_Nw.use rfl (hK.2.1 _ hlink)) hi hst (by rw [q2]; exact h6) q1 q3 (by rw [hsl]; exact k2_hasslot (q4 k hk)) rfl rfl (ht _ (xlook hd)).1 go
theorem xi_putF {idx a ci k : Nat} {fs : List Value} {v : Value} (hd : M.2.2.2.2.lookup pc = some ((181, idx, 0), 3)) (hf : ∃ r : vw_C, vwCl[ci]? = some r ∧ k < r.2.2 ∧ (r.2.1 k).1 = M.1.cls ∧ Cond.fieldLink M.1.cls idx (r.2.1 k).1 (r.2.1 k).2.1 (r.2.1 k).2.2.1 ∈ xGw) (hini : M.1.name = "<init>") (ha : σ.1 a = some (ci, fs)) (hfin : xFin ci k = true) (hn : narrow (xTy ci k) v = v) (hfit : fits (xTy ci k) v = true)
    (kk : xw G d M (pc + 3) lo st (xu σ a (ci, fs.set k v)) Q) : xw G d M pc lo (v :: rf G a :: st) σ Q := by
  refine xw.of_put (σ1 := xu σ a (ci, fs.set k v)) rfl rfl (fun p e R s m args below meth c H locs cells slots Qw ls hx hb ho hmn hts hK ht hr hl kc => ?_) kk
  obtain ⟨r, hc, hk, hdecl, hlink⟩ := hf
  obtain ⟨r', hc', hlen, cell, q1, q2, q3, q4⟩ := (hr.2 a _ ha).obj (xlen hc)
  cases hc.symm.trans hc'
  have hfin' : (r.2.1 k).2.2.2 = true := by simpa [xFin, hc] using hfin
  have hap := va_apart (own := M.1.cls) hts (xus_ok hc) (xTy ci) (xty_ok hc) (xnm_ok hc) hK.1 hc
  obtain ⟨hS, hfc, kC, hkC, hkind⟩ := hK.1.1 ci _ hc
  obtain ⟨cf, kf, fi, f, hi, hsl⟩ := hS k hk
  have hlay := hts _ (xus_ok hc _ (u_in_lay hk))
  unfold u_lay at hlay
  rw [if_pos hfin'] at hlay
  have hst := (u_facts hfc hkC (u_lays hts (xus_ok hc) hk) hi).1
  have hcf : m.cls = cf := by
    obtain ⟨_, _, c', _, _, _, -, -, hf', -, -, -, hown2, -⟩ := Cond.laysFinal_spec hlay
    have e1 : c' = cf := by have := hi.symm.trans hf'; simp at this; exact this.1.symm
    rw [hdecl] at hown2
    rw [← e1]; exact Option.some.inj (ho.symm.trans hown2)
  have h6 := u_fits hfc hkC hkind (Or.inr hlay) hi (xty_ok hc k hk) hn hfit
  refine W.putFinK hx hb ho (hts _ hlink) hi hst hcf (hmn.trans hini) (by rw [q2]; exact h6) q1 q3 (by rw [hsl]; exact k2_hasslot (q4 k hk)) rfl rfl (ht _ (xlook hd)).1 fun H' e1 e2 e3 => ?_
  rw [hsl] at e1
  refine kc ls H' _ hl (hr.put e2 (Or.inl ⟨r, hc, by rw [List.length_set]; exact hlen, t_OB.to (V := updV (vp_V fs) k v) ⟨_, e1, q2, q3, t_set q4 hap hk v⟩ (fun j _ => vp_updV_set (by rw [hlen]; exact hk) v j)⟩) e3) (fun q hq => e3 q (Nat.ne_of_lt (Nat.lt_of_lt_of_le hq (Nat.le_add_right _ _)))) (fun l hl2 => ?_)
  rcases List.mem_append.mp hl2 with h | h
  · exact Or.inl h
  · rw [List.mem_singleton.mp h]
    exact Or.inr (Nat.le_add_right _ _)
end X3
end
section
section X4
variable {G : xG} {d : Nat} {M : xM} {pc : Nat} {lo : xL} {st : List Value} {σ : xS} {Q : Option Value → xS → Prop}
theorem xin {i : Int32} {vs : List Value} {v : Value} (h0 : ¬ i < 0) (hv : vs[i.toNatClampNeg]? = some v) (G : xG) (t : Nat) : ¬ (i < 0 ∨ (xar G t vs).slots.size ≤ i.toNatClampNeg) := by
  rw [xar_size]
  have := (List.getElem?_eq_some_iff.mp hv).1
  intro h
  rcases h with h | h
  · exact h0 h
  · omega
theorem xin' {i : Int32} {vs : List Value} (h0 : ¬ i < 0) (hv : i.toNatClampNeg < vs.length) (G : xG) (t : Nat) : ¬ (i < 0 ∨ (xar G t vs).slots.size ≤ i.toNatClampNeg) := by
  rw [xar_size]
  intro h
  rcases h with h | h
  · exact h0 h
  · omega
theorem xvm (G : xG) (t : Nat) (vs : List Value) : (xar G t vs).vm ≠ .unknown := by intro h; cases h
theorem xi_iald {a : Nat} {i : Int32} {vs : List Value} {v : Value} (hd : M.2.2.2.2.lookup pc = some ((46, 0, 0), 1)) (ha : σ.1 a = some (11, vs)) (h0 : ¬ i < 0) (hv : vs[i.toNatClampNeg]? = some v) (kk : xw G d M (pc + 1) lo (v :: st) σ Q) : xw G d M pc lo (.int i :: rf G a :: st) σ Q :=
  xw.of_step (fun p e R s m args below meth c H locs cells slots Qw ls hx hb ho hts hK ht hr hl k => W.iald hx hb ((hr.2 a _ ha).arr (by decide)).2 (xarr_of hK (by decide) (by decide) vs) (xvm _ _ _) (xin h0 hv _ _) (xar_read hv) rfl rfl (ht _ (xlook hd)).1 (k ls hl)) kk
theorem xi_bald {a : Nat} {i : Int32} {vs : List Value} {v : Value} (hd : M.2.2.2.2.lookup pc = some ((51, 0, 0), 1)) (ha : σ.1 a = some (10, vs)) (h0 : ¬ i < 0) (hv : vs[i.toNatClampNeg]? = some v) (kk : xw G d M (pc + 1) lo (v :: st) σ Q) : xw G d M pc lo (.int i :: rf G a :: st) σ Q :=
  xw.of_step (fun p e R s m args below meth c H locs cells slots Qw ls hx hb ho hts hK ht hr hl k => W.bald hx hb ((hr.2 a _ ha).arr (by decide)).2 (xarr_of hK (by decide) (by decide) vs) (xvm _ _ _) (xin h0 hv _ _) (xar_read hv) rfl rfl (ht _ (xlook hd)).1 (k ls hl)) kk
theorem xi_zald {a : Nat} {i : Int32} {vs : List Value} {v : Value} (hd : M.2.2.2.2.lookup pc = some ((51, 0, 0), 1)) (ha : σ.1 a = some (12, vs)) (h0 : ¬ i < 0) (hv : vs[i.toNatClampNeg]? = some v) (kk : xw G d M (pc + 1) lo (v :: st) σ Q) : xw G d M pc lo (.int i :: rf G a :: st) σ Q :=
  xw.of_step (fun p e R s m args below meth c H locs cells slots Qw ls hx hb ho hts hK ht hr hl k => W.zald hx hb ((hr.2 a _ ha).arr (by decide)).2 (xarr_of hK (by decide) (by decide) vs) (xvm _ _ _) (xin h0 hv _ _) (xar_read hv) rfl rfl (ht _ (xlook hd)).1 (k ls hl)) kk
theorem xtagref {t : Nat} (h1 : 13 ≤ t) (h2 : t ≤ 16) : (xtag t).isReference = true := by
  rcases (show t = 13 ∨ t = 14 ∨ t = 15 ∨ t = 16 by omega) with rfl | rfl | rfl | rfl <;> rfl
theorem xi_aald {a t : Nat} {i : Int32} {vs : List Value} {v : Value} (hd : M.2.2.2.2.lookup pc = some ((50, 0, 0), 1)) (ha : σ.1 a = some (t, vs)) (h1 : 13 ≤ t) (h0 : ¬ i < 0) (hv : vs[i.toNatClampNeg]? = some v) (kk : xw G d M (pc + 1) lo (v :: st) σ Q) : xw G d M pc lo (.int i :: rf G a :: st) σ Q :=
  xw.of_step (fun p e R s m args below meth c H locs cells slots Qw ls hx hb ho hts hK ht hr hl k => by
    obtain ⟨h2, hc⟩ := (hr.2 a _ ha).arr (by omega)
    exact W.aald hx hb hc (xarr_of hK (by omega) h2 vs) (xtagref h1 h2) (xvm _ _ _) (xin h0 hv _ _) (xar_read hv) rfl rfl (ht _ (xlook hd)).1 (k ls hl)) kk
theorem xi_alen {a t : Nat} {vs : List Value} (hd : M.2.2.2.2.lookup pc = some ((190, 0, 0), 1)) (ha : σ.1 a = some (t, vs)) (h1 : 10 ≤ t) {n : Int32} (hn : Int32.ofNat vs.length = n) (kk : xw G d M (pc + 1) lo (.int n :: st) σ Q) : xw G d M pc lo (rf G a :: st) σ Q :=
  xw.of_step (fun p e R s m args below meth c H locs cells slots Qw ls hx hb ho hts hK ht hr hl k => by
    obtain ⟨h2, hc⟩ := (hr.2 a _ ha).arr h1
    exact W.alen (n := n) hx hb hc (xarr_of hK h1 h2 vs) (by rw [xar_size]; exact hn) rfl rfl (ht _ (xlook hd)).1 (k ls hl)) kk
theorem xput1 {G : xG} {H H1 : Heap} {σ : xS} {a t : Nat} {vs : List Value} {i : Nat} {v : Value} (hr : xrel G σ H) (h1 : 10 ≤ t) (h2 : t ≤ 16) (e : H1[G.2.2.2 + a]? = some ((xar G t vs).setSlot i v)) (z : H1.size = H.size) (o : ∀ q, q ≠ G.2.2.2 + a → H1[q]? = H[q]?) : xrel G (xu σ a (t, vs.set i v)) H1 :=
  hr.put z (Or.inr ⟨h1, h2, by rw [e, xar_set]⟩) o
theorem xloc1 {G : xG} {locs : List Loc} {a j : Nat} : ∀ l ∈ locs ++ [(⟨G.2.2.2 + a, j⟩ : Loc)], l ∈ locs ∨ G.2.2.2 ≤ l.base := fun l hl => by
  rcases List.mem_append.mp hl with h | h
  · exact Or.inl h
  · rw [List.mem_singleton.mp h]
    exact Or.inr (Nat.le_add_right _ _)
theorem xi_iast {a : Nat} {i x : Int32} {vs : List Value} (hd : M.2.2.2.2.lookup pc = some ((79, 0, 0), 1)) (ha : σ.1 a = some (11, vs)) (h0 : ¬ i < 0) (hv : i.toNatClampNeg < vs.length) (kk : xw G d M (pc + 1) lo st (xu σ a (11, vs.set i.toNatClampNeg (.int x))) Q) : xw G d M pc lo (.int x :: .int i :: rf G a :: st) σ Q :=
  xw.of_put (σ1 := xu σ a (11, vs.set i.toNatClampNeg (.int x))) rfl rfl (fun p e R s m args below meth c H locs cells slots Qw ls hx hb ho hmn hts hK ht hr hl k =>
    W.iast hx hb ((hr.2 a _ ha).arr (by decide)).2 (xarr_of hK (by decide) (by decide) vs) (xvm _ _ _) (xin' h0 hv _ _) rfl rfl (ht _ (xlook hd)).1 (fun H' e1 e2 e3 => k ls H' _ hl (xput1 hr (by decide) (by decide) e1 e2 e3) (fun q hq => e3 q (Nat.ne_of_lt (Nat.lt_of_lt_of_le hq (Nat.le_add_right _ _)))) xloc1)) kk
theorem xi_bast {a : Nat} {i x : Int32} {vs : List Value} (hd : M.2.2.2.2.lookup pc = some ((84, 0, 0), 1)) (ha : σ.1 a = some (10, vs)) (h0 : ¬ i < 0) (hv : i.toNatClampNeg < vs.length) (kk : xw G d M (pc + 1) lo st (xu σ a (10, vs.set i.toNatClampNeg (.int x.toInt8.toInt32))) Q) : xw G d M pc lo (.int x :: .int i :: rf G a :: st) σ Q :=
  xw.of_put (σ1 := xu σ a (10, vs.set i.toNatClampNeg (.int x.toInt8.toInt32))) rfl rfl (fun p e R s m args below meth c H locs cells slots Qw ls hx hb ho hmn hts hK ht hr hl k =>
    W.bast hx hb ((hr.2 a _ ha).arr (by decide)).2 (xarr_of hK (by decide) (by decide) vs) (xvm _ _ _) (xin' h0 hv _ _) rfl rfl (ht _ (xlook hd)).1 (fun H' e1 e2 e3 => k ls H' _ hl (xput1 hr (by decide) (by decide) e1 e2 e3) (fun q hq => e3 q (Nat.ne_of_lt (Nat.lt_of_lt_of_le hq (Nat.le_add_right _ _)))) xloc1)) kk
theorem xi_zast {a : Nat} {i x : Int32} {vs : List Value} (hd : M.2.2.2.2.lookup pc = some ((84, 0, 0), 1)) (ha : σ.1 a = some (12, vs)) (h0 : ¬ i < 0) (hv : i.toNatClampNeg < vs.length) (hx1 : x &&& 1 = x) (kk : xw G d M (pc + 1) lo st (xu σ a (12, vs.set i.toNatClampNeg (.int x))) Q) : xw G d M pc lo (.int x :: .int i :: rf G a :: st) σ Q :=
  xw.of_put (σ1 := xu σ a (12, vs.set i.toNatClampNeg (.int x))) rfl rfl (fun p e R s m args below meth c H locs cells slots Qw ls hx hb ho hmn hts hK ht hr hl k =>
    W.zast hx hb ((hr.2 a _ ha).arr (by decide)).2 (xarr_of hK (by decide) (by decide) vs) (xvm _ _ _) (xin' h0 hv _ _) rfl rfl (ht _ (xlook hd)).1 (fun H' e1 e2 e3 => k ls H' _ hl (xput1 hr (by decide) (by decide) (by rw [e1]; simp only [narrow, hx1]) e2 e3) (fun q hq => e3 q (Nat.ne_of_lt (Nat.lt_of_lt_of_le hq (Nat.le_add_right _ _)))) xloc1)) kk
/-- the object class that an array kind holds -/
def xel (t : Nat) : Nat := match t with
  | 13 => 0
  | 14 => 1
  | _ => 3
theorem xel_tag {t : Nat} (h1 : 13 ≤ t) (h2 : t ≤ 15) : ∃ r : vw_C, vwCl[xel t]? = some r ∧ xtag t = .object r.1 := by
  rcases (show t = 13 ∨ t = 14 ∨ t = 15 by omega) with rfl | rfl | rfl <;> exact ⟨_, rfl, rfl⟩
theorem xi_aast {a b t : Nat} {i : Int32} {vs fs : List Value} (hd : M.2.2.2.2.lookup pc = some ((83, 0, 0), 1)) (ha : σ.1 a = some (t, vs)) (h1 : 13 ≤ t) (h2 : t ≤ 15) (hb' : σ.1 b = some (xel t, fs)) (h0 : ¬ i < 0) (hv : i.toNatClampNeg < vs.length) (kk : xw G d M (pc + 1) lo st (xu σ a (t, vs.set i.toNatClampNeg (rf G b))) Q) : xw G d M pc lo (rf G b :: .int i :: rf G a :: st) σ Q :=
  xw.of_put (σ1 := xu σ a (t, vs.set i.toNatClampNeg (rf G b))) rfl rfl (fun p e R s m args below meth c H locs cells slots Qw ls hx hb ho hmn hts hK ht hr hl k => by
    obtain ⟨r, hc, htag⟩ := xel_tag h1 h2
    obtain ⟨r', hc', hlen, cellV, g1, g2, g3, -⟩ := (hr.2 b _ hb').obj (xlen hc)
    have hcls := (hK.1.1 _ r hc).2
    have hT := (hK.1.2 (t - 10) (G.2.1 t, xtag t) (by rcases (show t = 13 ∨ t = 14 ∨ t = 15 by omega) with rfl | rfl | rfl <;> rfl)).2
    rw [htag] at hT
    obtain ⟨kA, comp, k1, k2, k3, -⟩ := hT
    have hcomp : comp = G.2.1 (xel t) := Option.some.inj (k3.symm.trans hcls.1)
    subst hcomp
    obtain ⟨kC, hkC, -⟩ := hcls.2
    refine W.aast hx hb ((hr.2 a _ ha).arr (by omega)).2 (fun q h => by cases h) (xvm _ _ _) k1 k2 rfl hkC ⟨h0, by rw [xar_size]; exact hv⟩ g1 (fun q h => by rw [g3] at h; cases h) (by rw [g2]; exact hkC) (by rw [g2]; exact va_assign hcls) rfl rfl (ht _ (xlook hd)).1 (fun H' e1 e2 e3 => k ls H' _ hl (xput1 hr (by omega) (by omega) e1 e2 e3) (fun q hq => e3 q (Nat.ne_of_lt (Nat.lt_of_lt_of_le hq (Nat.le_add_right _ _)))) xloc1)) kk
theorem xi_aastN {a t : Nat} {i : Int32} {vs : List Value} (hd : M.2.2.2.2.lookup pc = some ((83, 0, 0), 1)) (ha : σ.1 a = some (t, vs)) (h1 : 13 ≤ t) (h2 : t ≤ 15) (h0 : ¬ i < 0) (hv : i.toNatClampNeg < vs.length) (kk : xw G d M (pc + 1) lo st (xu σ a (t, vs.set i.toNatClampNeg .null)) Q) : xw G d M pc lo (.null :: .int i :: rf G a :: st) σ Q :=
  xw.of_put (σ1 := xu σ a (t, vs.set i.toNatClampNeg .null)) rfl rfl (fun p e R s m args below meth c H locs cells slots Qw ls hx hb ho hmn hts hK ht hr hl k => by
    obtain ⟨r, hc, htag⟩ := xel_tag h1 h2
    have hA := xarr_of hK (by omega) (by omega) vs (t := t)
    rw [htag] at hA
    exact va_WaastN hx hb ((hr.2 a _ ha).arr (by omega)).2 hA (xvm _ _ _) (xin' h0 hv _ _) rfl rfl (ht _ (xlook hd)).1 (fun H' e1 e2 e3 => k ls H' _ hl (xput1 hr (by omega) (by omega) e1 e2 e3) (fun q hq => e3 q (Nat.ne_of_lt (Nat.lt_of_lt_of_le hq (Nat.le_add_right _ _)))) xloc1)) kk
end X4
end
section
section X5
variable {G : xG} {d : Nat} {M : xM} {pc : Nat} {lo : xL} {st : List Value} {σ : xS} {Q : Option Value → xS → Prop}
/-- a step that makes one cell of n slots -/
theorem xw.of_new {pc' : Nat} {st' : List Value} {c0 : xC} {n : Nat}
    (hs : ∀ (p : Program) (e : Env) (R : Room) (s : State) (m : MethodId) (args : Array Value) (below : List Frame) (meth : Method) (c : Code) (H : Heap) (locs : List Loc) (cells slots : Nat) (Qw : State → Prop) (ls : Array Slot),
      p.tables.exec = Jvm.exec → c.code = M.2.1 → s.vm.findClass M.1.cls = some m.cls → (∀ w ∈ xGw, w.before args s = true) → xK G s → xtok M.2.1 M.2.2.2.2 → xrel G σ H → cells + 1 ≤ R.cells → slots + n ≤ R.slots →
      (∀ H1, H1.size = H.size + 1 → xat G H1 σ.2.1 c0 → (∀ q : Nat, q < H.size → H1[q]? = H[q]?) → W p G.1 e R s m args below meth c H1 locs (cells + 1) (slots + n) Qw (F0 m pc' ls st')) → W p G.1 e R s m args below meth c H locs cells slots Qw (F0 m pc ls st))
    (h : xw G d M pc' lo st' (xnew σ c0 n) Q) : xw G d M pc lo st σ Q := by
  obtain ⟨v, σ', hq, h1, h2, k⟩ := h
  have h1' : σ.2.1 + 1 ≤ σ'.2.1 := h1
  have h2' : σ.2.2 + n ≤ σ'.2.2 := h2
  refine ⟨v, σ', hq, by omega, by omega, fun n0 s0 p e R s m args below meth c H locs ls C a1 a2 hr hf hl => ?_⟩
  have hRc : R.cells = σ'.2.1 - n0 := C.2.2.2.2.2.2.2.2.2.2.2.1
  have hRs : R.slots = σ'.2.2 - s0 := C.2.2.2.2.2.2.2.2.2.2.2.2.1
  have hN0 : G.2.2.2 ≤ H.size := by rw [hr.1]; exact Nat.le_add_right _ _
  refine hs p e R s m args below meth c H locs _ _ _ ls C.1 C.2.1 C.2.2.2.2.2.1 C.2.2.2.2.2.2.2.1 C.2.2.2.2.2.2.2.2.1 C.2.2.2.2.2.2.2.2.2.2.2.2.2.1 hr (by omega) (by omega) (fun H1 z hc ho => ?_)
  have := k n0 s0 p e R s m args below meth c H1 locs ls C (show n0 ≤ σ.2.1 + 1 by omega) (show s0 ≤ σ.2.2 + n by omega) (hr.made z hc ho) ⟨fun q hq => (ho q (Nat.lt_of_lt_of_le hq hN0)).trans (hf.1 q hq), hf.2⟩ hl
  exact W.cs (show σ.2.1 - n0 + 1 = σ.2.1 + 1 - n0 by omega) (show σ.2.2 - s0 + n = σ.2.2 + n - s0 by omega) this
/-- what a class's link needs: the words -/
def xnl (own : String) (idx ci : Nat) : Prop := ∃ r : vw_C, vwCl[ci]? = some r ∧ Cond.classLink own idx r.1 ∈ xGw ∧ Cond.instantiable r.1 r.2.2 ∈ xGw ∧ Cond.initialized r.1 ∈ xGw
def xN (ci : Nat) : Nat := match vwCl[ci]? with
  | some r => r.2.2
  | none => 0
def xdef (ci : Nat) : List Value := (List.range (xN ci)).map (fun k => defaultValue (xTy ci k))
theorem xi_new {idx ci : Nat} (hd : M.2.2.2.2.lookup pc = some ((187, idx, 0), 3)) (hf : xnl M.1.cls idx ci) (kk : xw G d M (pc + 3) lo (rf G σ.2.1 :: st) (xnew σ (ci, xdef ci) (xN ci)) Q) : xw G d M pc lo st σ Q := by
  refine xw.of_new (fun p e R s m args below meth c H locs cells slots Qw ls hx hb ho hts hK ht hr hcl hsl k => ?_) kk
  obtain ⟨r, hc, w1, w2, w3⟩ := hf
  have hN : xN ci = r.2.2 := by simp [xN, hc]
  rw [hN] at hsl k
  have hKn := hK.1.1 ci _ hc
  refine W.newcK hx hb ho (hts _ w1) (hts _ w2) (hts _ w3) rfl (ht _ (xlook hd)).1 hcl hsl hKn.2.1 hr.1 fun H1 kC hkC e1 z1 o1 => ?_
  rw [← hr.1] at o1
  refine k H1 (by rw [z1, hr.1]) (Or.inl ⟨r, hc, by simp [xdef, hN], (u_born (xTy ci) hts (xus_ok hc) hKn hkC e1 (xty_ok hc)).to (fun j hj => ?_)⟩) o1
  simp [vp_V, xdef, List.getD_eq_getElem?_getD, hN, hj]
theorem xi_newa {t ta : Nat} {n : Int32} {N : Nat} {atype : ArrayType} (hd : M.2.2.2.2.lookup pc = some ((188, ta, 0), 2)) (hins : xins pc (188, ta, 0) = .newarray atype) (h1 : 10 ≤ t) (h2 : t ≤ 12) (hty : newarray.typeOf atype = xtag t) (hw : Cond.arrayClass (xtag t) ∈ xGw) (hn : ¬ n < 0) (hN : n.toNatClampNeg = N) (hb1 : N ≤ 1000000) (kk : xw G d M (pc + 2) lo (rf G σ.2.1 :: st) (xnew σ (t, List.replicate N (.int 0)) N) Q) : xw G d M pc lo (.int n :: st) σ Q := by
  refine xw.of_new (fun p e R s m args below meth c H locs cells slots Qw ls hx hb ho hts hK ht hr hcl hsl k => ?_) kk
  have hdec := (ht _ (xlook hd)).1
  dsimp only at hdec
  rw [hins] at hdec
  have hA := hts _ hw
  rw [← hty] at hA
  have hdv : defaultValue (newarray.typeOf atype) = .int 0 := by
    rw [hty]
    rcases (show t = 10 ∨ t = 11 ∨ t = 12 by omega) with rfl | rfl | rfl <;> rfl
  have hcb : N * componentBytes (newarray.typeOf atype) ≤ 536870912 := by
    rw [hty]
    rcases (show t = 10 ∨ t = 11 ∨ t = 12 by omega) with rfl | rfl | rfl <;> simp [xtag, componentBytes] <;> omega
  refine va_newaK hx hb hA rfl hdec rfl hn hN hcb hcl hsl hr.1 fun H1 cA e1 z1 o1 hAr hNm => ?_
  rw [← hr.1] at o1
  have hT := (hK.1.2 (t - 10) (G.2.1 t, xtag t) (by rcases (show t = 10 ∨ t = 11 ∨ t = 12 by omega) with rfl | rfl | rfl <;> rfl)).2
  have hcA : cA = G.2.1 t := by
    rw [hty] at hNm
    rcases (show t = 10 ∨ t = 11 ∨ t = 12 by omega) with rfl | rfl | rfl <;> exact Option.some.inj (hNm.symm.trans hT)
  subst hcA
  refine k H1 (by rw [z1, hr.1]) (Or.inr ⟨h1, by omega, ?_⟩) o1
  rw [e1, hdv, ← arrV_new]
  simp [xar]
theorem xi_anewa {t idx : Nat} {n : Int32} {N : Nat} {C : String} (hd : M.2.2.2.2.lookup pc = some ((189, idx, 0), 3)) (h1 : 13 ≤ t) (h2 : t ≤ 15) (hty : xtag t = .object C) (hC : C ∈ ["PackPost$Book", "PackPost$ByteRow", "PackPost$Entry"]) (hw : Cond.classLink M.1.cls idx C ∈ xGw) (hn : ¬ n < 0) (hN : n.toNatClampNeg = N) (hb1 : N ≤ 1000000) (kk : xw G d M (pc + 3) lo (rf G σ.2.1 :: st) (xnew σ (t, List.replicate N .null) N) Q) : xw G d M pc lo (.int n :: st) σ Q := by
  refine xw.of_new (fun p e R s m args below meth c H locs cells slots Qw ls hx hb ho hts hK ht hr hcl hsl k => ?_) kk
  subst hN
  refine W.anew hx hb ho (hts _ hw) (va_AO.use (hK.2.2.1 C hC)) rfl (ht _ (xlook hd)).1 rfl hn (by omega) hcl hsl fun cA kA comp f1 f2 f3 f4 => ?_
  have hT := (hK.1.2 (t - 10) (G.2.1 t, xtag t) (by rcases (show t = 13 ∨ t = 14 ∨ t = 15 by omega) with rfl | rfl | rfl <;> rfl)).2
  rw [hty] at hT
  obtain ⟨kA', comp', -, -, -, k4⟩ := hT
  have hcA : cA = G.2.1 t := Option.some.inj (f1.symm.trans k4)
  subst hcA
  rw [hr.1]
  refine k _ (by simp) (Or.inr ⟨by omega, by omega, ?_⟩) (fun q hq => by rw [Array.getElem?_push, if_neg (Nat.ne_of_lt hq)])
  rw [← hr.1]
  simp [xar]
theorem xi_obj {idx a : Nat} (hd : M.2.2.2.2.lookup pc = some ((183, idx, 0), 3)) (hw : ∀ w ∈ [Cond.methodLink M.1.cls idx objectInit, Cond.instanceMethod objectInit, Cond.code objectInit ⟨#[0xb1]⟩ 1 none], w ∈ xGw) (hst : (st.map fun v => v.category).sum ≤ 8) (kk : xw G (d + 1) M (pc + 3) lo st σ Q) : xw G (d + 1) M pc lo (rf G a :: st) σ Q := by
  obtain ⟨v, σ', hq, h1, h2, k⟩ := kk
  refine ⟨v, σ', hq, h1, h2, fun n0 s0 p e R s m args below meth c H locs ls C a1 a2 hr hf hl => ?_⟩
  have hR1 : d + 1 ≤ R.frames := C.2.2.2.2.2.2.2.2.2.1
  have hR2 : 50 * (d + 1) ≤ R.locals := C.2.2.2.2.2.2.2.2.2.2.1
  have hts := C.2.2.2.2.2.2.2.1
  have hroom : 2 * (F0 m pc ls (rf G a :: st)).monitorRoom + (st.map fun v => v.category).sum ≤ 8 := lv_room hst
  exact W.objInit C.1 C.2.1 C.2.2.2.2.2.1 (hts _ (hw _ (by simp))) (hts _ (hw _ (by simp))) (hts _ (hw _ (by simp))) rfl (by rw [C.2.2.1]; exact hl.2.1.1) rfl (C.2.2.2.2.2.2.2.2.2.2.2.2.2.1 _ (xlook hd)).1 (by omega) (by omega) (k n0 s0 p e R s m args below meth c H locs ls C a1 a2 hr hf hl)
end X5
end
section
theorem xargs_mem : ∀ (As : List Value) (i j : Nat) (v : Value), (∀ v ∈ As, v.category = 1) → As[j]? = some v → (i + j, v) ∈ lv_args i As
  | [], i, j, v, _, h => by simp at h
  | x :: As, i, j, v, hc, h => by
    have hx : x.category = 1 := hc x List.mem_cons_self
    simp only [lv_args, hx]
    match j, h with
    | 0, h =>
      have e : x = v := by simpa using h
      rw [e]
      exact List.mem_cons_self
    | j + 1, h =>
      have h' : As[j]? = some v := by simpa using h
      have := xargs_mem As (i + 1) j v (fun v hv => hc v (List.mem_cons_of_mem _ hv)) h'
      refine List.mem_cons_of_mem _ ?_
      simpa [Nat.add_comm, Nat.add_left_comm, Nat.add_assoc] using this
theorem xsl_len : ∀ (As : List Value), (∀ v ∈ As, v.category = 1) → (lg_sl As).length = As.length
  | [], _ => rfl
  | x :: As, hc => by
    have hx : x.category = 1 := hc x List.mem_cons_self
    have := xsl_len As (fun v hv => hc v (List.mem_cons_of_mem _ hv))
    simp only [lg_sl, List.flatMap_cons, hx, List.length_append, List.length_cons] at this ⊢
    simp [this]
    omega
abbrev xlo0 (As : List Value) (n : Nat) : xL := As.map some ++ List.replicate (n - As.length) none
theorem xlo_entry {As : List Value} {n : Nat} (hc : ∀ v ∈ As, v.category = 1) (hn : As.length ≤ n) : xlo ((lg_sl As ++ List.replicate (n - (lg_sl As).length) Slot.unset).toArray) n (xlo0 As n) := by
  have key : ∀ (i : Nat) (v : Value), (xlo0 As n)[i]? = some (some v) → As[i]? = some v := fun i v h => by
    by_cases hi : i < As.length
    · rw [List.getElem?_append_left (by simpa using hi), List.getElem?_map] at h
      cases hA : As[i]? with
      | none => rw [hA] at h; simp at h
      | some u => rw [hA] at h; simpa using h
    · rw [List.getElem?_append_right (by simpa using hi), List.getElem?_replicate] at h
      split at h <;> simp at h
  obtain ⟨e1, e2, e3⟩ := lv_entry As (n := n) (by rw [xsl_len As hc]; exact hn)
  refine ⟨by simp; omega, ⟨e1, e2, fun q hq => ?_⟩, fun i v h => hc v (List.mem_of_getElem? (key i v h))⟩
  have := xargs_mem As 0 q.1 q.2 hc (key _ _ (xll_mem.mp hq))
  exact e3 q (by simpa using this)
theorem xm_of {G : xG} {d : Nat} {M : xM} {As : List Value} {σ : xS} {Q : Option Value → xS → Prop} (hp : plainName M.1.cls = true) (hlen : As.length ≤ M.2.2.1) (hcat : ∀ v ∈ As, v.category = 1) (ht : xtok M.2.1 M.2.2.2.2) (h : xw G d M 0 (xlo0 As M.2.2.1) [] σ Q) : xm G d M As σ Q := by
  obtain ⟨v, σ', hq, h1, h2, k⟩ := h
  refine ⟨v, σ', hq, h1, h2, ?_⟩
  refine Met.ofW (cc := M.2.1) (maxL := M.2.2.1) (ret := M.2.2.2.1) hp rfl ?_
  intro p e s m args below meth c s₁ B hml hv
  obtain ⟨rfl, hr, hK⟩ := hv
  have hts := atoms_spec (ws := .code M.1 M.2.1 M.2.2.1 M.2.2.2.1 :: xGw) B.pre
  rw [lg_entry_eq]
  have := k σ.2.1 σ.2.2 p e { frames := d, cells := σ'.2.1 - σ.2.1, slots := σ'.2.2 - σ.2.2, locals := 50 * d } s m As.toArray below meth c s.heap [] _ ⟨B.exec, B.bytes, hml, B.returns, B.notSynchronized, findClass_of_methodNamed B.named, (name_of_methodNamed B.named B.method).1, fun w hw => hts w (List.mem_cons_of_mem _ hw), hK, Nat.le_refl _, Nat.le_refl _, rfl, rfl, ht, by rw [hr.1]; exact Nat.le_add_right _ _⟩ (Nat.le_refl _) (Nat.le_refl _) hr ⟨fun q _ => rfl, fun l hl => absurd hl List.not_mem_nil⟩ (xlo_entry hcat hlen)
  rw [Nat.sub_self, Nat.sub_self] at this
  exact this
/-- what a call's link needs: the words of the method that is called (n its parameters), and the link -/
def xml (M' : xM) (n : Nat) : Prop := Cond.code M'.1 M'.2.1 M'.2.2.1 M'.2.2.2.1 ∈ xGw ∧ Cond.initialized M'.1.cls ∈ xGw ∧ (M'.1.cls ≠ "java/lang/invoke/MethodHandle" ∧ M'.1.cls ≠ "java/lang/invoke/VarHandle") ∧ (parseMethodDescriptor M'.1.desc).map (fun d => d.parameters.length) = some n ∧ M'.2.2.1 ≤ 31
def xlk (own : String) (idx : Nat) (M' : xM) : Prop := Cond.methodLink own idx M'.1 ∈ xGw ∨ ∃ host, Cond.methodLinkNest own idx M'.1 host ∈ xNw
theorem xgood {M' : xM} {n : Nat} (h : xml M' n) : GoodIn xGw (.code M'.1 M'.2.1 M'.2.2.1 M'.2.2.2.1 :: xGw) := fun w hw => by
  have hm : w ∈ xGw := by
    rcases List.mem_cons.mp hw with e | e
    · rw [e]; exact h.1
    · exact e
  exact ⟨hm, good_of_word (List.mem_filter.mp hm).2⟩
section X6
variable {G : xG} {d : Nat} {M M' : xM} {pc : Nat} {lo : xL} {st : List Value} {σ : xS} {Q Q' : Option Value → xS → Prop}
theorem xblind {As : List Value} : FrameBlind (va_Pc As (fun U => xrel G σ U.heap ∧ xK G U)) := fun a U g mk h => ⟨h.1, h.2.1, xK.same (s := U) rfl h.2.2⟩
theorem xcall_go {p : Program} {e : Env} {R : Room} {s : State} {m : MethodId} {args a : Array Value} {below : List Frame} {meth : Method} {c : Code} {H : Heap} {locs : List Loc} {cells slots mc ms : Nat} {Qw : State → Prop} {ls : Array Slot} {st0 rest : List Value} {v : Option Value} {σ' : xS}
    (hr : va_Run p G.1 e R s m args below meth c H locs cells slots mc ms (F0 m pc ls st0) rest (xQc G v σ' a) (fun q => G.2.2.2 ≤ q)) (hf : xfr G s H locs)
    (kk : ∀ H1 locs1, xrel G σ' H1 → xfr G s H1 locs1 → W p G.1 e R s m args below meth c H1 locs1 (cells + mc) (slots + ms) Qw (F0 m (pc + 3) ls (v.toList ++ rest))) : W p G.1 e R s m args below meth c H locs cells slots Qw (F0 m pc ls st0) := by
  intro T hT X
  obtain ⟨v', st₀, t, T', L, h0, X', hL, e1, e2, ⟨hv, hrel, hk⟩, stp⟩ := hr T hT X
  cases hv
  obtain ⟨t2, a1, b1⟩ := kk T'.heap (locs ++ L) (by rw [e1]; exact hrel) ⟨fun q hq => by rw [e1, hk q hq, h0]; exact hf.1 q hq, fun l hl => (List.mem_append.mp hl).elim (fun h => hf.2 l h) (fun h => hL l h)⟩ T' rfl X'
  exact ⟨t2, stp t2 a1, b1⟩
theorem xi_callV {idx b ci n : Nat} {fs As rest : List Value} (hd : M.2.2.2.2.lookup pc = some ((182, idx, 0), 3)) (hml : xml M' n) (hin : ∀ w ∈ [Cond.instanceMethod M'.1, Cond.selects M'.1.cls M'.1 M'.1], w ∈ xGw) (hlk : xlk M.1.cls idx M')
    (hm : xm G d M' (rf G b :: As) σ Q') (ha : σ.1 b = some (ci, fs)) (hc : ∃ r : vw_C, vwCl[ci]? = some r ∧ r.1 = M'.1.cls) (hn : As.length = n) (hst : st = As.reverse ++ rf G b :: rest) (hrest : (rest.map fun v => v.category).sum ≤ 8)
    (kk : ∀ v σ', Q' v σ' → xw G (d + 1) M (pc + 3) lo (v.toList ++ rest) σ' Q) : xw G (d + 1) M pc lo st σ Q := by
  obtain ⟨v, σ1, hq1, l1, l2, hM⟩ := hm
  obtain ⟨v2, σ2, hq2, l3, l4, k⟩ := kk v σ1 hq1
  refine ⟨v2, σ2, hq2, by omega, by omega, fun n0 s0 p e R s m args below meth c H locs ls C a1 a2 hr hf hl => ?_⟩
  obtain ⟨hx, hb, hmL, hre, hlks, ho, hnm, hts, hK, hR1, hR2, hRc, hRs, ht, hN0⟩ := id C
  obtain ⟨r, hcr, hcn⟩ := hc
  obtain ⟨r', hcr', hlen, cell, q1, q2, q3, -⟩ := (hr.2 b _ ha).obj (xlen hcr)
  cases hcr.symm.trans hcr'
  have hcell : ∃ cellB : Cell, H[G.2.2.2 + b]? = some cellB ∧ cellB.vm.isStatics = false ∧ s.vm.findClass M'.1.cls = some cellB.cls := ⟨cell, q1, by rw [q3]; rfl, by rw [q2, ← hcn]; exact (hK.1.1 ci _ hcr).2.1⟩
  have hpre : PreV s H M'.1.cls (G.2.2.2 + b) (va_Pc (rf G b :: As) (fun U => xrel G σ U.heap ∧ xK G U)) As := ⟨xblind, hcell, fun U hU hW => ⟨rfl, by rw [hU]; exact hr, hK.moved hW⟩⟩
  have hdd : M'.1.cls ≠ "java/lang/invoke/MethodHandle" ∧ M'.1.cls ≠ "java/lang/invoke/VarHandle" ∧ (parseMethodDescriptor M'.1.desc).map (fun d => d.parameters.length) = some n := ⟨hml.2.2.1.1, hml.2.2.1.2, hml.2.2.2.1⟩
  have hRR : d + 1 ≤ R.frames ∧ 8 + (M'.2.2.1 + 11) + 50 * d ≤ R.locals := ⟨hR1, by have := hml.2.2.2.2; omega⟩
  have hfit : (σ.2.1 - n0) + (σ1.2.1 - σ.2.1) ≤ R.cells ∧ (σ.2.2 - s0) + (σ1.2.2 - σ.2.2) ≤ R.slots := ⟨by omega, by omega⟩
  have hrun : va_Run p G.1 e R s m args below meth c H locs (σ.2.1 - n0) (σ.2.2 - s0) (σ1.2.1 - σ.2.1) (σ1.2.2 - σ.2.2) (F0 m pc ls st) rest (xQc G v σ1 (Value.ref (G.2.2.2 + b) :: As).toArray) (fun q => G.2.2.2 ≤ q) := by
    rcases hlk with hlk | ⟨host, hlk⟩
    · exact va_runV (As := As) (rest := rest) ⟨hx, hb, hmL, ho, hts⟩ hM ⟨callB_of n hts (xgood hml) rfl rfl rfl (hts _ hml.2.1) (hts _ hlk) hdd hRR, hts _ (hin _ (by simp)), hts _ (hin _ (by simp))⟩ hpre rfl hn hl.2.1.1 hst (lv_room hrest) (ht _ (xlook hd)).1 hfit
    · exact va_runVN (As := As) (rest := rest) ⟨hx, hb, hmL, ho, hts⟩ hM ⟨va_cnB n hts (xgood hml) rfl rfl rfl (hK.2.1 _ hlk) (hts _ hml.2.1) hdd hRR, hts _ (hin _ (by simp)), hts _ (hin _ (by simp))⟩ hpre rfl hn hl.2.1.1 hst (lv_room hrest) (ht _ (xlook hd)).1 hfit
  refine xcall_go hrun hf fun H1 locs1 hr1 hf1 => ?_
  exact W.cs (by omega) (by omega) (k n0 s0 p e R s m args below meth c H1 locs1 ls C (by omega) (by omega) hr1 hf1 hl)
theorem xi_callI {idx b n : Nat} {As rest : List Value} (hd : M.2.2.2.2.lookup pc = some ((183, idx, 0), 3)) (hret : M'.2.2.2.1 = none) (hini : M'.1.name = "<init>") (hml : xml M' n) (hin : Cond.instanceMethod M'.1 ∈ xGw) (hlk : xlk M.1.cls idx M')
    (hm : xm G d M' (rf G b :: As) σ Q') (hn : As.length = n) (hst : st = As.reverse ++ rf G b :: rest) (hrest : (rest.map fun v => v.category).sum ≤ 8)
    (kk : ∀ v σ', Q' v σ' → xw G (d + 1) M (pc + 3) lo (v.toList ++ rest) σ' Q) : xw G (d + 1) M pc lo st σ Q := by
  obtain ⟨v, σ1, hq1, l1, l2, hM⟩ := hm
  obtain ⟨v2, σ2, hq2, l3, l4, k⟩ := kk v σ1 hq1
  refine ⟨v2, σ2, hq2, by omega, by omega, fun n0 s0 p e R s m args below meth c H locs ls C a1 a2 hr hf hl => ?_⟩
  obtain ⟨hx, hb, hmL, hre, hlks, ho, hnm, hts, hK, hR1, hR2, hRc, hRs, ht, hN0⟩ := id C
  have hpre : PreS s H (va_Pc (rf G b :: As) (fun U => xrel G σ U.heap ∧ xK G U)) (rf G b :: As) := ⟨xblind, fun U hU hW => ⟨rfl, by rw [hU]; exact hr, hK.moved hW⟩⟩
  have hdd : M'.1.cls ≠ "java/lang/invoke/MethodHandle" ∧ M'.1.cls ≠ "java/lang/invoke/VarHandle" ∧ (parseMethodDescriptor M'.1.desc).map (fun d => d.parameters.length) = some n := ⟨hml.2.2.1.1, hml.2.2.1.2, hml.2.2.2.1⟩
  have hRR : d + 1 ≤ R.frames ∧ 8 + (M'.2.2.1 + 11) + 50 * d ≤ R.locals := ⟨hR1, by have := hml.2.2.2.2; omega⟩
  have hfit : (σ.2.1 - n0) + (σ1.2.1 - σ.2.1) ≤ R.cells ∧ (σ.2.2 - s0) + (σ1.2.2 - σ.2.2) ≤ R.slots := ⟨by omega, by omega⟩
  have hw : (Cond.code M'.1 M'.2.1 M'.2.2.1 M'.2.2.2.1 :: xGw) = (Cond.code M'.1 M'.2.1 M'.2.2.1 none :: xGw) := by rw [hret]
  have hrun : va_Run p G.1 e R s m args below meth c H locs (σ.2.1 - n0) (σ.2.2 - s0) (σ1.2.1 - σ.2.1) (σ1.2.2 - σ.2.2) (F0 m pc ls st) rest (xQc G v σ1 (Value.ref (G.2.2.2 + b) :: As).toArray) (fun q => G.2.2.2 ≤ q) := by
    rcases hlk with hlk | ⟨host, hlk⟩
    · exact va_runI (As := As) (rest := rest) ⟨hx, hb, hmL, ho, hts⟩ hM ⟨callB_of n hts (xgood hml) hw rfl rfl (hts _ hml.2.1) (hts _ hlk) hdd hRR, hini, hts _ hin⟩ hpre rfl hn hl.2.1.1 hst (lv_room hrest) (ht _ (xlook hd)).1 hfit
    · exact va_runIN (As := As) (rest := rest) ⟨hx, hb, hmL, ho, hts⟩ hM ⟨va_cnB n hts (xgood hml) hw rfl rfl (hK.2.1 _ hlk) (hts _ hml.2.1) hdd hRR, hini, hts _ hin⟩ hpre rfl hn hl.2.1.1 hst (lv_room hrest) (ht _ (xlook hd)).1 hfit
  refine xcall_go hrun hf fun H1 locs1 hr1 hf1 => ?_
  exact W.cs (by omega) (by omega) (k n0 s0 p e R s m args below meth c H1 locs1 ls C (by omega) (by omega) hr1 hf1 hl)
theorem xi_callS {idx n : Nat} {As rest : List Value} (hd : M.2.2.2.2.lookup pc = some ((184, idx, 0), 3)) (hml : xml M' n) (hin : Cond.static M'.1 ∈ xGw) (hlk : xlk M.1.cls idx M')
    (hm : xm G d M' As σ Q') (hn : As.length = n) (hst : st = As.reverse ++ rest) (hrest : (rest.map fun v => v.category).sum ≤ 8)
    (kk : ∀ v σ', Q' v σ' → xw G (d + 1) M (pc + 3) lo (v.toList ++ rest) σ' Q) : xw G (d + 1) M pc lo st σ Q := by
  obtain ⟨v, σ1, hq1, l1, l2, hM⟩ := hm
  obtain ⟨v2, σ2, hq2, l3, l4, k⟩ := kk v σ1 hq1
  refine ⟨v2, σ2, hq2, by omega, by omega, fun n0 s0 p e R s m args below meth c H locs ls C a1 a2 hr hf hl => ?_⟩
  obtain ⟨hx, hb, hmL, hre, hlks, ho, hnm, hts, hK, hR1, hR2, hRc, hRs, ht, hN0⟩ := id C
  have hpre : PreS s H (va_Pc As (fun U => xrel G σ U.heap ∧ xK G U)) As := ⟨xblind, fun U hU hW => ⟨rfl, by rw [hU]; exact hr, hK.moved hW⟩⟩
  have hdd : M'.1.cls ≠ "java/lang/invoke/MethodHandle" ∧ M'.1.cls ≠ "java/lang/invoke/VarHandle" ∧ (parseMethodDescriptor M'.1.desc).map (fun d => d.parameters.length) = some n := ⟨hml.2.2.1.1, hml.2.2.1.2, hml.2.2.2.1⟩
  have hRR : d + 1 ≤ R.frames ∧ 8 + (M'.2.2.1 + 11) + 50 * d ≤ R.locals := ⟨hR1, by have := hml.2.2.2.2; omega⟩
  have hfit : (σ.2.1 - n0) + (σ1.2.1 - σ.2.1) ≤ R.cells ∧ (σ.2.2 - s0) + (σ1.2.2 - σ.2.2) ≤ R.slots := ⟨by omega, by omega⟩
  have hrun : va_Run p G.1 e R s m args below meth c H locs (σ.2.1 - n0) (σ.2.2 - s0) (σ1.2.1 - σ.2.1) (σ1.2.2 - σ.2.2) (F0 m pc ls st) rest (xQc G v σ1 As.toArray) (fun q => G.2.2.2 ≤ q) := by
    rcases hlk with hlk | ⟨host, hlk⟩
    · exact va_runS (As := As) (rest := rest) ⟨hx, hb, hmL, ho, hts⟩ hM ⟨callB_of n hts (xgood hml) rfl rfl rfl (hts _ hml.2.1) (hts _ hlk) hdd hRR, hts _ hin⟩ hpre rfl hn hl.2.1.1 hst (lv_room hrest) (ht _ (xlook hd)).1 hfit
    · exact va_runSN (As := As) (rest := rest) ⟨hx, hb, hmL, ho, hts⟩ hM ⟨va_cnB n hts (xgood hml) rfl rfl rfl (hK.2.1 _ hlk) (hts _ hml.2.1) hdd hRR, hts _ hin, trivial⟩ hpre rfl hn hl.2.1.1 hst (lv_room hrest) (ht _ (xlook hd)).1 hfit
  refine xcall_go hrun hf fun H1 locs1 hr1 hf1 => ?_
  exact W.cs (by omega) (by omega) (k n0 s0 p e R s m args below meth c H1 locs1 ls C (by omega) (by omega) hr1 hf1 hl)
end X6
end
section
def tX0_init : List (Nat × xE) := [(0, ((42, 0, 0), 1)), (1, ((183, 3, 0), 3)), (4, ((42, 0, 0), 1)), (5, ((16, 0, 88), 2)), (7, ((189, 9, 0), 3)), (10, ((181, 11, 0), 3)), (13, ((177, 0, 0), 1))]
set_option maxRecDepth 20000 in
theorem tX0_init_ok : xtok cX0_init tX0_init := by unfold xtok; decide +kernel
abbrev mX0_init : xM := (yX0_init, cX0_init, 1, none, tX0_init)
def tX0_hasPart : List (Nat × xE) := [(0, ((26, 1, 0), 1)), (1, ((16, 0, 88), 2)), (3, ((184, 17, 0), 3)), (6, ((153, 22, 0), 3)), (9, ((42, 0, 0), 1)), (10, ((180, 11, 0), 3)), (13, ((26, 1, 0), 1)), (14, ((50, 0, 0), 1)), (15, ((198, 22, 0), 3)), (18, ((2, 0, 1), 1)), (19, ((167, 23, 0), 3)), (22, ((2, 0, 0), 1)), (23, ((172, 0, 0), 1))]
set_option maxRecDepth 20000 in
theorem tX0_hasPart_ok : xtok cX0_hasPart tX0_hasPart := by unfold xtok; decide +kernel
abbrev mX0_hasPart : xM := (yX0_hasPart, cX0_hasPart, 2, (some .boolean), tX0_hasPart)
def tX0_putPart : List (Nat × xE) := [(0, ((26, 1, 0), 1)), (1, ((16, 0, 88), 2)), (3, ((184, 17, 0), 3)), (6, ((153, 66, 0), 3)), (9, ((42, 0, 0), 1)), (10, ((180, 11, 0), 3)), (13, ((26, 1, 0), 1)), (14, ((50, 0, 0), 1)), (15, ((199, 66, 0), 3)), (18, ((42, 0, 0), 1)), (19, ((180, 11, 0), 3)), (22, ((26, 1, 0), 1)), (23, ((42, 3, 0), 1)), (24, ((2, 0, 4), 1)), (25, ((42, 3, 0), 1)), (26, ((180, 21, 0), 3)), (29, ((2, 0, 4), 1)), (30, ((100, 0, 0), 1)), (31, ((182, 25, 0), 3)), (34, ((83, 0, 0), 1)), (35, ((42, 0, 0), 1)), (36, ((26, 2, 0), 1)), (37, ((181, 29, 0), 3)), (40, ((42, 0, 0), 1)), (41, ((89, 0, 0), 1)), (42, ((180, 32, 0), 3)), (45, ((2, 0, 1), 1)), (46, ((96, 0, 0), 1)), (47, ((181, 32, 0), 3)), (50, ((42, 0, 0), 1)), (51, ((89, 0, 0), 1)), (52, ((180, 35, 0), 3)), (55, ((42, 3, 0), 1)), (56, ((180, 21, 0), 3)), (59, ((16, 0, 8), 2)), (61, ((100, 0, 0), 1)), (62, ((96, 0, 0), 1)), (63, ((181, 35, 0), 3)), (66, ((177, 0, 0), 1))]
set_option maxRecDepth 20000 in
theorem tX0_putPart_ok : xtok cX0_putPart tX0_putPart := by unfold xtok; decide +kernel
abbrev mX0_putPart : xM := (yX0_putPart, cX0_putPart, 4, none, tX0_putPart)
def tX0_joinOnto : List (Nat × xE) := [(0, ((42, 1, 0), 1)), (1, ((182, 38, 0), 3)), (4, ((2, 0, 0), 1)), (5, ((59, 2, 0), 1)), (6, ((26, 2, 0), 1)), (7, ((16, 0, 88), 2)), (9, ((162, 39, 0), 3)), (12, ((42, 0, 0), 1)), (13, ((180, 11, 0), 3)), (16, ((26, 2, 0), 1)), (17, ((50, 0, 0), 1)), (18, ((75, 3, 0), 1)), (19, ((42, 3, 0), 1)), (20, ((198, 33, 0), 3)), (23, ((42, 1, 0), 1)), (24, ((42, 3, 0), 1)), (25, ((2, 0, 0), 1)), (26, ((42, 3, 0), 1)), (27, ((180, 21, 0), 3)), (30, ((182, 41, 0), 3)), (33, ((132, 2, 1), 3)), (36, ((167, 6, 0), 3)), (39, ((177, 0, 0), 1))]
set_option maxRecDepth 20000 in
theorem tX0_joinOnto_ok : xtok cX0_joinOnto tX0_joinOnto := by unfold xtok; decide +kernel
abbrev mX0_joinOnto : xM := (yX0_joinOnto, cX0_joinOnto, 4, none, tX0_joinOnto)
def tX0_clear : List (Nat × xE) := [(0, ((2, 0, 0), 1)), (1, ((59, 1, 0), 1)), (2, ((26, 1, 0), 1)), (3, ((16, 0, 88), 2)), (5, ((162, 21, 0), 3)), (8, ((42, 0, 0), 1)), (9, ((180, 11, 0), 3)), (12, ((26, 1, 0), 1)), (13, ((1, 0, 0), 1)), (14, ((83, 0, 0), 1)), (15, ((132, 1, 1), 3)), (18, ((167, 2, 0), 3)), (21, ((42, 0, 0), 1)), (22, ((2, 0, 0), 1)), (23, ((181, 29, 0), 3)), (26, ((42, 0, 0), 1)), (27, ((2, 0, 0), 1)), (28, ((181, 32, 0), 3)), (31, ((42, 0, 0), 1)), (32, ((2, 0, 0), 1)), (33, ((181, 35, 0), 3)), (36, ((177, 0, 0), 1))]
set_option maxRecDepth 20000 in
theorem tX0_clear_ok : xtok cX0_clear tX0_clear := by unfold xtok; decide +kernel
abbrev mX0_clear : xM := (yX0_clear, cX0_clear, 2, none, tX0_clear)
def tX1_init : List (Nat × xE) := [(0, ((42, 0, 0), 1)), (1, ((183, 3, 0), 3)), (4, ((42, 0, 0), 1)), (5, ((26, 1, 0), 1)), (6, ((2, 0, 0), 1)), (7, ((184, 9, 0), 3)), (10, ((188, 10, 0), 2)), (12, ((181, 15, 0), 3)), (15, ((177, 0, 0), 1))]
set_option maxRecDepth 20000 in
theorem tX1_init_ok : xtok cX1_init tX1_init := by unfold xtok; decide +kernel
abbrev mX1_init : xM := (yX1_init, cX1_init, 2, none, tX1_init)
def tX1_has : List (Nat × xE) := [(0, ((26, 1, 0), 1)), (1, ((155, 16, 0), 3)), (4, ((26, 1, 0), 1)), (5, ((42, 0, 0), 1)), (6, ((180, 21, 0), 3)), (9, ((162, 16, 0), 3)), (12, ((2, 0, 1), 1)), (13, ((167, 17, 0), 3)), (16, ((2, 0, 0), 1)), (17, ((172, 0, 0), 1))]
set_option maxRecDepth 20000 in
theorem tX1_has_ok : xtok cX1_has tX1_has := by unfold xtok; decide +kernel
abbrev mX1_has : xM := (yX1_has, cX1_has, 2, (some .boolean), tX1_has)
def tX1_at : List (Nat × xE) := [(0, ((26, 1, 0), 1)), (1, ((155, 21, 0), 3)), (4, ((26, 1, 0), 1)), (5, ((42, 0, 0), 1)), (6, ((180, 21, 0), 3)), (9, ((162, 21, 0), 3)), (12, ((42, 0, 0), 1)), (13, ((180, 15, 0), 3)), (16, ((26, 1, 0), 1)), (17, ((46, 0, 0), 1)), (18, ((167, 22, 0), 3)), (21, ((2, 0, (-1)), 1)), (22, ((172, 0, 0), 1))]
set_option maxRecDepth 20000 in
theorem tX1_at_ok : xtok cX1_at tX1_at := by unfold xtok; decide +kernel
abbrev mX1_at : xM := (yX1_at, cX1_at, 2, (some .int), tX1_at)
def tX1_clear : List (Nat × xE) := [(0, ((42, 0, 0), 1)), (1, ((2, 0, 0), 1)), (2, ((181, 21, 0), 3)), (5, ((177, 0, 0), 1))]
set_option maxRecDepth 20000 in
theorem tX1_clear_ok : xtok cX1_clear tX1_clear := by unfold xtok; decide +kernel
abbrev mX1_clear : xM := (yX1_clear, cX1_clear, 1, none, tX1_clear)
def tX1_push : List (Nat × xE) := [(0, ((42, 0, 0), 1)), (1, ((180, 21, 0), 3)), (4, ((42, 0, 0), 1)), (5, ((180, 15, 0), 3)), (8, ((190, 0, 0), 1)), (9, ((162, 32, 0), 3)), (12, ((42, 0, 0), 1)), (13, ((180, 15, 0), 3)), (16, ((42, 0, 0), 1)), (17, ((180, 21, 0), 3)), (20, ((26, 1, 0), 1)), (21, ((79, 0, 0), 1)), (22, ((42, 0, 0), 1)), (23, ((89, 0, 0), 1)), (24, ((180, 21, 0), 3)), (27, ((2, 0, 1), 1)), (28, ((96, 0, 0), 1)), (29, ((181, 21, 0), 3)), (32, ((177, 0, 0), 1))]
set_option maxRecDepth 20000 in
theorem tX1_push_ok : xtok cX1_push tX1_push := by unfold xtok; decide +kernel
abbrev mX1_push : xM := (yX1_push, cX1_push, 2, none, tX1_push)
def tX1_pushRange : List (Nat × xE) := [(0, ((26, 2, 0), 1)), (1, ((54, 4, 0), 2)), (3, ((21, 4, 0), 2)), (5, ((26, 3, 0), 1)), (6, ((162, 25, 0), 3)), (9, ((42, 0, 0), 1)), (10, ((42, 1, 0), 1)), (11, ((21, 4, 0), 2)), (13, ((182, 25, 0), 3)), (16, ((182, 29, 0), 3)), (19, ((132, 4, 1), 3)), (22, ((167, 3, 0), 3)), (25, ((177, 0, 0), 1))]
set_option maxRecDepth 20000 in
theorem tX1_pushRange_ok : xtok cX1_pushRange tX1_pushRange := by unfold xtok; decide +kernel
abbrev mX1_pushRange : xM := (yX1_pushRange, cX1_pushRange, 5, none, tX1_pushRange)
def tX1_pushNumber : List (Nat × xE) := [(0, ((16, 0, 24), 2)), (2, ((59, 2, 0), 1)), (3, ((26, 2, 0), 1)), (4, ((155, 24, 0), 3)), (7, ((42, 0, 0), 1)), (8, ((26, 1, 0), 1)), (9, ((26, 2, 0), 1)), (10, ((124, 0, 0), 1)), (11, ((17, 0, 255), 3)), (14, ((126, 0, 0), 1)), (15, ((182, 29, 0), 3)), (18, ((132, 2, (-8)), 3)), (21, ((167, 3, 0), 3)), (24, ((177, 0, 0), 1))]
set_option maxRecDepth 20000 in
theorem tX1_pushNumber_ok : xtok cX1_pushNumber tX1_pushNumber := by unfold xtok; decide +kernel
abbrev mX1_pushNumber : xM := (yX1_pushNumber, cX1_pushNumber, 3, none, tX1_pushNumber)
def tX1_number : List (Nat × xE) := [(0, ((2, 0, 0), 1)), (1, ((59, 2, 0), 1)), (2, ((2, 0, 0), 1)), (3, ((59, 3, 0), 1)), (4, ((26, 3, 0), 1)), (5, ((2, 0, 4), 1)), (6, ((162, 32, 0), 3)), (9, ((26, 2, 0), 1)), (10, ((16, 0, 8), 2)), (12, ((120, 0, 0), 1)), (13, ((42, 0, 0), 1)), (14, ((26, 1, 0), 1)), (15, ((26, 3, 0), 1)), (16, ((96, 0, 0), 1)), (17, ((182, 25, 0), 3)), (20, ((17, 0, 255), 3)), (23, ((126, 0, 0), 1)), (24, ((128, 0, 0), 1)), (25, ((59, 2, 0), 1)), (26, ((132, 3, 1), 3)), (29, ((167, 4, 0), 3)), (32, ((26, 2, 0), 1)), (33, ((172, 0, 0), 1))]
set_option maxRecDepth 20000 in
theorem tX1_number_ok : xtok cX1_number tX1_number := by unfold xtok; decide +kernel
abbrev mX1_number : xM := (yX1_number, cX1_number, 4, (some .int), tX1_number)
def tX1_sum : List (Nat × xE) := [(0, ((26, 1, 0), 1)), (1, ((59, 3, 0), 1)), (2, ((2, 0, 0), 1)), (3, ((54, 4, 0), 2)), (5, ((21, 4, 0), 2)), (7, ((26, 2, 0), 1)), (8, ((162, 39, 0), 3)), (11, ((26, 3, 0), 1)), (12, ((42, 0, 0), 1)), (13, ((21, 4, 0), 2)), (15, ((182, 25, 0), 3)), (18, ((130, 0, 0), 1)), (19, ((59, 3, 0), 1)), (20, ((26, 3, 0), 1)), (21, ((16, 0, 11), 2)), (23, ((120, 0, 0), 1)), (24, ((26, 3, 0), 1)), (25, ((16, 0, 21), 2)), (27, ((124, 0, 0), 1)), (28, ((128, 0, 0), 1)), (29, ((18, 33, 16777619), 2)), (31, ((104, 0, 0), 1)), (32, ((59, 3, 0), 1)), (33, ((132, 4, 1), 3)), (36, ((167, 5, 0), 3)), (39, ((26, 3, 0), 1)), (40, ((172, 0, 0), 1))]
set_option maxRecDepth 20000 in
theorem tX1_sum_ok : xtok cX1_sum tX1_sum := by unfold xtok; decide +kernel
abbrev mX1_sum : xM := (yX1_sum, cX1_sum, 5, (some .int), tX1_sum)
def tX1_xor : List (Nat × xE) := [(0, ((42, 0, 0), 1)), (1, ((26, 1, 0), 1)), (2, ((182, 34, 0), 3)), (5, ((153, 18, 0), 3)), (8, ((42, 0, 0), 1)), (9, ((180, 15, 0), 3)), (12, ((26, 1, 0), 1)), (13, ((92, 0, 0), 1)), (14, ((46, 0, 0), 1)), (15, ((26, 2, 0), 1)), (16, ((130, 0, 0), 1)), (17, ((79, 0, 0), 1)), (18, ((177, 0, 0), 1))]
set_option maxRecDepth 20000 in
theorem tX1_xor_ok : xtok cX1_xor tX1_xor := by unfold xtok; decide +kernel
abbrev mX1_xor : xM := (yX1_xor, cX1_xor, 3, none, tX1_xor)
def tX1_keepFirst : List (Nat × xE) := [(0, ((26, 1, 0), 1)), (1, ((155, 17, 0), 3)), (4, ((26, 1, 0), 1)), (5, ((42, 0, 0), 1)), (6, ((180, 21, 0), 3)), (9, ((162, 17, 0), 3)), (12, ((42, 0, 0), 1)), (13, ((26, 1, 0), 1)), (14, ((181, 21, 0), 3)), (17, ((177, 0, 0), 1))]
set_option maxRecDepth 20000 in
theorem tX1_keepFirst_ok : xtok cX1_keepFirst tX1_keepFirst := by unfold xtok; decide +kernel
abbrev mX1_keepFirst : xM := (yX1_keepFirst, cX1_keepFirst, 2, none, tX1_keepFirst)
def tX1_part : List (Nat × xE) := [(0, ((187, 16, 0), 3)), (3, ((89, 0, 0), 1)), (4, ((26, 2, 0), 1)), (5, ((26, 1, 0), 1)), (6, ((100, 0, 0), 1)), (7, ((183, 38, 0), 3)), (10, ((75, 3, 0), 1)), (11, ((42, 3, 0), 1)), (12, ((42, 0, 0), 1)), (13, ((26, 1, 0), 1)), (14, ((26, 2, 0), 1)), (15, ((182, 40, 0), 3)), (18, ((42, 3, 0), 1)), (19, ((176, 0, 0), 1))]
set_option maxRecDepth 20000 in
theorem tX1_part_ok : xtok cX1_part tX1_part := by unfold xtok; decide +kernel
abbrev mX1_part : xM := (yX1_part, cX1_part, 4, (some (.object "PackPost$ByteRow")), tX1_part)
def tX2_init : List (Nat × xE) := [(0, ((42, 0, 0), 1)), (1, ((183, 3, 0), 3)), (4, ((42, 0, 0), 1)), (5, ((2, 0, 4), 1)), (6, ((188, 10, 0), 2)), (8, ((181, 9, 0), 3)), (11, ((42, 0, 0), 1)), (12, ((2, 0, 4), 1)), (13, ((188, 10, 0), 2)), (15, ((181, 15, 0), 3)), (18, ((42, 0, 0), 1)), (19, ((2, 0, 4), 1)), (20, ((188, 4, 0), 2)), (22, ((181, 18, 0), 3)), (25, ((42, 0, 0), 1)), (26, ((2, 0, 4), 1)), (27, ((188, 10, 0), 2)), (29, ((181, 22, 0), 3)), (32, ((42, 0, 0), 1)), (33, ((16, 0, 8), 2)), (35, ((188, 10, 0), 2)), (37, ((181, 25, 0), 3)), (40, ((42, 0, 0), 1)), (41, ((16, 0, 8), 2)), (43, ((188, 10, 0), 2)), (45, ((181, 28, 0), 3)), (48, ((42, 0, 0), 1)), (49, ((16, 0, 8), 2)), (51, ((188, 10, 0), 2)), (53, ((181, 31, 0), 3)), (56, ((42, 0, 0), 1)), (57, ((16, 0, 8), 2)), (59, ((16, 0, 120), 2)), (61, ((197, 34, 0), 4)), (65, ((181, 36, 0), 3)), (68, ((177, 0, 0), 1))]
set_option maxRecDepth 20000 in
theorem tX2_init_ok : xtok cX2_init tX2_init := by unfold xtok; decide +kernel
abbrev mX2_init : xM := (yX2_init, cX2_init, 1, none, tX2_init)
def tX2_begin : List (Nat × xE) := [(0, ((42, 0, 0), 1)), (1, ((2, 0, 0), 1)), (2, ((181, 39, 0), 3)), (5, ((42, 0, 0), 1)), (6, ((2, 0, 0), 1)), (7, ((181, 43, 0), 3)), (10, ((42, 0, 0), 1)), (11, ((2, 0, 0), 1)), (12, ((181, 47, 0), 3)), (15, ((42, 0, 0), 1)), (16, ((2, 0, 0), 1)), (17, ((181, 50, 0), 3)), (20, ((177, 0, 0), 1))]
set_option maxRecDepth 20000 in
theorem tX2_begin_ok : xtok cX2_begin tX2_begin := by unfold xtok; decide +kernel
abbrev mX2_begin : xM := (yX2_begin, cX2_begin, 1, none, tX2_begin)
def tX2_title : List (Nat × xE) := [(0, ((42, 0, 0), 1)), (1, ((26, 1, 0), 1)), (2, ((181, 53, 0), 3)), (5, ((42, 0, 0), 1)), (6, ((26, 2, 0), 1)), (7, ((181, 56, 0), 3)), (10, ((42, 0, 0), 1)), (11, ((26, 3, 0), 1)), (12, ((181, 59, 0), 3)), (15, ((177, 0, 0), 1))]
set_option maxRecDepth 20000 in
theorem tX2_title_ok : xtok cX2_title tX2_title := by unfold xtok; decide +kernel
abbrev mX2_title : xM := (yX2_title, cX2_title, 4, none, tX2_title)
def tX2_needsName : List (Nat × xE) := [(0, ((2, 0, 0), 1)), (1, ((59, 2, 0), 1)), (2, ((26, 2, 0), 1)), (3, ((42, 0, 0), 1)), (4, ((180, 43, 0), 3)), (7, ((162, 28, 0), 3)), (10, ((42, 0, 0), 1)), (11, ((180, 9, 0), 3)), (14, ((26, 2, 0), 1)), (15, ((46, 0, 0), 1)), (16, ((26, 1, 0), 1)), (17, ((160, 22, 0), 3)), (20, ((2, 0, 1), 1)), (21, ((172, 0, 0), 1)), (22, ((132, 2, 1), 3)), (25, ((167, 2, 0), 3)), (28, ((2, 0, 0), 1)), (29, ((172, 0, 0), 1))]
set_option maxRecDepth 20000 in
theorem tX2_needsName_ok : xtok cX2_needsName tX2_needsName := by unfold xtok; decide +kernel
abbrev mX2_needsName : xM := (yX2_needsName, cX2_needsName, 3, (some .boolean), tX2_needsName)
def tX2_putNeed : List (Nat × xE) := [(0, ((42, 0, 0), 1)), (1, ((180, 43, 0), 3)), (4, ((2, 0, 4), 1)), (5, ((162, 48, 0), 3)), (8, ((42, 0, 0), 1)), (9, ((180, 9, 0), 3)), (12, ((42, 0, 0), 1)), (13, ((180, 43, 0), 3)), (16, ((26, 1, 0), 1)), (17, ((79, 0, 0), 1)), (18, ((42, 0, 0), 1)), (19, ((180, 15, 0), 3)), (22, ((42, 0, 0), 1)), (23, ((180, 43, 0), 3)), (26, ((26, 2, 0), 1)), (27, ((79, 0, 0), 1)), (28, ((42, 0, 0), 1)), (29, ((180, 18, 0), 3)), (32, ((42, 0, 0), 1)), (33, ((180, 43, 0), 3)), (36, ((26, 3, 0), 1)), (37, ((84, 0, 0), 1)), (38, ((42, 0, 0), 1)), (39, ((89, 0, 0), 1)), (40, ((180, 43, 0), 3)), (43, ((2, 0, 1), 1)), (44, ((96, 0, 0), 1)), (45, ((181, 43, 0), 3)), (48, ((177, 0, 0), 1))]
set_option maxRecDepth 20000 in
theorem tX2_putNeed_ok : xtok cX2_putNeed tX2_putNeed := by unfold xtok; decide +kernel
abbrev mX2_putNeed : xM := (yX2_putNeed, cX2_putNeed, 4, none, tX2_putNeed)
def tX2_sealsGroup : List (Nat × xE) := [(0, ((2, 0, 0), 1)), (1, ((59, 2, 0), 1)), (2, ((26, 2, 0), 1)), (3, ((42, 0, 0), 1)), (4, ((180, 47, 0), 3)), (7, ((162, 28, 0), 3)), (10, ((42, 0, 0), 1)), (11, ((180, 22, 0), 3)), (14, ((26, 2, 0), 1)), (15, ((46, 0, 0), 1)), (16, ((26, 1, 0), 1)), (17, ((160, 22, 0), 3)), (20, ((2, 0, 1), 1)), (21, ((172, 0, 0), 1)), (22, ((132, 2, 1), 3)), (25, ((167, 2, 0), 3)), (28, ((2, 0, 0), 1)), (29, ((172, 0, 0), 1))]
set_option maxRecDepth 20000 in
theorem tX2_sealsGroup_ok : xtok cX2_sealsGroup tX2_sealsGroup := by unfold xtok; decide +kernel
abbrev mX2_sealsGroup : xM := (yX2_sealsGroup, cX2_sealsGroup, 3, (some .boolean), tX2_sealsGroup)
def tX2_putSeal : List (Nat × xE) := [(0, ((42, 0, 0), 1)), (1, ((180, 47, 0), 3)), (4, ((2, 0, 4), 1)), (5, ((162, 28, 0), 3)), (8, ((42, 0, 0), 1)), (9, ((180, 22, 0), 3)), (12, ((42, 0, 0), 1)), (13, ((180, 47, 0), 3)), (16, ((26, 1, 0), 1)), (17, ((79, 0, 0), 1)), (18, ((42, 0, 0), 1)), (19, ((89, 0, 0), 1)), (20, ((180, 47, 0), 3)), (23, ((2, 0, 1), 1)), (24, ((96, 0, 0), 1)), (25, ((181, 47, 0), 3)), (28, ((177, 0, 0), 1))]
set_option maxRecDepth 20000 in
theorem tX2_putSeal_ok : xtok cX2_putSeal tX2_putSeal := by unfold xtok; decide +kernel
abbrev mX2_putSeal : xM := (yX2_putSeal, cX2_putSeal, 2, none, tX2_putSeal)
def tX2_rowOf : List (Nat × xE) := [(0, ((2, 0, 0), 1)), (1, ((59, 2, 0), 1)), (2, ((26, 2, 0), 1)), (3, ((42, 0, 0), 1)), (4, ((180, 50, 0), 3)), (7, ((162, 28, 0), 3)), (10, ((42, 0, 0), 1)), (11, ((180, 25, 0), 3)), (14, ((26, 2, 0), 1)), (15, ((46, 0, 0), 1)), (16, ((26, 1, 0), 1)), (17, ((160, 22, 0), 3)), (20, ((26, 2, 0), 1)), (21, ((172, 0, 0), 1)), (22, ((132, 2, 1), 3)), (25, ((167, 2, 0), 3)), (28, ((2, 0, (-1)), 1)), (29, ((172, 0, 0), 1))]
set_option maxRecDepth 20000 in
theorem tX2_rowOf_ok : xtok cX2_rowOf tX2_rowOf := by unfold xtok; decide +kernel
abbrev mX2_rowOf : xM := (yX2_rowOf, cX2_rowOf, 3, (some .int), tX2_rowOf)
def tX2_hasRowOfGroup : List (Nat × xE) := [(0, ((2, 0, 0), 1)), (1, ((59, 2, 0), 1)), (2, ((26, 2, 0), 1)), (3, ((42, 0, 0), 1)), (4, ((180, 50, 0), 3)), (7, ((162, 31, 0), 3)), (10, ((42, 0, 0), 1)), (11, ((180, 25, 0), 3)), (14, ((26, 2, 0), 1)), (15, ((46, 0, 0), 1)), (16, ((16, 0, 16), 2)), (18, ((108, 0, 0), 1)), (19, ((26, 1, 0), 1)), (20, ((160, 25, 0), 3)), (23, ((2, 0, 1), 1)), (24, ((172, 0, 0), 1)), (25, ((132, 2, 1), 3)), (28, ((167, 2, 0), 3)), (31, ((2, 0, 0), 1)), (32, ((172, 0, 0), 1))]
set_option maxRecDepth 20000 in
theorem tX2_hasRowOfGroup_ok : xtok cX2_hasRowOfGroup tX2_hasRowOfGroup := by unfold xtok; decide +kernel
abbrev mX2_hasRowOfGroup : xM := (yX2_hasRowOfGroup, cX2_hasRowOfGroup, 3, (some .boolean), tX2_hasRowOfGroup)
def tX2_putRow : List (Nat × xE) := [(0, ((42, 0, 0), 1)), (1, ((180, 50, 0), 3)), (4, ((16, 0, 8), 2)), (6, ((162, 49, 0), 3)), (9, ((42, 0, 0), 1)), (10, ((180, 25, 0), 3)), (13, ((42, 0, 0), 1)), (14, ((180, 50, 0), 3)), (17, ((26, 1, 0), 1)), (18, ((79, 0, 0), 1)), (19, ((42, 0, 0), 1)), (20, ((180, 28, 0), 3)), (23, ((42, 0, 0), 1)), (24, ((180, 50, 0), 3)), (27, ((26, 2, 0), 1)), (28, ((79, 0, 0), 1)), (29, ((42, 0, 0), 1)), (30, ((180, 31, 0), 3)), (33, ((42, 0, 0), 1)), (34, ((180, 50, 0), 3)), (37, ((2, 0, 0), 1)), (38, ((79, 0, 0), 1)), (39, ((42, 0, 0), 1)), (40, ((89, 0, 0), 1)), (41, ((180, 50, 0), 3)), (44, ((2, 0, 1), 1)), (45, ((96, 0, 0), 1)), (46, ((181, 50, 0), 3)), (49, ((177, 0, 0), 1))]
set_option maxRecDepth 20000 in
theorem tX2_putRow_ok : xtok cX2_putRow tX2_putRow := by unfold xtok; decide +kernel
abbrev mX2_putRow : xM := (yX2_putRow, cX2_putRow, 3, none, tX2_putRow)
def tX2_pageLength : List (Nat × xE) := [(0, ((26, 1, 0), 1)), (1, ((42, 0, 0), 1)), (2, ((180, 50, 0), 3)), (5, ((184, 62, 0), 3)), (8, ((153, 20, 0), 3)), (11, ((42, 0, 0), 1)), (12, ((180, 31, 0), 3)), (15, ((26, 1, 0), 1)), (16, ((46, 0, 0), 1)), (17, ((167, 21, 0), 3)), (20, ((2, 0, 0), 1)), (21, ((172, 0, 0), 1))]
set_option maxRecDepth 20000 in
theorem tX2_pageLength_ok : xtok cX2_pageLength tX2_pageLength := by unfold xtok; decide +kernel
abbrev mX2_pageLength : xM := (yX2_pageLength, cX2_pageLength, 2, (some .int), tX2_pageLength)
def tX2_byteAt : List (Nat × xE) := [(0, ((26, 1, 0), 1)), (1, ((155, 16, 0), 3)), (4, ((26, 1, 0), 1)), (5, ((42, 0, 0), 1)), (6, ((180, 50, 0), 3)), (9, ((162, 16, 0), 3)), (12, ((2, 0, 1), 1)), (13, ((167, 17, 0), 3)), (16, ((2, 0, 0), 1)), (17, ((59, 3, 0), 1)), (18, ((26, 3, 0), 1)), (19, ((153, 47, 0), 3)), (22, ((26, 2, 0), 1)), (23, ((155, 47, 0), 3)), (26, ((26, 2, 0), 1)), (27, ((42, 0, 0), 1)), (28, ((180, 31, 0), 3)), (31, ((26, 1, 0), 1)), (32, ((46, 0, 0), 1)), (33, ((162, 47, 0), 3)), (36, ((42, 0, 0), 1)), (37, ((180, 36, 0), 3)), (40, ((26, 1, 0), 1)), (41, ((50, 0, 0), 1)), (42, ((26, 2, 0), 1)), (43, ((46, 0, 0), 1)), (44, ((167, 48, 0), 3)), (47, ((2, 0, (-1)), 1)), (48, ((172, 0, 0), 1))]
set_option maxRecDepth 20000 in
theorem tX2_byteAt_ok : xtok cX2_byteAt tX2_byteAt := by unfold xtok; decide +kernel
abbrev mX2_byteAt : xM := (yX2_byteAt, cX2_byteAt, 4, (some .int), tX2_byteAt)
def tX2_putByte : List (Nat × xE) := [(0, ((26, 1, 0), 1)), (1, ((42, 0, 0), 1)), (2, ((180, 50, 0), 3)), (5, ((184, 62, 0), 3)), (8, ((153, 46, 0), 3)), (11, ((42, 0, 0), 1)), (12, ((180, 31, 0), 3)), (15, ((26, 1, 0), 1)), (16, ((46, 0, 0), 1)), (17, ((16, 0, 120), 2)), (19, ((162, 46, 0), 3)), (22, ((42, 0, 0), 1)), (23, ((180, 36, 0), 3)), (26, ((26, 1, 0), 1)), (27, ((50, 0, 0), 1)), (28, ((42, 0, 0), 1)), (29, ((180, 31, 0), 3)), (32, ((26, 1, 0), 1)), (33, ((46, 0, 0), 1)), (34, ((26, 2, 0), 1)), (35, ((79, 0, 0), 1)), (36, ((42, 0, 0), 1)), (37, ((180, 31, 0), 3)), (40, ((26, 1, 0), 1)), (41, ((92, 0, 0), 1)), (42, ((46, 0, 0), 1)), (43, ((2, 0, 1), 1)), (44, ((96, 0, 0), 1)), (45, ((79, 0, 0), 1)), (46, ((177, 0, 0), 1))]
set_option maxRecDepth 20000 in
theorem tX2_putByte_ok : xtok cX2_putByte tX2_putByte := by unfold xtok; decide +kernel
abbrev mX2_putByte : xM := (yX2_putByte, cX2_putByte, 3, none, tX2_putByte)
def tX2_putCopies : List (Nat × xE) := [(0, ((2, 0, 0), 1)), (1, ((54, 4, 0), 2)), (3, ((21, 4, 0), 2)), (5, ((26, 3, 0), 1)), (6, ((162, 32, 0), 3)), (9, ((42, 0, 0), 1)), (10, ((26, 1, 0), 1)), (11, ((42, 0, 0), 1)), (12, ((26, 1, 0), 1)), (13, ((42, 0, 0), 1)), (14, ((26, 1, 0), 1)), (15, ((182, 66, 0), 3)), (18, ((26, 2, 0), 1)), (19, ((100, 0, 0), 1)), (20, ((182, 70, 0), 3)), (23, ((182, 74, 0), 3)), (26, ((132, 4, 1), 3)), (29, ((167, 3, 0), 3)), (32, ((177, 0, 0), 1))]
set_option maxRecDepth 20000 in
theorem tX2_putCopies_ok : xtok cX2_putCopies tX2_putCopies := by unfold xtok; decide +kernel
abbrev mX2_putCopies : xM := (yX2_putCopies, cX2_putCopies, 5, none, tX2_putCopies)
def tX2_putLike : List (Nat × xE) := [(0, ((2, 0, 0), 1)), (1, ((54, 4, 0), 2)), (3, ((21, 4, 0), 2)), (5, ((26, 3, 0), 1)), (6, ((162, 21, 0), 3)), (9, ((42, 0, 0), 1)), (10, ((26, 1, 0), 1)), (11, ((26, 2, 0), 1)), (12, ((182, 74, 0), 3)), (15, ((132, 4, 1), 3)), (18, ((167, 3, 0), 3)), (21, ((177, 0, 0), 1))]
set_option maxRecDepth 20000 in
theorem tX2_putLike_ok : xtok cX2_putLike tX2_putLike := by unfold xtok; decide +kernel
abbrev mX2_putLike : xM := (yX2_putLike, cX2_putLike, 5, none, tX2_putLike)
def tX3_init : List (Nat × xE) := [(0, ((42, 0, 0), 1)), (1, ((183, 3, 0), 3)), (4, ((42, 0, 0), 1)), (5, ((2, 0, 4), 1)), (6, ((188, 10, 0), 2)), (8, ((181, 9, 0), 3)), (11, ((42, 0, 0), 1)), (12, ((42, 1, 0), 1)), (13, ((181, 15, 0), 3)), (16, ((42, 0, 0), 1)), (17, ((42, 2, 0), 1)), (18, ((181, 19, 0), 3)), (21, ((42, 0, 0), 1)), (22, ((26, 3, 0), 1)), (23, ((181, 22, 0), 3)), (26, ((177, 0, 0), 1))]
set_option maxRecDepth 20000 in
theorem tX3_init_ok : xtok cX3_init tX3_init := by unfold xtok; decide +kernel
abbrev mX3_init : xM := (yX3_init, cX3_init, 4, none, tX3_init)
def tX3_meeting : List (Nat × xE) := [(0, ((26, 1, 0), 1)), (1, ((155, 33, 0), 3)), (4, ((26, 1, 0), 1)), (5, ((42, 0, 0), 1)), (6, ((180, 15, 0), 3)), (9, ((180, 26, 0), 3)), (12, ((162, 33, 0), 3)), (15, ((26, 1, 0), 1)), (16, ((42, 0, 0), 1)), (17, ((180, 19, 0), 3)), (20, ((190, 0, 0), 1)), (21, ((162, 33, 0), 3)), (24, ((42, 0, 0), 1)), (25, ((180, 19, 0), 3)), (28, ((26, 1, 0), 1)), (29, ((46, 0, 0), 1)), (30, ((167, 34, 0), 3)), (33, ((2, 0, (-1)), 1)), (34, ((172, 0, 0), 1))]
set_option maxRecDepth 20000 in
theorem tX3_meeting_ok : xtok cX3_meeting tX3_meeting := by unfold xtok; decide +kernel
abbrev mX3_meeting : xM := (yX3_meeting, cX3_meeting, 2, (some .int), tX3_meeting)
def tX3_leansOn : List (Nat × xE) := [(0, ((2, 0, 0), 1)), (1, ((59, 2, 0), 1)), (2, ((26, 2, 0), 1)), (3, ((42, 0, 0), 1)), (4, ((180, 15, 0), 3)), (7, ((180, 26, 0), 3)), (10, ((162, 30, 0), 3)), (13, ((42, 0, 0), 1)), (14, ((26, 2, 0), 1)), (15, ((182, 31, 0), 3)), (18, ((26, 1, 0), 1)), (19, ((160, 24, 0), 3)), (22, ((2, 0, 1), 1)), (23, ((172, 0, 0), 1)), (24, ((132, 2, 1), 3)), (27, ((167, 2, 0), 3)), (30, ((2, 0, 0), 1)), (31, ((172, 0, 0), 1))]
set_option maxRecDepth 20000 in
theorem tX3_leansOn_ok : xtok cX3_leansOn tX3_leansOn := by unfold xtok; decide +kernel
abbrev mX3_leansOn : xM := (yX3_leansOn, cX3_leansOn, 3, (some .boolean), tX3_leansOn)
def tX3_hasOverlay : List (Nat × xE) := [(0, ((2, 0, 0), 1)), (1, ((59, 2, 0), 1)), (2, ((26, 2, 0), 1)), (3, ((42, 0, 0), 1)), (4, ((180, 35, 0), 3)), (7, ((162, 28, 0), 3)), (10, ((42, 0, 0), 1)), (11, ((180, 9, 0), 3)), (14, ((26, 2, 0), 1)), (15, ((46, 0, 0), 1)), (16, ((26, 1, 0), 1)), (17, ((160, 22, 0), 3)), (20, ((2, 0, 1), 1)), (21, ((172, 0, 0), 1)), (22, ((132, 2, 1), 3)), (25, ((167, 2, 0), 3)), (28, ((2, 0, 0), 1)), (29, ((172, 0, 0), 1))]
set_option maxRecDepth 20000 in
theorem tX3_hasOverlay_ok : xtok cX3_hasOverlay tX3_hasOverlay := by unfold xtok; decide +kernel
abbrev mX3_hasOverlay : xM := (yX3_hasOverlay, cX3_hasOverlay, 3, (some .boolean), tX3_hasOverlay)
def tX3_putOverlay : List (Nat × xE) := [(0, ((42, 0, 0), 1)), (1, ((180, 35, 0), 3)), (4, ((2, 0, 4), 1)), (5, ((162, 28, 0), 3)), (8, ((42, 0, 0), 1)), (9, ((180, 9, 0), 3)), (12, ((42, 0, 0), 1)), (13, ((180, 35, 0), 3)), (16, ((26, 1, 0), 1)), (17, ((79, 0, 0), 1)), (18, ((42, 0, 0), 1)), (19, ((89, 0, 0), 1)), (20, ((180, 35, 0), 3)), (23, ((2, 0, 1), 1)), (24, ((96, 0, 0), 1)), (25, ((181, 35, 0), 3)), (28, ((177, 0, 0), 1))]
set_option maxRecDepth 20000 in
theorem tX3_putOverlay_ok : xtok cX3_putOverlay tX3_putOverlay := by unfold xtok; decide +kernel
abbrev mX3_putOverlay : xM := (yX3_putOverlay, cX3_putOverlay, 2, none, tX3_putOverlay)
def tX3_hasRowOf : List (Nat × xE) := [(0, ((42, 0, 0), 1)), (1, ((180, 15, 0), 3)), (4, ((26, 1, 0), 1)), (5, ((182, 38, 0), 3)), (8, ((155, 15, 0), 3)), (11, ((2, 0, 1), 1)), (12, ((167, 16, 0), 3)), (15, ((2, 0, 0), 1)), (16, ((172, 0, 0), 1))]
set_option maxRecDepth 20000 in
theorem tX3_hasRowOf_ok : xtok cX3_hasRowOf tX3_hasRowOf := by unfold xtok; decide +kernel
abbrev mX3_hasRowOf : xM := (yX3_hasRowOf, cX3_hasRowOf, 2, (some .boolean), tX3_hasRowOf)
def tX4_init : List (Nat × xE) := [(0, ((42, 0, 0), 1)), (1, ((183, 3, 0), 3)), (4, ((42, 0, 0), 1)), (5, ((16, 0, 12), 2)), (7, ((188, 4, 0), 2)), (9, ((181, 9, 0), 3)), (12, ((42, 0, 0), 1)), (13, ((16, 0, 12), 2)), (15, ((188, 10, 0), 2)), (17, ((181, 15, 0), 3)), (20, ((177, 0, 0), 1))]
set_option maxRecDepth 20000 in
theorem tX4_init_ok : xtok cX4_init tX4_init := by unfold xtok; decide +kernel
abbrev mX4_init : xM := (yX4_init, cX4_init, 1, none, tX4_init)
def tX4_from : List (Nat × xE) := [(0, ((2, 0, 0), 1)), (1, ((54, 4, 0), 2)), (3, ((21, 4, 0), 2)), (5, ((16, 0, 12), 2)), (7, ((162, 24, 0), 3)), (10, ((42, 0, 0), 1)), (11, ((180, 9, 0), 3)), (14, ((21, 4, 0), 2)), (16, ((2, 0, 0), 1)), (17, ((84, 0, 0), 1)), (18, ((132, 4, 1), 3)), (21, ((167, 3, 0), 3)), (24, ((42, 0, 0), 1)), (25, ((2, 0, 0), 1)), (26, ((181, 19, 0), 3)), (29, ((42, 0, 0), 1)), (30, ((42, 1, 0), 1)), (31, ((26, 2, 0), 1)), (32, ((26, 3, 0), 1)), (33, ((2, 0, 0), 1)), (34, ((182, 23, 0), 3)), (37, ((172, 0, 0), 1))]
set_option maxRecDepth 20000 in
theorem tX4_from_ok : xtok cX4_from tX4_from := by unfold xtok; decide +kernel
abbrev mX4_from : xM := (yX4_from, cX4_from, 5, (some .int), tX4_from)
def tX4_step : List (Nat × xE) := [(0, ((26, 1, 0), 1)), (1, ((42, 0, 0), 1)), (2, ((180, 19, 0), 3)), (5, ((184, 27, 0), 3)), (8, ((153, 20, 0), 3)), (11, ((42, 0, 0), 1)), (12, ((180, 15, 0), 3)), (15, ((26, 1, 0), 1)), (16, ((46, 0, 0), 1)), (17, ((167, 21, 0), 3)), (20, ((2, 0, (-1)), 1)), (21, ((172, 0, 0), 1))]
set_option maxRecDepth 20000 in
theorem tX4_step_ok : xtok cX4_step tX4_step := by unfold xtok; decide +kernel
abbrev mX4_step : xM := (yX4_step, cX4_step, 2, (some .int), tX4_step)
def tX4_ask : List (Nat × xE) := [(0, ((42, 1, 0), 1)), (1, ((26, 2, 0), 1)), (2, ((182, 31, 0), 3)), (5, ((58, 5, 0), 2)), (7, ((25, 5, 0), 2)), (9, ((198, 37, 0), 3)), (12, ((21, 4, 0), 2)), (14, ((16, 0, 12), 2)), (16, ((162, 37, 0), 3)), (19, ((26, 2, 0), 1)), (20, ((16, 0, 12), 2)), (22, ((184, 27, 0), 3)), (25, ((153, 37, 0), 3)), (28, ((42, 0, 0), 1)), (29, ((180, 9, 0), 3)), (32, ((26, 2, 0), 1)), (33, ((51, 0, 0), 1)), (34, ((153, 39, 0), 3)), (37, ((2, 0, (-1)), 1)), (38, ((172, 0, 0), 1)), (39, ((21, 4, 0), 2)), (41, ((158, 54, 0), 3)), (44, ((25, 5, 0), 2)), (46, ((180, 37, 0), 3)), (49, ((153, 54, 0), 3)), (52, ((2, 0, (-1)), 1)), (53, ((172, 0, 0), 1)), (54, ((42, 0, 0), 1)), (55, ((180, 9, 0), 3)), (58, ((26, 2, 0), 1)), (59, ((2, 0, 1), 1)), (60, ((84, 0, 0), 1)), (61, ((25, 5, 0), 2)), (63, ((180, 43, 0), 3)), (66, ((180, 47, 0), 3)), (69, ((2, 0, 1), 1)), (70, ((160, 77, 0), 3)), (73, ((2, 0, 1), 1)), (74, ((167, 78, 0), 3)), (77, ((2, 0, 0), 1)), (78, ((54, 6, 0), 2)), (80, ((21, 6, 0), 2)), (82, ((154, 98, 0), 3)), (85, ((42, 0, 0), 1)), (86, ((25, 5, 0), 2)), (88, ((26, 2, 0), 1)), (89, ((26, 3, 0), 1)), (90, ((182, 52, 0), 3)), (93, ((153, 98, 0), 3)), (96, ((26, 2, 0), 1)), (97, ((172, 0, 0), 1)), (98, ((2, 0, 0), 1)), (99, ((54, 7, 0), 2)), (101, ((21, 7, 0), 2)), (103, ((25, 5, 0), 2)), (105, ((180, 43, 0), 3)), (108, ((180, 56, 0), 3)), (111, ((162, 147, 0), 3)), (114, ((42, 0, 0), 1)), (115, ((42, 1, 0), 1)), (116, ((25, 5, 0), 2)), (118, ((21, 7, 0), 2)), (120, ((182, 59, 0), 3)), (123, ((26, 3, 0), 1)), (124, ((21, 4, 0), 2)), (126, ((2, 0, 1), 1)), (127, ((96, 0, 0), 1)), (128, ((182, 23, 0), 3)), (131, ((54, 8, 0), 2)), (133, ((21, 8, 0), 2)), (135, ((155, 141, 0), 3)), (138, ((21, 8, 0), 2)), (140, ((172, 0, 0), 1)), (141, ((132, 7, 1), 3)), (144, ((167, 101, 0), 3)), (147, ((21, 6, 0), 2)), (149, ((153, 167, 0), 3)), (152, ((42, 0, 0), 1)), (153, ((25, 5, 0), 2)), (155, ((26, 2, 0), 1)), (156, ((26, 3, 0), 1)), (157, ((182, 52, 0), 3)), (160, ((153, 167, 0), 3)), (163, ((26, 2, 0), 1)), (164, ((167, 168, 0), 3)), (167, ((2, 0, (-1)), 1)), (168, ((172, 0, 0), 1))]
set_option maxRecDepth 20000 in
theorem tX4_ask_ok : xtok cX4_ask tX4_ask := by unfold xtok; decide +kernel
abbrev mX4_ask : xM := (yX4_ask, cX4_ask, 9, (some .int), tX4_ask)
def tX4_looksInto : List (Nat × xE) := [(0, ((42, 0, 0), 1)), (1, ((180, 19, 0), 3)), (4, ((16, 0, 12), 2)), (6, ((162, 29, 0), 3)), (9, ((42, 0, 0), 1)), (10, ((180, 15, 0), 3)), (13, ((42, 0, 0), 1)), (14, ((180, 19, 0), 3)), (17, ((26, 2, 0), 1)), (18, ((79, 0, 0), 1)), (19, ((42, 0, 0), 1)), (20, ((89, 0, 0), 1)), (21, ((180, 19, 0), 3)), (24, ((2, 0, 1), 1)), (25, ((96, 0, 0), 1)), (26, ((181, 19, 0), 3)), (29, ((42, 1, 0), 1)), (30, ((26, 3, 0), 1)), (31, ((182, 63, 0), 3)), (34, ((172, 0, 0), 1))]
set_option maxRecDepth 20000 in
theorem tX4_looksInto_ok : xtok cX4_looksInto tX4_looksInto := by unfold xtok; decide +kernel
abbrev mX4_looksInto : xM := (yX4_looksInto, cX4_looksInto, 4, (some .boolean), tX4_looksInto)
def tX5_init : List (Nat × xE) := [(0, ((42, 0, 0), 1)), (1, ((183, 3, 0), 3)), (4, ((42, 0, 0), 1)), (5, ((16, 0, 8), 2)), (7, ((188, 10, 0), 2)), (9, ((181, 9, 0), 3)), (12, ((42, 0, 0), 1)), (13, ((16, 0, 8), 2)), (15, ((188, 10, 0), 2)), (17, ((181, 15, 0), 3)), (20, ((42, 0, 0), 1)), (21, ((187, 18, 0), 3)), (24, ((89, 0, 0), 1)), (25, ((2, 0, 0), 1)), (26, ((183, 20, 0), 3)), (29, ((181, 23, 0), 3)), (32, ((42, 0, 0), 1)), (33, ((187, 27, 0), 3)), (36, ((89, 0, 0), 1)), (37, ((183, 29, 0), 3)), (40, ((181, 30, 0), 3)), (43, ((177, 0, 0), 1))]
set_option maxRecDepth 20000 in
theorem tX5_init_ok : xtok cX5_init tX5_init := by unfold xtok; decide +kernel
abbrev mX5_init : xM := (yX5_init, cX5_init, 1, none, tX5_init)
def tX5_wrongPlace : List (Nat × xE) := [(0, ((42, 0, 0), 1)), (1, ((42, 1, 0), 1)), (2, ((181, 23, 0), 3)), (5, ((42, 0, 0), 1)), (6, ((2, 0, 0), 1)), (7, ((181, 34, 0), 3)), (10, ((42, 0, 0), 1)), (11, ((2, 0, (-1)), 1)), (12, ((181, 38, 0), 3)), (15, ((42, 0, 0), 1)), (16, ((180, 30, 0), 3)), (19, ((182, 41, 0), 3)), (22, ((42, 0, 0), 1)), (23, ((182, 44, 0), 3)), (26, ((42, 0, 0), 1)), (27, ((182, 47, 0), 3)), (30, ((42, 0, 0), 1)), (31, ((182, 50, 0), 3)), (34, ((42, 0, 0), 1)), (35, ((182, 53, 0), 3)), (38, ((42, 0, 0), 1)), (39, ((182, 56, 0), 3)), (42, ((42, 0, 0), 1)), (43, ((182, 59, 0), 3)), (46, ((42, 0, 0), 1)), (47, ((180, 38, 0), 3)), (50, ((172, 0, 0), 1))]
set_option maxRecDepth 20000 in
theorem tX5_wrongPlace_ok : xtok cX5_wrongPlace tX5_wrongPlace := by unfold xtok; decide +kernel
abbrev mX5_wrongPlace : xM := (yX5_wrongPlace, cX5_wrongPlace, 2, (some .int), tX5_wrongPlace)
def tX5_isSignedBy : List (Nat × xE) := [(0, ((42, 0, 0), 1)), (1, ((180, 23, 0), 3)), (4, ((180, 62, 0), 3)), (7, ((2, 0, 4), 1)), (8, ((100, 0, 0), 1)), (9, ((59, 2, 0), 1)), (10, ((42, 0, 0), 1)), (11, ((180, 30, 0), 3)), (14, ((180, 65, 0), 3)), (17, ((153, 44, 0), 3)), (20, ((42, 0, 0), 1)), (21, ((180, 23, 0), 3)), (24, ((26, 2, 0), 1)), (25, ((182, 69, 0), 3)), (28, ((42, 0, 0), 1)), (29, ((180, 23, 0), 3)), (32, ((26, 1, 0), 1)), (33, ((26, 2, 0), 1)), (34, ((182, 73, 0), 3)), (37, ((160, 44, 0), 3)), (40, ((2, 0, 1), 1)), (41, ((167, 45, 0), 3)), (44, ((2, 0, 0), 1)), (45, ((172, 0, 0), 1))]
set_option maxRecDepth 20000 in
theorem tX5_isSignedBy_ok : xtok cX5_isSignedBy tX5_isSignedBy := by unfold xtok; decide +kernel
abbrev mX5_isSignedBy : xM := (yX5_isSignedBy, cX5_isSignedBy, 3, (some .boolean), tX5_isSignedBy)
def tX5_handOver : List (Nat × xE) := [(0, ((42, 0, 0), 1)), (1, ((180, 30, 0), 3)), (4, ((75, 1, 0), 1)), (5, ((42, 0, 0), 1)), (6, ((187, 27, 0), 3)), (9, ((89, 0, 0), 1)), (10, ((183, 29, 0), 3)), (13, ((181, 30, 0), 3)), (16, ((42, 1, 0), 1)), (17, ((176, 0, 0), 1))]
set_option maxRecDepth 20000 in
theorem tX5_handOver_ok : xtok cX5_handOver tX5_handOver := by unfold xtok; decide +kernel
abbrev mX5_handOver : xM := (yX5_handOver, cX5_handOver, 2, (some (.object "PackPost$Content")), tX5_handOver)
def tX5_next : List (Nat × xE) := [(0, ((42, 0, 0), 1)), (1, ((180, 38, 0), 3)), (4, ((155, 9, 0), 3)), (7, ((26, 1, 0), 1)), (8, ((172, 0, 0), 1)), (9, ((42, 0, 0), 1)), (10, ((180, 23, 0), 3)), (13, ((42, 0, 0), 1)), (14, ((180, 34, 0), 3)), (17, ((182, 77, 0), 3)), (20, ((59, 3, 0), 1)), (21, ((26, 3, 0), 1)), (22, ((2, 0, (-1)), 1)), (23, ((159, 36, 0), 3)), (26, ((26, 3, 0), 1)), (27, ((26, 1, 0), 1)), (28, ((161, 36, 0), 3)), (31, ((26, 3, 0), 1)), (32, ((26, 2, 0), 1)), (33, ((164, 46, 0), 3)), (36, ((42, 0, 0), 1)), (37, ((42, 0, 0), 1)), (38, ((180, 34, 0), 3)), (41, ((181, 38, 0), 3)), (44, ((26, 1, 0), 1)), (45, ((172, 0, 0), 1)), (46, ((42, 0, 0), 1)), (47, ((89, 0, 0), 1)), (48, ((180, 34, 0), 3)), (51, ((2, 0, 1), 1)), (52, ((96, 0, 0), 1)), (53, ((181, 34, 0), 3)), (56, ((26, 3, 0), 1)), (57, ((172, 0, 0), 1))]
set_option maxRecDepth 20000 in
theorem tX5_next_ok : xtok cX5_next tX5_next := by unfold xtok; decide +kernel
abbrev mX5_next : xM := (yX5_next, cX5_next, 4, (some .int), tX5_next)
def tX5_isFine : List (Nat × xE) := [(0, ((42, 0, 0), 1)), (1, ((180, 38, 0), 3)), (4, ((156, 11, 0), 3)), (7, ((2, 0, 1), 1)), (8, ((167, 12, 0), 3)), (11, ((2, 0, 0), 1)), (12, ((172, 0, 0), 1))]
set_option maxRecDepth 20000 in
theorem tX5_isFine_ok : xtok cX5_isFine tX5_isFine := by unfold xtok; decide +kernel
abbrev mX5_isFine : xM := (yX5_isFine, cX5_isFine, 1, (some .boolean), tX5_isFine)
def tX5_refuseAt : List (Nat × xE) := [(0, ((42, 0, 0), 1)), (1, ((182, 80, 0), 3)), (4, ((153, 12, 0), 3)), (7, ((42, 0, 0), 1)), (8, ((26, 1, 0), 1)), (9, ((181, 38, 0), 3)), (12, ((177, 0, 0), 1))]
set_option maxRecDepth 20000 in
theorem tX5_refuseAt_ok : xtok cX5_refuseAt tX5_refuseAt := by unfold xtok; decide +kernel
abbrev mX5_refuseAt : xM := (yX5_refuseAt, cX5_refuseAt, 2, none, tX5_refuseAt)
def tX5_hearTitle : List (Nat × xE) := [(0, ((42, 0, 0), 1)), (1, ((16, 0, 80), 2)), (3, ((16, 0, 80), 2)), (5, ((182, 84, 0), 3)), (8, ((87, 0, 0), 1)), (9, ((42, 0, 0), 1)), (10, ((16, 0, 75), 2)), (12, ((16, 0, 75), 2)), (14, ((182, 84, 0), 3)), (17, ((87, 0, 0), 1)), (18, ((42, 0, 0), 1)), (19, ((2, 0, 0), 1)), (20, ((16, 0, 63), 2)), (22, ((182, 84, 0), 3)), (25, ((59, 1, 0), 1)), (26, ((42, 0, 0), 1)), (27, ((2, 0, 0), 1)), (28, ((16, 0, 99), 2)), (30, ((182, 84, 0), 3)), (33, ((59, 2, 0), 1)), (34, ((42, 0, 0), 1)), (35, ((2, 0, 0), 1)), (36, ((2, 0, 3), 1)), (37, ((182, 84, 0), 3)), (40, ((59, 3, 0), 1)), (41, ((42, 0, 0), 1)), (42, ((180, 30, 0), 3)), (45, ((26, 1, 0), 1)), (46, ((26, 2, 0), 1)), (47, ((26, 3, 0), 1)), (48, ((2, 0, 2), 1)), (49, ((112, 0, 0), 1)), (50, ((182, 87, 0), 3)), (53, ((42, 0, 0), 1)), (54, ((180, 30, 0), 3)), (57, ((26, 3, 0), 1)), (58, ((2, 0, 2), 1)), (59, ((161, 66, 0), 3)), (62, ((2, 0, 1), 1)), (63, ((167, 67, 0), 3)), (66, ((2, 0, 0), 1)), (67, ((181, 65, 0), 3)), (70, ((177, 0, 0), 1))]
set_option maxRecDepth 20000 in
theorem tX5_hearTitle_ok : xtok cX5_hearTitle tX5_hearTitle := by unfold xtok; decide +kernel
abbrev mX5_hearTitle : xM := (yX5_hearTitle, cX5_hearTitle, 4, none, tX5_hearTitle)
def tX5_hearNeeds : List (Nat × xE) := [(0, ((42, 0, 0), 1)), (1, ((2, 0, 0), 1)), (2, ((2, 0, 4), 1)), (3, ((182, 84, 0), 3)), (6, ((59, 1, 0), 1)), (7, ((2, 0, 0), 1)), (8, ((59, 2, 0), 1)), (9, ((26, 2, 0), 1)), (10, ((26, 1, 0), 1)), (11, ((162, 97, 0), 3)), (14, ((42, 0, 0), 1)), (15, ((182, 80, 0), 3)), (18, ((153, 97, 0), 3)), (21, ((42, 0, 0), 1)), (22, ((180, 34, 0), 3)), (25, ((59, 3, 0), 1)), (26, ((42, 0, 0), 1)), (27, ((2, 0, 0), 1)), (28, ((16, 0, 63), 2)), (30, ((182, 84, 0), 3)), (33, ((54, 4, 0), 2)), (35, ((42, 0, 0), 1)), (36, ((180, 30, 0), 3)), (39, ((21, 4, 0), 2)), (41, ((182, 91, 0), 3)), (44, ((153, 52, 0), 3)), (47, ((42, 0, 0), 1)), (48, ((26, 3, 0), 1)), (49, ((182, 95, 0), 3)), (52, ((42, 0, 0), 1)), (53, ((2, 0, 0), 1)), (54, ((16, 0, 99), 2)), (56, ((182, 84, 0), 3)), (59, ((54, 5, 0), 2)), (61, ((42, 0, 0), 1)), (62, ((2, 0, 0), 1)), (63, ((2, 0, 1), 1)), (64, ((182, 84, 0), 3)), (67, ((54, 6, 0), 2)), (69, ((42, 0, 0), 1)), (70, ((180, 30, 0), 3)), (73, ((21, 4, 0), 2)), (75, ((21, 5, 0), 2)), (77, ((21, 6, 0), 2)), (79, ((2, 0, 1), 1)), (80, ((160, 87, 0), 3)), (83, ((2, 0, 1), 1)), (84, ((167, 88, 0), 3)), (87, ((2, 0, 0), 1)), (88, ((182, 98, 0), 3)), (91, ((132, 2, 1), 3)), (94, ((167, 9, 0), 3)), (97, ((177, 0, 0), 1))]
set_option maxRecDepth 20000 in
theorem tX5_hearNeeds_ok : xtok cX5_hearNeeds tX5_hearNeeds := by unfold xtok; decide +kernel
abbrev mX5_hearNeeds : xM := (yX5_hearNeeds, cX5_hearNeeds, 7, none, tX5_hearNeeds)
def tX5_hearSeals : List (Nat × xE) := [(0, ((42, 0, 0), 1)), (1, ((2, 0, 0), 1)), (2, ((2, 0, 4), 1)), (3, ((182, 84, 0), 3)), (6, ((59, 1, 0), 1)), (7, ((2, 0, 0), 1)), (8, ((59, 2, 0), 1)), (9, ((26, 2, 0), 1)), (10, ((26, 1, 0), 1)), (11, ((162, 67, 0), 3)), (14, ((42, 0, 0), 1)), (15, ((182, 80, 0), 3)), (18, ((153, 67, 0), 3)), (21, ((42, 0, 0), 1)), (22, ((180, 34, 0), 3)), (25, ((59, 3, 0), 1)), (26, ((42, 0, 0), 1)), (27, ((2, 0, 0), 1)), (28, ((16, 0, 15), 2)), (30, ((182, 84, 0), 3)), (33, ((54, 4, 0), 2)), (35, ((42, 0, 0), 1)), (36, ((180, 30, 0), 3)), (39, ((21, 4, 0), 2)), (41, ((182, 102, 0), 3)), (44, ((153, 52, 0), 3)), (47, ((42, 0, 0), 1)), (48, ((26, 3, 0), 1)), (49, ((182, 95, 0), 3)), (52, ((42, 0, 0), 1)), (53, ((180, 30, 0), 3)), (56, ((21, 4, 0), 2)), (58, ((182, 105, 0), 3)), (61, ((132, 2, 1), 3)), (64, ((167, 9, 0), 3)), (67, ((177, 0, 0), 1))]
set_option maxRecDepth 20000 in
theorem tX5_hearSeals_ok : xtok cX5_hearSeals tX5_hearSeals := by unfold xtok; decide +kernel
abbrev mX5_hearSeals : xM := (yX5_hearSeals, cX5_hearSeals, 5, none, tX5_hearSeals)
def tX5_hearRows : List (Nat × xE) := [(0, ((42, 0, 0), 1)), (1, ((2, 0, 0), 1)), (2, ((16, 0, 8), 2)), (4, ((182, 84, 0), 3)), (7, ((59, 1, 0), 1)), (8, ((2, 0, 0), 1)), (9, ((59, 2, 0), 1)), (10, ((26, 2, 0), 1)), (11, ((26, 1, 0), 1)), (12, ((162, 104, 0), 3)), (15, ((42, 0, 0), 1)), (16, ((182, 80, 0), 3)), (19, ((153, 104, 0), 3)), (22, ((42, 0, 0), 1)), (23, ((180, 34, 0), 3)), (26, ((59, 3, 0), 1)), (27, ((42, 0, 0), 1)), (28, ((2, 0, 0), 1)), (29, ((17, 0, 255), 3)), (32, ((182, 84, 0), 3)), (35, ((54, 4, 0), 2)), (37, ((42, 0, 0), 1)), (38, ((180, 30, 0), 3)), (41, ((21, 4, 0), 2)), (43, ((182, 108, 0), 3)), (46, ((155, 54, 0), 3)), (49, ((42, 0, 0), 1)), (50, ((26, 3, 0), 1)), (51, ((182, 95, 0), 3)), (54, ((42, 0, 0), 1)), (55, ((2, 0, 0), 1)), (56, ((2, 0, 2), 1)), (57, ((182, 84, 0), 3)), (60, ((54, 5, 0), 2)), (62, ((42, 0, 0), 1)), (63, ((180, 30, 0), 3)), (66, ((21, 4, 0), 2)), (68, ((21, 5, 0), 2)), (70, ((182, 111, 0), 3)), (73, ((42, 0, 0), 1)), (74, ((180, 9, 0), 3)), (77, ((26, 2, 0), 1)), (78, ((42, 0, 0), 1)), (79, ((16, 0, 120), 2)), (81, ((182, 115, 0), 3)), (84, ((79, 0, 0), 1)), (85, ((42, 0, 0), 1)), (86, ((180, 15, 0), 3)), (89, ((26, 2, 0), 1)), (90, ((42, 0, 0), 1)), (91, ((17, 0, 250), 3)), (94, ((182, 115, 0), 3)), (97, ((79, 0, 0), 1)), (98, ((132, 2, 1), 3)), (101, ((167, 10, 0), 3)), (104, ((177, 0, 0), 1))]
set_option maxRecDepth 20000 in
theorem tX5_hearRows_ok : xtok cX5_hearRows tX5_hearRows := by unfold xtok; decide +kernel
abbrev mX5_hearRows : xM := (yX5_hearRows, cX5_hearRows, 6, none, tX5_hearRows)
def tX5_hearPair : List (Nat × xE) := [(0, ((42, 0, 0), 1)), (1, ((2, 0, 0), 1)), (2, ((2, 0, 0), 1)), (3, ((182, 84, 0), 3)), (6, ((87, 0, 0), 1)), (7, ((42, 0, 0), 1)), (8, ((2, 0, 0), 1)), (9, ((26, 1, 0), 1)), (10, ((182, 84, 0), 3)), (13, ((172, 0, 0), 1))]
set_option maxRecDepth 20000 in
theorem tX5_hearPair_ok : xtok cX5_hearPair tX5_hearPair := by unfold xtok; decide +kernel
abbrev mX5_hearPair : xM := (yX5_hearPair, cX5_hearPair, 2, (some .int), tX5_hearPair)
def tX5_hearPages : List (Nat × xE) := [(0, ((2, 0, 0), 1)), (1, ((59, 1, 0), 1)), (2, ((26, 1, 0), 1)), (3, ((42, 0, 0), 1)), (4, ((180, 30, 0), 3)), (7, ((180, 118, 0), 3)), (10, ((162, 83, 0), 3)), (13, ((42, 0, 0), 1)), (14, ((182, 80, 0), 3)), (17, ((153, 83, 0), 3)), (20, ((42, 0, 0), 1)), (21, ((180, 30, 0), 3)), (24, ((180, 121, 0), 3)), (27, ((26, 1, 0), 1)), (28, ((46, 0, 0), 1)), (56, ((42, 0, 0), 1)), (57, ((26, 1, 0), 1)), (58, ((182, 124, 0), 3)), (61, ((167, 77, 0), 3)), (64, ((42, 0, 0), 1)), (65, ((26, 1, 0), 1)), (66, ((182, 127, 0), 3)), (69, ((167, 77, 0), 3)), (72, ((42, 0, 0), 1)), (73, ((26, 1, 0), 1)), (74, ((182, 130, 0), 3)), (77, ((132, 1, 1), 3)), (80, ((167, 2, 0), 3)), (83, ((177, 0, 0), 1))]
set_option maxRecDepth 20000 in
theorem tX5_hearPages_ok : xtok cX5_hearPages tX5_hearPages := by unfold xtok; decide +kernel
theorem dX5_hearPages_29 : decode cX5_hearPages 29 = .ok (.lookupswitch 43 #[(1, 27), (2, 35)], 27) := by decide +kernel
abbrev mX5_hearPages : xM := (yX5_hearPages, cX5_hearPages, 2, none, tX5_hearPages)
def tX5_lacking : List (Nat × xE) := [(0, ((42, 0, 0), 1)), (1, ((180, 9, 0), 3)), (4, ((26, 1, 0), 1)), (5, ((46, 0, 0), 1)), (6, ((42, 0, 0), 1)), (7, ((180, 30, 0), 3)), (10, ((26, 1, 0), 1)), (11, ((182, 133, 0), 3)), (14, ((100, 0, 0), 1)), (15, ((172, 0, 0), 1))]
set_option maxRecDepth 20000 in
theorem tX5_lacking_ok : xtok cX5_lacking tX5_lacking := by unfold xtok; decide +kernel
abbrev mX5_lacking : xM := (yX5_lacking, cX5_lacking, 2, (some .int), tX5_lacking)
def tX5_hearPlainPage : List (Nat × xE) := [(0, ((42, 0, 0), 1)), (1, ((180, 15, 0), 3)), (4, ((26, 1, 0), 1)), (5, ((46, 0, 0), 1)), (6, ((42, 0, 0), 1)), (7, ((180, 9, 0), 3)), (10, ((26, 1, 0), 1)), (11, ((46, 0, 0), 1)), (12, ((159, 23, 0), 3)), (15, ((42, 0, 0), 1)), (16, ((42, 0, 0), 1)), (17, ((180, 34, 0), 3)), (20, ((182, 95, 0), 3)), (23, ((42, 0, 0), 1)), (24, ((26, 1, 0), 1)), (25, ((42, 0, 0), 1)), (26, ((180, 15, 0), 3)), (29, ((26, 1, 0), 1)), (30, ((46, 0, 0), 1)), (31, ((182, 136, 0), 3)), (34, ((177, 0, 0), 1))]
set_option maxRecDepth 20000 in
theorem tX5_hearPlainPage_ok : xtok cX5_hearPlainPage tX5_hearPlainPage := by unfold xtok; decide +kernel
abbrev mX5_hearPlainPage : xM := (yX5_hearPlainPage, cX5_hearPlainPage, 2, none, tX5_hearPlainPage)
def tX5_hearPlain : List (Nat × xE) := [(0, ((2, 0, 0), 1)), (1, ((59, 3, 0), 1)), (2, ((26, 3, 0), 1)), (3, ((26, 2, 0), 1)), (4, ((162, 36, 0), 3)), (7, ((42, 0, 0), 1)), (8, ((182, 80, 0), 3)), (11, ((153, 36, 0), 3)), (14, ((42, 0, 0), 1)), (15, ((180, 30, 0), 3)), (18, ((26, 1, 0), 1)), (19, ((42, 0, 0), 1)), (20, ((2, 0, 0), 1)), (21, ((17, 0, 255), 3)), (24, ((182, 84, 0), 3)), (27, ((182, 139, 0), 3)), (30, ((132, 3, 1), 3)), (33, ((167, 2, 0), 3)), (36, ((177, 0, 0), 1))]
set_option maxRecDepth 20000 in
theorem tX5_hearPlain_ok : xtok cX5_hearPlain tX5_hearPlain := by unfold xtok; decide +kernel
abbrev mX5_hearPlain : xM := (yX5_hearPlain, cX5_hearPlain, 4, none, tX5_hearPlain)
def tX5_hearPairs : List (Nat × xE) := [(0, ((42, 0, 0), 1)), (1, ((180, 34, 0), 3)), (4, ((42, 0, 0), 1)), (5, ((180, 15, 0), 3)), (8, ((26, 1, 0), 1)), (9, ((46, 0, 0), 1)), (10, ((96, 0, 0), 1)), (11, ((59, 2, 0), 1)), (12, ((2, 0, 0), 1)), (13, ((59, 3, 0), 1)), (14, ((26, 3, 0), 1)), (15, ((17, 0, 250), 3)), (18, ((162, 109, 0), 3)), (21, ((42, 0, 0), 1)), (22, ((180, 34, 0), 3)), (25, ((26, 2, 0), 1)), (26, ((162, 109, 0), 3)), (29, ((42, 0, 0), 1)), (30, ((182, 80, 0), 3)), (33, ((153, 109, 0), 3)), (36, ((42, 0, 0), 1)), (37, ((180, 34, 0), 3)), (40, ((2, 0, 1), 1)), (41, ((96, 0, 0), 1)), (42, ((26, 2, 0), 1)), (43, ((160, 50, 0), 3)), (46, ((2, 0, 1), 1)), (47, ((167, 51, 0), 3)), (50, ((2, 0, 0), 1)), (51, ((54, 4, 0), 2)), (53, ((42, 0, 0), 1)), (54, ((2, 0, 1), 1)), (55, ((21, 4, 0), 2)), (57, ((153, 64, 0), 3)), (60, ((2, 0, 0), 1)), (61, ((167, 69, 0), 3)), (64, ((42, 0, 0), 1)), (65, ((26, 1, 0), 1)), (66, ((182, 142, 0), 3)), (69, ((182, 84, 0), 3)), (72, ((54, 5, 0), 2)), (74, ((42, 0, 0), 1)), (75, ((2, 0, 0), 1)), (76, ((17, 0, 255), 3)), (79, ((182, 84, 0), 3)), (82, ((54, 6, 0), 2)), (84, ((42, 0, 0), 1)), (85, ((182, 80, 0), 3)), (88, ((153, 103, 0), 3)), (91, ((42, 0, 0), 1)), (92, ((180, 30, 0), 3)), (95, ((26, 1, 0), 1)), (96, ((21, 6, 0), 2)), (98, ((21, 5, 0), 2)), (100, ((182, 145, 0), 3)), (103, ((132, 3, 1), 3)), (106, ((167, 14, 0), 3)), (109, ((42, 0, 0), 1)), (110, ((26, 1, 0), 1)), (111, ((182, 148, 0), 3)), (114, ((177, 0, 0), 1))]
set_option maxRecDepth 20000 in
theorem tX5_hearPairs_ok : xtok cX5_hearPairs tX5_hearPairs := by unfold xtok; decide +kernel
abbrev mX5_hearPairs : xM := (yX5_hearPairs, cX5_hearPairs, 7, none, tX5_hearPairs)
def tX5_hearOps : List (Nat × xE) := [(0, ((42, 0, 0), 1)), (1, ((180, 34, 0), 3)), (4, ((42, 0, 0), 1)), (5, ((180, 15, 0), 3)), (8, ((26, 1, 0), 1)), (9, ((46, 0, 0), 1)), (10, ((96, 0, 0), 1)), (11, ((59, 2, 0), 1)), (12, ((2, 0, 0), 1)), (13, ((59, 3, 0), 1)), (14, ((26, 3, 0), 1)), (15, ((17, 0, 250), 3)), (18, ((162, 154, 0), 3)), (21, ((42, 0, 0), 1)), (22, ((180, 34, 0), 3)), (25, ((26, 2, 0), 1)), (26, ((162, 154, 0), 3)), (29, ((42, 0, 0), 1)), (30, ((182, 80, 0), 3)), (33, ((153, 154, 0), 3)), (36, ((42, 0, 0), 1)), (37, ((180, 34, 0), 3)), (40, ((54, 4, 0), 2)), (42, ((42, 0, 0), 1)), (43, ((2, 0, 0), 1)), (44, ((17, 0, 255), 3)), (47, ((182, 84, 0), 3)), (50, ((54, 5, 0), 2)), (52, ((21, 5, 0), 2)), (54, ((17, 0, 128), 3)), (57, ((161, 64, 0), 3)), (60, ((2, 0, 1), 1)), (61, ((167, 65, 0), 3)), (64, ((2, 0, 0), 1)), (65, ((54, 6, 0), 2)), (67, ((21, 6, 0), 2)), (69, ((153, 80, 0), 3)), (72, ((21, 5, 0), 2)), (74, ((16, 0, 125), 2)), (76, ((100, 0, 0), 1)), (77, ((167, 84, 0), 3)), (80, ((21, 5, 0), 2)), (82, ((2, 0, 1), 1)), (83, ((96, 0, 0), 1)), (84, ((54, 7, 0), 2)), (86, ((21, 6, 0), 2)), (88, ((153, 95, 0), 3)), (91, ((2, 0, 1), 1)), (92, ((167, 97, 0), 3)), (95, ((21, 7, 0), 2)), (97, ((54, 8, 0), 2)), (99, ((21, 7, 0), 2)), (101, ((42, 0, 0), 1)), (102, ((26, 1, 0), 1)), (103, ((182, 142, 0), 3)), (106, ((163, 120, 0), 3)), (109, ((42, 0, 0), 1)), (110, ((180, 34, 0), 3)), (113, ((21, 8, 0), 2)), (115, ((96, 0, 0), 1)), (116, ((26, 2, 0), 1)), (117, ((164, 126, 0), 3)), (120, ((42, 0, 0), 1)), (121, ((21, 4, 0), 2)), (123, ((182, 95, 0), 3)), (126, ((21, 6, 0), 2)), (128, ((153, 141, 0), 3)), (131, ((42, 0, 0), 1)), (132, ((26, 1, 0), 1)), (133, ((21, 7, 0), 2)), (135, ((182, 151, 0), 3)), (138, ((167, 148, 0), 3)), (141, ((42, 0, 0), 1)), (142, ((26, 1, 0), 1)), (143, ((21, 7, 0), 2)), (145, ((182, 136, 0), 3)), (148, ((132, 3, 1), 3)), (151, ((167, 14, 0), 3)), (154, ((42, 0, 0), 1)), (155, ((26, 1, 0), 1)), (156, ((182, 148, 0), 3)), (159, ((177, 0, 0), 1))]
set_option maxRecDepth 20000 in
theorem tX5_hearOps_ok : xtok cX5_hearOps tX5_hearOps := by unfold xtok; decide +kernel
abbrev mX5_hearOps : xM := (yX5_hearOps, cX5_hearOps, 9, none, tX5_hearOps)
end
section
def tX5_hearCopy : List (Nat × xE) := [(0, ((42, 0, 0), 1)), (1, ((2, 0, 1), 1)), (2, ((42, 0, 0), 1)), (3, ((180, 30, 0), 3)), (6, ((26, 1, 0), 1)), (7, ((182, 133, 0), 3)), (10, ((182, 84, 0), 3)), (13, ((59, 3, 0), 1)), (14, ((42, 0, 0), 1)), (15, ((182, 80, 0), 3)), (18, ((153, 31, 0), 3)), (21, ((42, 0, 0), 1)), (22, ((180, 30, 0), 3)), (25, ((26, 1, 0), 1)), (26, ((26, 3, 0), 1)), (27, ((26, 2, 0), 1)), (28, ((182, 154, 0), 3)), (31, ((177, 0, 0), 1))]
set_option maxRecDepth 20000 in
theorem tX5_hearCopy_ok : xtok cX5_hearCopy tX5_hearCopy := by unfold xtok; decide +kernel
abbrev mX5_hearCopy : xM := (yX5_hearCopy, cX5_hearCopy, 4, none, tX5_hearCopy)
def tX5_refuseIfLacking : List (Nat × xE) := [(0, ((42, 0, 0), 1)), (1, ((26, 1, 0), 1)), (2, ((182, 142, 0), 3)), (5, ((158, 16, 0), 3)), (8, ((42, 0, 0), 1)), (9, ((42, 0, 0), 1)), (10, ((180, 34, 0), 3)), (13, ((182, 95, 0), 3)), (16, ((177, 0, 0), 1))]
set_option maxRecDepth 20000 in
theorem tX5_refuseIfLacking_ok : xtok cX5_refuseIfLacking tX5_refuseIfLacking := by unfold xtok; decide +kernel
abbrev mX5_refuseIfLacking : xM := (yX5_refuseIfLacking, cX5_refuseIfLacking, 2, none, tX5_refuseIfLacking)
def tX5_hearEnd : List (Nat × xE) := [(0, ((42, 0, 0), 1)), (1, ((182, 80, 0), 3)), (4, ((154, 8, 0), 3)), (7, ((177, 0, 0), 1)), (8, ((42, 0, 0), 1)), (9, ((180, 23, 0), 3)), (12, ((2, 0, 1), 1)), (13, ((42, 0, 0), 1)), (14, ((180, 34, 0), 3)), (17, ((182, 73, 0), 3)), (20, ((59, 1, 0), 1)), (21, ((16, 0, 24), 2)), (23, ((59, 2, 0), 1)), (24, ((26, 2, 0), 1)), (25, ((155, 49, 0), 3)), (28, ((26, 1, 0), 1)), (29, ((26, 2, 0), 1)), (30, ((124, 0, 0), 1)), (31, ((17, 0, 255), 3)), (34, ((126, 0, 0), 1)), (35, ((59, 3, 0), 1)), (36, ((42, 0, 0), 1)), (37, ((26, 3, 0), 1)), (38, ((26, 3, 0), 1)), (39, ((182, 84, 0), 3)), (42, ((87, 0, 0), 1)), (43, ((132, 2, (-8)), 3)), (46, ((167, 24, 0), 3)), (49, ((42, 0, 0), 1)), (50, ((180, 30, 0), 3)), (53, ((180, 65, 0), 3)), (56, ((153, 81, 0), 3)), (59, ((2, 0, 0), 1)), (60, ((59, 2, 0), 1)), (61, ((26, 2, 0), 1)), (62, ((2, 0, 4), 1)), (63, ((162, 81, 0), 3)), (66, ((42, 0, 0), 1)), (67, ((2, 0, 0), 1)), (68, ((17, 0, 255), 3)), (71, ((182, 84, 0), 3)), (74, ((87, 0, 0), 1)), (75, ((132, 2, 1), 3)), (78, ((167, 61, 0), 3)), (81, ((42, 0, 0), 1)), (82, ((180, 34, 0), 3)), (85, ((42, 0, 0), 1)), (86, ((180, 23, 0), 3)), (89, ((180, 62, 0), 3)), (92, ((162, 103, 0), 3)), (95, ((42, 0, 0), 1)), (96, ((42, 0, 0), 1)), (97, ((180, 34, 0), 3)), (100, ((182, 95, 0), 3)), (103, ((177, 0, 0), 1))]
set_option maxRecDepth 20000 in
theorem tX5_hearEnd_ok : xtok cX5_hearEnd tX5_hearEnd := by unfold xtok; decide +kernel
abbrev mX5_hearEnd : xM := (yX5_hearEnd, cX5_hearEnd, 4, none, tX5_hearEnd)
def tX6_init : List (Nat × xE) := [(0, ((42, 0, 0), 1)), (1, ((183, 3, 0), 3)), (4, ((42, 0, 0), 1)), (5, ((187, 9, 0), 3)), (8, ((89, 0, 0), 1)), (9, ((17, 0, 1920), 3)), (12, ((183, 11, 0), 3)), (15, ((181, 14, 0), 3)), (18, ((42, 0, 0), 1)), (19, ((16, 0, 8), 2)), (21, ((188, 10, 0), 2)), (23, ((181, 20, 0), 3)), (26, ((177, 0, 0), 1))]
set_option maxRecDepth 20000 in
theorem tX6_init_ok : xtok cX6_init tX6_init := by unfold xtok; decide +kernel
abbrev mX6_init : xM := (yX6_init, cX6_init, 1, none, tX6_init)
def tX6_write : List (Nat × xE) := [(0, ((42, 0, 0), 1)), (1, ((42, 1, 0), 1)), (2, ((182, 24, 0), 3)), (5, ((42, 3, 0), 1)), (6, ((182, 28, 0), 3)), (9, ((42, 0, 0), 1)), (10, ((42, 1, 0), 1)), (11, ((26, 2, 0), 1)), (12, ((153, 19, 0), 3)), (15, ((2, 0, 1), 1)), (16, ((167, 20, 0), 3)), (19, ((2, 0, 0), 1)), (20, ((42, 3, 0), 1)), (21, ((182, 31, 0), 3)), (24, ((42, 3, 0), 1)), (25, ((42, 0, 0), 1)), (26, ((180, 14, 0), 3)), (29, ((2, 0, 0), 1)), (30, ((42, 0, 0), 1)), (31, ((180, 14, 0), 3)), (34, ((180, 35, 0), 3)), (37, ((182, 39, 0), 3)), (40, ((42, 3, 0), 1)), (41, ((42, 3, 0), 1)), (42, ((2, 0, 1), 1)), (43, ((42, 3, 0), 1)), (44, ((180, 35, 0), 3)), (47, ((182, 43, 0), 3)), (50, ((182, 47, 0), 3)), (53, ((26, 2, 0), 1)), (54, ((153, 70, 0), 3)), (57, ((42, 3, 0), 1)), (58, ((42, 3, 0), 1)), (59, ((26, 2, 0), 1)), (60, ((42, 3, 0), 1)), (61, ((180, 35, 0), 3)), (64, ((182, 43, 0), 3)), (67, ((182, 47, 0), 3)), (70, ((177, 0, 0), 1))]
set_option maxRecDepth 20000 in
theorem tX6_write_ok : xtok cX6_write tX6_write := by unfold xtok; decide +kernel
abbrev mX6_write : xM := (yX6_write, cX6_write, 4, none, tX6_write)
def tX6_writeHead : List (Nat × xE) := [(0, ((42, 3, 0), 1)), (1, ((16, 0, 80), 2)), (3, ((182, 50, 0), 3)), (6, ((42, 3, 0), 1)), (7, ((16, 0, 75), 2)), (9, ((182, 50, 0), 3)), (12, ((42, 3, 0), 1)), (13, ((42, 1, 0), 1)), (14, ((180, 53, 0), 3)), (17, ((182, 50, 0), 3)), (20, ((42, 3, 0), 1)), (21, ((42, 1, 0), 1)), (22, ((180, 58, 0), 3)), (25, ((182, 50, 0), 3)), (28, ((42, 3, 0), 1)), (29, ((26, 2, 0), 1)), (30, ((153, 42, 0), 3)), (33, ((42, 1, 0), 1)), (34, ((180, 61, 0), 3)), (37, ((2, 0, 2), 1)), (38, ((96, 0, 0), 1)), (39, ((167, 46, 0), 3)), (42, ((42, 1, 0), 1)), (43, ((180, 61, 0), 3)), (46, ((182, 50, 0), 3)), (49, ((42, 3, 0), 1)), (50, ((42, 1, 0), 1)), (51, ((180, 64, 0), 3)), (54, ((182, 50, 0), 3)), (57, ((2, 0, 0), 1)), (58, ((54, 4, 0), 2)), (60, ((21, 4, 0), 2)), (62, ((42, 1, 0), 1)), (63, ((180, 64, 0), 3)), (66, ((162, 116, 0), 3)), (69, ((42, 3, 0), 1)), (70, ((42, 1, 0), 1)), (71, ((180, 67, 0), 3)), (74, ((21, 4, 0), 2)), (76, ((46, 0, 0), 1)), (77, ((182, 50, 0), 3)), (80, ((42, 3, 0), 1)), (81, ((42, 1, 0), 1)), (82, ((180, 70, 0), 3)), (85, ((21, 4, 0), 2)), (87, ((46, 0, 0), 1)), (88, ((182, 50, 0), 3)), (91, ((42, 3, 0), 1)), (92, ((42, 1, 0), 1)), (93, ((180, 73, 0), 3)), (96, ((21, 4, 0), 2)), (98, ((51, 0, 0), 1)), (99, ((153, 106, 0), 3)), (102, ((2, 0, 1), 1)), (103, ((167, 107, 0), 3)), (106, ((2, 0, 0), 1)), (107, ((182, 50, 0), 3)), (110, ((132, 4, 1), 3)), (113, ((167, 60, 0), 3)), (116, ((42, 3, 0), 1)), (117, ((42, 1, 0), 1)), (118, ((180, 77, 0), 3)), (121, ((182, 50, 0), 3)), (124, ((2, 0, 0), 1)), (125, ((54, 4, 0), 2)), (127, ((21, 4, 0), 2)), (129, ((42, 1, 0), 1)), (130, ((180, 77, 0), 3)), (133, ((162, 153, 0), 3)), (136, ((42, 3, 0), 1)), (137, ((42, 1, 0), 1)), (138, ((180, 80, 0), 3)), (141, ((21, 4, 0), 2)), (143, ((46, 0, 0), 1)), (144, ((182, 50, 0), 3)), (147, ((132, 4, 1), 3)), (150, ((167, 127, 0), 3)), (153, ((42, 3, 0), 1)), (154, ((42, 1, 0), 1)), (155, ((180, 83, 0), 3)), (158, ((182, 50, 0), 3)), (161, ((2, 0, 0), 1)), (162, ((54, 4, 0), 2)), (164, ((21, 4, 0), 2)), (166, ((42, 1, 0), 1)), (167, ((180, 83, 0), 3)), (170, ((162, 223, 0), 3)), (173, ((42, 3, 0), 1)), (174, ((42, 1, 0), 1)), (175, ((180, 86, 0), 3)), (178, ((21, 4, 0), 2)), (180, ((46, 0, 0), 1)), (181, ((182, 50, 0), 3)), (184, ((42, 3, 0), 1)), (185, ((42, 1, 0), 1)), (186, ((180, 89, 0), 3)), (189, ((21, 4, 0), 2)), (191, ((46, 0, 0), 1)), (192, ((182, 50, 0), 3)), (195, ((42, 3, 0), 1)), (196, ((42, 1, 0), 1)), (197, ((180, 92, 0), 3)), (200, ((21, 4, 0), 2)), (202, ((46, 0, 0), 1)), (203, ((184, 95, 0), 3)), (206, ((42, 3, 0), 1)), (207, ((42, 0, 0), 1)), (208, ((180, 20, 0), 3)), (211, ((21, 4, 0), 2)), (213, ((46, 0, 0), 1)), (214, ((184, 95, 0), 3)), (217, ((132, 4, 1), 3)), (220, ((167, 164, 0), 3)), (223, ((177, 0, 0), 1))]
set_option maxRecDepth 20000 in
theorem tX6_writeHead_ok : xtok cX6_writeHead tX6_writeHead := by unfold xtok; decide +kernel
abbrev mX6_writeHead : xM := (yX6_writeHead, cX6_writeHead, 5, none, tX6_writeHead)
def tX6_pushPair : List (Nat × xE) := [(0, ((42, 0, 0), 1)), (1, ((26, 1, 0), 1)), (2, ((16, 0, 8), 2)), (4, ((124, 0, 0), 1)), (5, ((17, 0, 255), 3)), (8, ((126, 0, 0), 1)), (9, ((182, 50, 0), 3)), (12, ((42, 0, 0), 1)), (13, ((26, 1, 0), 1)), (14, ((17, 0, 255), 3)), (17, ((126, 0, 0), 1)), (18, ((182, 50, 0), 3)), (21, ((177, 0, 0), 1))]
set_option maxRecDepth 20000 in
theorem tX6_pushPair_ok : xtok cX6_pushPair tX6_pushPair := by unfold xtok; decide +kernel
abbrev mX6_pushPair : xM := (yX6_pushPair, cX6_pushPair, 2, none, tX6_pushPair)
def tX6_writeBody : List (Nat × xE) := [(0, ((42, 0, 0), 1)), (1, ((180, 14, 0), 3)), (4, ((182, 28, 0), 3)), (7, ((2, 0, 0), 1)), (8, ((59, 2, 0), 1)), (9, ((26, 2, 0), 1)), (10, ((42, 1, 0), 1)), (11, ((180, 83, 0), 3)), (14, ((162, 107, 0), 3)), (17, ((42, 0, 0), 1)), (18, ((180, 14, 0), 3)), (21, ((180, 35, 0), 3)), (24, ((59, 3, 0), 1)), (25, ((42, 1, 0), 1)), (26, ((180, 89, 0), 3)), (29, ((26, 2, 0), 1)), (30, ((46, 0, 0), 1)), (56, ((42, 0, 0), 1)), (57, ((42, 1, 0), 1)), (58, ((26, 2, 0), 1)), (59, ((182, 99, 0), 3)), (62, ((167, 86, 0), 3)), (65, ((42, 0, 0), 1)), (66, ((42, 1, 0), 1)), (67, ((26, 2, 0), 1)), (68, ((182, 103, 0), 3)), (71, ((167, 86, 0), 3)), (74, ((42, 0, 0), 1)), (75, ((42, 1, 0), 1)), (76, ((26, 2, 0), 1)), (77, ((2, 0, 0), 1)), (78, ((42, 1, 0), 1)), (79, ((26, 2, 0), 1)), (80, ((182, 106, 0), 3)), (83, ((182, 110, 0), 3)), (86, ((42, 0, 0), 1)), (87, ((180, 20, 0), 3)), (90, ((26, 2, 0), 1)), (91, ((42, 0, 0), 1)), (92, ((180, 14, 0), 3)), (95, ((180, 35, 0), 3)), (98, ((26, 3, 0), 1)), (99, ((100, 0, 0), 1)), (100, ((79, 0, 0), 1)), (101, ((132, 2, 1), 3)), (104, ((167, 9, 0), 3)), (107, ((177, 0, 0), 1))]
set_option maxRecDepth 20000 in
theorem tX6_writeBody_ok : xtok cX6_writeBody tX6_writeBody := by unfold xtok; decide +kernel
theorem dX6_writeBody_31 : decode cX6_writeBody 31 = .ok (.lookupswitch 43 #[(1, 25), (2, 34)], 25) := by decide +kernel
abbrev mX6_writeBody : xM := (yX6_writeBody, cX6_writeBody, 4, none, tX6_writeBody)
def tX6_writePlain : List (Nat × xE) := [(0, ((26, 3, 0), 1)), (1, ((54, 5, 0), 2)), (3, ((21, 5, 0), 2)), (5, ((21, 4, 0), 2)), (7, ((162, 30, 0), 3)), (10, ((42, 0, 0), 1)), (11, ((180, 14, 0), 3)), (14, ((42, 1, 0), 1)), (15, ((26, 2, 0), 1)), (16, ((21, 5, 0), 2)), (18, ((182, 114, 0), 3)), (21, ((182, 50, 0), 3)), (24, ((132, 5, 1), 3)), (27, ((167, 3, 0), 3)), (30, ((177, 0, 0), 1))]
set_option maxRecDepth 20000 in
theorem tX6_writePlain_ok : xtok cX6_writePlain tX6_writePlain := by unfold xtok; decide +kernel
abbrev mX6_writePlain : xM := (yX6_writePlain, cX6_writePlain, 6, none, tX6_writePlain)
def tX6_writePairs : List (Nat × xE) := [(0, ((42, 1, 0), 1)), (1, ((26, 2, 0), 1)), (2, ((182, 106, 0), 3)), (5, ((59, 3, 0), 1)), (6, ((2, 0, 0), 1)), (7, ((54, 4, 0), 2)), (9, ((2, 0, 0), 1)), (10, ((54, 5, 0), 2)), (12, ((21, 5, 0), 2)), (14, ((26, 3, 0), 1)), (15, ((162, 79, 0), 3)), (18, ((132, 4, 1), 3)), (21, ((42, 1, 0), 1)), (22, ((26, 2, 0), 1)), (23, ((21, 5, 0), 2)), (25, ((182, 114, 0), 3)), (28, ((54, 6, 0), 2)), (30, ((21, 4, 0), 2)), (32, ((17, 0, 255), 3)), (35, ((159, 52, 0), 3)), (38, ((42, 1, 0), 1)), (39, ((26, 2, 0), 1)), (40, ((21, 5, 0), 2)), (42, ((2, 0, 1), 1)), (43, ((96, 0, 0), 1)), (44, ((182, 114, 0), 3)), (47, ((21, 6, 0), 2)), (49, ((159, 73, 0), 3)), (52, ((42, 0, 0), 1)), (53, ((180, 14, 0), 3)), (56, ((21, 4, 0), 2)), (58, ((182, 50, 0), 3)), (61, ((42, 0, 0), 1)), (62, ((180, 14, 0), 3)), (65, ((21, 6, 0), 2)), (67, ((182, 50, 0), 3)), (70, ((2, 0, 0), 1)), (71, ((54, 4, 0), 2)), (73, ((132, 5, 1), 3)), (76, ((167, 12, 0), 3)), (79, ((177, 0, 0), 1))]
set_option maxRecDepth 20000 in
theorem tX6_writePairs_ok : xtok cX6_writePairs tX6_writePairs := by unfold xtok; decide +kernel
abbrev mX6_writePairs : xM := (yX6_writePairs, cX6_writePairs, 7, none, tX6_writePairs)
def tX6_writeOps : List (Nat × xE) := [(0, ((42, 1, 0), 1)), (1, ((26, 2, 0), 1)), (2, ((182, 106, 0), 3)), (5, ((59, 3, 0), 1)), (6, ((2, 0, 0), 1)), (7, ((54, 4, 0), 2)), (9, ((2, 0, 0), 1)), (10, ((54, 5, 0), 2)), (12, ((21, 5, 0), 2)), (14, ((26, 3, 0), 1)), (15, ((162, 91, 0), 3)), (18, ((42, 0, 0), 1)), (19, ((42, 1, 0), 1)), (20, ((26, 2, 0), 1)), (21, ((21, 5, 0), 2)), (23, ((182, 117, 0), 3)), (26, ((42, 0, 0), 1)), (27, ((180, 121, 0), 3)), (30, ((2, 0, 3), 1)), (31, ((162, 40, 0), 3)), (34, ((132, 5, 1), 3)), (37, ((167, 12, 0), 3)), (40, ((42, 0, 0), 1)), (41, ((42, 1, 0), 1)), (42, ((26, 2, 0), 1)), (43, ((21, 4, 0), 2)), (45, ((21, 5, 0), 2)), (47, ((182, 124, 0), 3)), (50, ((42, 0, 0), 1)), (51, ((180, 14, 0), 3)), (54, ((42, 0, 0), 1)), (55, ((180, 121, 0), 3)), (58, ((16, 0, 125), 2)), (60, ((96, 0, 0), 1)), (61, ((182, 50, 0), 3)), (64, ((42, 0, 0), 1)), (65, ((180, 14, 0), 3)), (68, ((42, 0, 0), 1)), (69, ((180, 127, 0), 3)), (72, ((182, 50, 0), 3)), (75, ((21, 5, 0), 2)), (77, ((42, 0, 0), 1)), (78, ((180, 121, 0), 3)), (81, ((96, 0, 0), 1)), (82, ((54, 5, 0), 2)), (84, ((21, 5, 0), 2)), (86, ((54, 4, 0), 2)), (88, ((167, 12, 0), 3)), (91, ((42, 0, 0), 1)), (92, ((42, 1, 0), 1)), (93, ((26, 2, 0), 1)), (94, ((21, 4, 0), 2)), (96, ((26, 3, 0), 1)), (97, ((182, 124, 0), 3)), (100, ((177, 0, 0), 1))]
set_option maxRecDepth 20000 in
theorem tX6_writeOps_ok : xtok cX6_writeOps tX6_writeOps := by unfold xtok; decide +kernel
abbrev mX6_writeOps : xM := (yX6_writeOps, cX6_writeOps, 6, none, tX6_writeOps)
def tX6_writePlainOps : List (Nat × xE) := [(0, ((26, 3, 0), 1)), (1, ((54, 5, 0), 2)), (3, ((21, 5, 0), 2)), (5, ((21, 4, 0), 2)), (7, ((162, 56, 0), 3)), (10, ((21, 5, 0), 2)), (12, ((17, 0, 128), 3)), (15, ((96, 0, 0), 1)), (16, ((21, 4, 0), 2)), (18, ((184, 130, 0), 3)), (21, ((54, 6, 0), 2)), (23, ((42, 0, 0), 1)), (24, ((180, 14, 0), 3)), (27, ((21, 6, 0), 2)), (29, ((21, 5, 0), 2)), (31, ((100, 0, 0), 1)), (32, ((2, 0, 1), 1)), (33, ((100, 0, 0), 1)), (34, ((182, 50, 0), 3)), (37, ((42, 0, 0), 1)), (38, ((42, 1, 0), 1)), (39, ((26, 2, 0), 1)), (40, ((21, 5, 0), 2)), (42, ((21, 6, 0), 2)), (44, ((182, 110, 0), 3)), (47, ((132, 5, 128), 6)), (53, ((167, 3, 0), 3)), (56, ((177, 0, 0), 1))]
set_option maxRecDepth 20000 in
theorem tX6_writePlainOps_ok : xtok cX6_writePlainOps tX6_writePlainOps := by unfold xtok; decide +kernel
abbrev mX6_writePlainOps : xM := (yX6_writePlainOps, cX6_writePlainOps, 7, none, tX6_writePlainOps)
def tX6_searchMatch : List (Nat × xE) := [(0, ((42, 0, 0), 1)), (1, ((2, 0, 0), 1)), (2, ((181, 127, 0), 3)), (5, ((42, 0, 0), 1)), (6, ((2, 0, 0), 1)), (7, ((181, 121, 0), 3)), (10, ((17, 0, 130), 3)), (13, ((42, 1, 0), 1)), (14, ((26, 2, 0), 1)), (15, ((182, 106, 0), 3)), (18, ((26, 3, 0), 1)), (19, ((100, 0, 0), 1)), (20, ((184, 130, 0), 3)), (23, ((54, 4, 0), 2)), (25, ((17, 0, 255), 3)), (28, ((26, 3, 0), 1)), (29, ((184, 130, 0), 3)), (32, ((54, 5, 0), 2)), (34, ((2, 0, 1), 1)), (35, ((54, 6, 0), 2)), (37, ((21, 6, 0), 2)), (39, ((21, 5, 0), 2)), (41, ((163, 120, 0), 3)), (44, ((42, 0, 0), 1)), (45, ((180, 121, 0), 3)), (48, ((21, 4, 0), 2)), (50, ((162, 120, 0), 3)), (53, ((2, 0, 0), 1)), (54, ((54, 7, 0), 2)), (56, ((21, 7, 0), 2)), (58, ((21, 4, 0), 2)), (60, ((162, 93, 0), 3)), (63, ((42, 1, 0), 1)), (64, ((26, 2, 0), 1)), (65, ((26, 3, 0), 1)), (66, ((21, 7, 0), 2)), (68, ((96, 0, 0), 1)), (69, ((182, 114, 0), 3)), (72, ((42, 1, 0), 1)), (73, ((26, 2, 0), 1)), (74, ((26, 3, 0), 1)), (75, ((21, 7, 0), 2)), (77, ((96, 0, 0), 1)), (78, ((21, 6, 0), 2)), (80, ((100, 0, 0), 1)), (81, ((182, 114, 0), 3)), (84, ((160, 93, 0), 3)), (87, ((132, 7, 1), 3)), (90, ((167, 56, 0), 3)), (93, ((21, 7, 0), 2)), (95, ((42, 0, 0), 1)), (96, ((180, 121, 0), 3)), (99, ((164, 114, 0), 3)), (102, ((42, 0, 0), 1)), (103, ((21, 7, 0), 2)), (105, ((181, 121, 0), 3)), (108, ((42, 0, 0), 1)), (109, ((21, 6, 0), 2)), (111, ((181, 127, 0), 3)), (114, ((132, 6, 1), 3)), (117, ((167, 37, 0), 3)), (120, ((177, 0, 0), 1))]
set_option maxRecDepth 20000 in
theorem tX6_searchMatch_ok : xtok cX6_searchMatch tX6_searchMatch := by unfold xtok; decide +kernel
abbrev mX6_searchMatch : xM := (yX6_searchMatch, cX6_searchMatch, 8, none, tX6_searchMatch)
def tX7_init : List (Nat × xE) := [(0, ((42, 0, 0), 1)), (1, ((183, 3, 0), 3)), (4, ((42, 0, 0), 1)), (5, ((16, 0, 12), 2)), (7, ((189, 9, 0), 3)), (10, ((181, 11, 0), 3)), (13, ((177, 0, 0), 1))]
set_option maxRecDepth 20000 in
theorem tX7_init_ok : xtok cX7_init tX7_init := by unfold xtok; decide +kernel
abbrev mX7_init : xM := (yX7_init, cX7_init, 1, none, tX7_init)
def tX7_at : List (Nat × xE) := [(0, ((26, 1, 0), 1)), (1, ((155, 21, 0), 3)), (4, ((26, 1, 0), 1)), (5, ((42, 0, 0), 1)), (6, ((180, 17, 0), 3)), (9, ((162, 21, 0), 3)), (12, ((42, 0, 0), 1)), (13, ((180, 11, 0), 3)), (16, ((26, 1, 0), 1)), (17, ((50, 0, 0), 1)), (18, ((167, 22, 0), 3)), (21, ((1, 0, 0), 1)), (22, ((176, 0, 0), 1))]
set_option maxRecDepth 20000 in
theorem tX7_at_ok : xtok cX7_at tX7_at := by unfold xtok; decide +kernel
abbrev mX7_at : xM := (yX7_at, cX7_at, 2, (some (.object "PackPost$Entry")), tX7_at)
def tX7_firstUnmet : List (Nat × xE) := [(0, ((2, 0, 0), 1)), (1, ((59, 2, 0), 1)), (2, ((26, 2, 0), 1)), (3, ((42, 1, 0), 1)), (4, ((180, 21, 0), 3)), (7, ((162, 27, 0), 3)), (10, ((42, 0, 0), 1)), (11, ((42, 1, 0), 1)), (12, ((26, 2, 0), 1)), (13, ((182, 26, 0), 3)), (16, ((156, 21, 0), 3)), (19, ((26, 2, 0), 1)), (20, ((172, 0, 0), 1)), (21, ((132, 2, 1), 3)), (24, ((167, 2, 0), 3)), (27, ((2, 0, (-1)), 1)), (28, ((172, 0, 0), 1))]
set_option maxRecDepth 20000 in
theorem tX7_firstUnmet_ok : xtok cX7_firstUnmet tX7_firstUnmet := by unfold xtok; decide +kernel
abbrev mX7_firstUnmet : xM := (yX7_firstUnmet, cX7_firstUnmet, 3, (some .int), tX7_firstUnmet)
def tX7_leastSealed : List (Nat × xE) := [(0, ((42, 0, 0), 1)), (1, ((42, 1, 0), 1)), (2, ((182, 30, 0), 3)), (5, ((59, 2, 0), 1)), (6, ((2, 0, 0), 1)), (7, ((59, 3, 0), 1)), (8, ((26, 3, 0), 1)), (9, ((16, 0, 16), 2)), (11, ((162, 64, 0), 3)), (14, ((2, 0, 0), 1)), (15, ((54, 4, 0), 2)), (17, ((21, 4, 0), 2)), (19, ((42, 0, 0), 1)), (20, ((180, 17, 0), 3)), (23, ((162, 58, 0), 3)), (26, ((26, 2, 0), 1)), (27, ((21, 4, 0), 2)), (29, ((124, 0, 0), 1)), (30, ((2, 0, 1), 1)), (31, ((126, 0, 0), 1)), (32, ((2, 0, 1), 1)), (33, ((160, 52, 0), 3)), (36, ((26, 3, 0), 1)), (37, ((42, 1, 0), 1)), (38, ((42, 0, 0), 1)), (39, ((21, 4, 0), 2)), (41, ((182, 34, 0), 3)), (44, ((184, 38, 0), 3)), (47, ((153, 52, 0), 3)), (50, ((26, 3, 0), 1)), (51, ((172, 0, 0), 1)), (52, ((132, 4, 1), 3)), (55, ((167, 17, 0), 3)), (58, ((132, 3, 1), 3)), (61, ((167, 8, 0), 3)), (64, ((2, 0, (-1)), 1)), (65, ((172, 0, 0), 1))]
set_option maxRecDepth 20000 in
theorem tX7_leastSealed_ok : xtok cX7_leastSealed tX7_leastSealed := by unfold xtok; decide +kernel
abbrev mX7_leastSealed : xM := (yX7_leastSealed, cX7_leastSealed, 5, (some .int), tX7_leastSealed)
def tX7_put : List (Nat × xE) := [(0, ((42, 0, 0), 1)), (1, ((180, 17, 0), 3)), (4, ((16, 0, 12), 2)), (6, ((161, 12, 0), 3)), (9, ((16, 0, (-3)), 2)), (11, ((172, 0, 0), 1)), (12, ((2, 0, 4), 1)), (13, ((188, 10, 0), 2)), (15, ((75, 2, 0), 1)), (16, ((2, 0, 0), 1)), (17, ((59, 3, 0), 1)), (18, ((26, 3, 0), 1)), (19, ((42, 1, 0), 1)), (20, ((180, 21, 0), 3)), (23, ((162, 41, 0), 3)), (26, ((42, 2, 0), 1)), (27, ((26, 3, 0), 1)), (28, ((42, 0, 0), 1)), (29, ((42, 1, 0), 1)), (30, ((26, 3, 0), 1)), (31, ((182, 26, 0), 3)), (34, ((79, 0, 0), 1)), (35, ((132, 3, 1), 3)), (38, ((167, 18, 0), 3)), (41, ((42, 0, 0), 1)), (42, ((180, 11, 0), 3)), (45, ((42, 0, 0), 1)), (46, ((180, 17, 0), 3)), (49, ((187, 9, 0), 3)), (52, ((89, 0, 0), 1)), (53, ((42, 1, 0), 1)), (54, ((42, 2, 0), 1)), (55, ((42, 0, 0), 1)), (56, ((42, 1, 0), 1)), (57, ((182, 30, 0), 3)), (60, ((183, 42, 0), 3)), (63, ((83, 0, 0), 1)), (64, ((42, 0, 0), 1)), (65, ((89, 0, 0), 1)), (66, ((180, 17, 0), 3)), (69, ((2, 0, 1), 1)), (70, ((96, 0, 0), 1)), (71, ((181, 17, 0), 3)), (74, ((42, 0, 0), 1)), (75, ((180, 17, 0), 3)), (78, ((2, 0, 1), 1)), (79, ((100, 0, 0), 1)), (80, ((172, 0, 0), 1))]
set_option maxRecDepth 20000 in
theorem tX7_put_ok : xtok cX7_put tX7_put := by unfold xtok; decide +kernel
abbrev mX7_put : xM := (yX7_put, cX7_put, 4, (some .int), tX7_put)
def tX7_overlayWith : List (Nat × xE) := [(0, ((42, 0, 0), 1)), (1, ((26, 1, 0), 1)), (2, ((182, 34, 0), 3)), (5, ((75, 3, 0), 1)), (6, ((42, 3, 0), 1)), (7, ((199, 12, 0), 3)), (10, ((2, 0, (-1)), 1)), (11, ((172, 0, 0), 1)), (12, ((42, 3, 0), 1)), (13, ((180, 45, 0), 3)), (16, ((2, 0, 1), 1)), (17, ((100, 0, 0), 1)), (18, ((54, 4, 0), 2)), (20, ((21, 4, 0), 2)), (22, ((155, 66, 0), 3)), (25, ((42, 0, 0), 1)), (26, ((42, 3, 0), 1)), (27, ((180, 48, 0), 3)), (30, ((21, 4, 0), 2)), (32, ((46, 0, 0), 1)), (33, ((182, 34, 0), 3)), (36, ((58, 5, 0), 2)), (38, ((25, 5, 0), 2)), (40, ((198, 60, 0), 3)), (43, ((25, 5, 0), 2)), (45, ((26, 2, 0), 1)), (46, ((182, 52, 0), 3)), (49, ((153, 60, 0), 3)), (52, ((42, 3, 0), 1)), (53, ((180, 48, 0), 3)), (56, ((21, 4, 0), 2)), (58, ((46, 0, 0), 1)), (59, ((172, 0, 0), 1)), (60, ((132, 4, (-1)), 3)), (63, ((167, 20, 0), 3)), (66, ((2, 0, (-1)), 1)), (67, ((172, 0, 0), 1))]
set_option maxRecDepth 20000 in
theorem tX7_overlayWith_ok : xtok cX7_overlayWith tX7_overlayWith := by unfold xtok; decide +kernel
abbrev mX7_overlayWith : xM := (yX7_overlayWith, cX7_overlayWith, 6, (some .int), tX7_overlayWith)
def tX7_ranked : List (Nat × xE) := [(0, ((2, 0, 0), 1)), (1, ((59, 3, 0), 1)), (2, ((26, 3, 0), 1)), (3, ((42, 0, 0), 1)), (4, ((180, 17, 0), 3)), (7, ((162, 56, 0), 3)), (10, ((42, 0, 0), 1)), (11, ((26, 3, 0), 1)), (12, ((182, 34, 0), 3)), (15, ((58, 4, 0), 2)), (17, ((25, 4, 0), 2)), (19, ((198, 50, 0), 3)), (22, ((25, 4, 0), 2)), (24, ((180, 56, 0), 3)), (27, ((180, 60, 0), 3)), (30, ((26, 1, 0), 1)), (31, ((160, 50, 0), 3)), (34, ((42, 0, 0), 1)), (35, ((25, 4, 0), 2)), (37, ((180, 56, 0), 3)), (40, ((26, 3, 0), 1)), (41, ((182, 63, 0), 3)), (44, ((26, 2, 0), 1)), (45, ((160, 50, 0), 3)), (48, ((26, 3, 0), 1)), (49, ((172, 0, 0), 1)), (50, ((132, 3, 1), 3)), (53, ((167, 2, 0), 3)), (56, ((2, 0, (-1)), 1)), (57, ((172, 0, 0), 1))]
set_option maxRecDepth 20000 in
theorem tX7_ranked_ok : xtok cX7_ranked tX7_ranked := by unfold xtok; decide +kernel
abbrev mX7_ranked : xM := (yX7_ranked, cX7_ranked, 5, (some .int), tX7_ranked)
def tX7_leaning : List (Nat × xE) := [(0, ((2, 0, 0), 1)), (1, ((59, 3, 0), 1)), (2, ((2, 0, 0), 1)), (3, ((54, 4, 0), 2)), (5, ((21, 4, 0), 2)), (7, ((42, 0, 0), 1)), (8, ((180, 17, 0), 3)), (11, ((162, 53, 0), 3)), (14, ((42, 0, 0), 1)), (15, ((21, 4, 0), 2)), (17, ((182, 34, 0), 3)), (20, ((58, 5, 0), 2)), (22, ((25, 5, 0), 2)), (24, ((198, 47, 0), 3)), (27, ((25, 5, 0), 2)), (29, ((26, 1, 0), 1)), (30, ((182, 66, 0), 3)), (33, ((153, 47, 0), 3)), (36, ((26, 3, 0), 1)), (37, ((26, 2, 0), 1)), (38, ((160, 44, 0), 3)), (41, ((21, 4, 0), 2)), (43, ((172, 0, 0), 1)), (44, ((132, 3, 1), 3)), (47, ((132, 4, 1), 3)), (50, ((167, 5, 0), 3)), (53, ((2, 0, (-1)), 1)), (54, ((172, 0, 0), 1))]
set_option maxRecDepth 20000 in
theorem tX7_leaning_ok : xtok cX7_leaning tX7_leaning := by unfold xtok; decide +kernel
abbrev mX7_leaning : xM := (yX7_leaning, cX7_leaning, 6, (some .int), tX7_leaning)
def tX7_meeting : List (Nat × xE) := [(0, ((2, 0, (-1)), 1)), (1, ((59, 3, 0), 1)), (2, ((2, 0, (-1)), 1)), (3, ((54, 4, 0), 2)), (5, ((2, 0, 0), 1)), (6, ((54, 5, 0), 2)), (8, ((21, 5, 0), 2)), (10, ((42, 0, 0), 1)), (11, ((180, 17, 0), 3)), (14, ((162, 83, 0), 3)), (17, ((42, 0, 0), 1)), (18, ((21, 5, 0), 2)), (20, ((182, 34, 0), 3)), (23, ((58, 6, 0), 2)), (25, ((25, 6, 0), 2)), (27, ((198, 77, 0), 3)), (30, ((25, 6, 0), 2)), (32, ((180, 69, 0), 3)), (35, ((154, 77, 0), 3)), (38, ((25, 6, 0), 2)), (40, ((180, 56, 0), 3)), (43, ((42, 1, 0), 1)), (44, ((26, 2, 0), 1)), (45, ((184, 73, 0), 3)), (48, ((153, 77, 0), 3)), (51, ((25, 6, 0), 2)), (53, ((180, 56, 0), 3)), (56, ((180, 77, 0), 3)), (59, ((21, 4, 0), 2)), (61, ((161, 77, 0), 3)), (64, ((21, 5, 0), 2)), (66, ((59, 3, 0), 1)), (67, ((25, 6, 0), 2)), (69, ((180, 56, 0), 3)), (72, ((180, 77, 0), 3)), (75, ((54, 4, 0), 2)), (77, ((132, 5, 1), 3)), (80, ((167, 8, 0), 3)), (83, ((26, 3, 0), 1)), (84, ((172, 0, 0), 1))]
set_option maxRecDepth 20000 in
theorem tX7_meeting_ok : xtok cX7_meeting tX7_meeting := by unfold xtok; decide +kernel
abbrev mX7_meeting : xM := (yX7_meeting, cX7_meeting, 7, (some .int), tX7_meeting)
def tX7_suits : List (Nat × xE) := [(0, ((26, 2, 0), 1)), (1, ((42, 1, 0), 1)), (2, ((180, 21, 0), 3)), (5, ((184, 80, 0), 3)), (8, ((153, 24, 0), 3)), (11, ((42, 0, 0), 1)), (12, ((180, 60, 0), 3)), (15, ((42, 1, 0), 1)), (16, ((180, 84, 0), 3)), (19, ((26, 2, 0), 1)), (20, ((46, 0, 0), 1)), (21, ((159, 26, 0), 3)), (24, ((2, 0, 0), 1)), (25, ((172, 0, 0), 1)), (26, ((42, 1, 0), 1)), (27, ((180, 87, 0), 3)), (30, ((26, 2, 0), 1)), (31, ((46, 0, 0), 1)), (32, ((59, 3, 0), 1)), (33, ((42, 1, 0), 1)), (34, ((180, 90, 0), 3)), (37, ((26, 2, 0), 1)), (38, ((51, 0, 0), 1)), (39, ((153, 58, 0), 3)), (42, ((42, 0, 0), 1)), (43, ((180, 77, 0), 3)), (46, ((26, 3, 0), 1)), (47, ((160, 54, 0), 3)), (50, ((2, 0, 1), 1)), (51, ((167, 71, 0), 3)), (54, ((2, 0, 0), 1)), (55, ((167, 71, 0), 3)), (58, ((42, 0, 0), 1)), (59, ((180, 77, 0), 3)), (62, ((26, 3, 0), 1)), (63, ((163, 70, 0), 3)), (66, ((2, 0, 1), 1)), (67, ((167, 71, 0), 3)), (70, ((2, 0, 0), 1)), (71, ((172, 0, 0), 1))]
set_option maxRecDepth 20000 in
theorem tX7_suits_ok : xtok cX7_suits tX7_suits := by unfold xtok; decide +kernel
abbrev mX7_suits : xM := (yX7_suits, cX7_suits, 4, (some .boolean), tX7_suits)
def tX7_seenBy : List (Nat × xE) := [(0, ((2, 0, 0), 1)), (1, ((59, 2, 0), 1)), (2, ((2, 0, 0), 1)), (3, ((59, 3, 0), 1)), (4, ((26, 3, 0), 1)), (5, ((42, 1, 0), 1)), (6, ((180, 21, 0), 3)), (9, ((162, 52, 0), 3)), (12, ((42, 0, 0), 1)), (13, ((42, 1, 0), 1)), (14, ((26, 3, 0), 1)), (15, ((182, 26, 0), 3)), (18, ((54, 4, 0), 2)), (20, ((42, 0, 0), 1)), (21, ((21, 4, 0), 2)), (23, ((182, 34, 0), 3)), (26, ((58, 5, 0), 2)), (28, ((25, 5, 0), 2)), (30, ((198, 46, 0), 3)), (33, ((26, 2, 0), 1)), (34, ((2, 0, 1), 1)), (35, ((21, 4, 0), 2)), (37, ((120, 0, 0), 1)), (38, ((25, 5, 0), 2)), (40, ((180, 94, 0), 3)), (43, ((128, 0, 0), 1)), (44, ((128, 0, 0), 1)), (45, ((59, 2, 0), 1)), (46, ((132, 3, 1), 3)), (49, ((167, 4, 0), 3)), (52, ((26, 2, 0), 1)), (53, ((172, 0, 0), 1))]
set_option maxRecDepth 20000 in
theorem tX7_seenBy_ok : xtok cX7_seenBy tX7_seenBy := by unfold xtok; decide +kernel
abbrev mX7_seenBy : xM := (yX7_seenBy, cX7_seenBy, 6, (some .int), tX7_seenBy)
def tX7_isBetween : List (Nat × xE) := [(0, ((42, 2, 0), 1)), (1, ((199, 6, 0), 3)), (4, ((2, 0, 0), 1)), (5, ((172, 0, 0), 1)), (6, ((42, 2, 0), 1)), (7, ((180, 56, 0), 3)), (10, ((26, 0, 0), 1)), (11, ((182, 97, 0), 3)), (14, ((153, 25, 0), 3)), (17, ((42, 1, 0), 1)), (18, ((26, 0, 0), 1)), (19, ((182, 100, 0), 3)), (22, ((154, 44, 0), 3)), (25, ((42, 1, 0), 1)), (26, ((26, 0, 0), 1)), (27, ((182, 97, 0), 3)), (30, ((153, 48, 0), 3)), (33, ((42, 2, 0), 1)), (34, ((180, 56, 0), 3)), (37, ((26, 0, 0), 1)), (38, ((182, 100, 0), 3)), (41, ((153, 48, 0), 3)), (44, ((2, 0, 1), 1)), (45, ((167, 49, 0), 3)), (48, ((2, 0, 0), 1)), (49, ((172, 0, 0), 1))]
set_option maxRecDepth 20000 in
theorem tX7_isBetween_ok : xtok cX7_isBetween tX7_isBetween := by unfold xtok; decide +kernel
abbrev mX7_isBetween : xM := (yX7_isBetween, cX7_isBetween, 3, (some .boolean), tX7_isBetween)
def tX7_countAhead : List (Nat × xE) := [(0, ((2, 0, 0), 1)), (1, ((59, 3, 0), 1)), (2, ((2, 0, 0), 1)), (3, ((54, 4, 0), 2)), (5, ((21, 4, 0), 2)), (7, ((42, 0, 0), 1)), (8, ((180, 17, 0), 3)), (11, ((162, 99, 0), 3)), (14, ((42, 0, 0), 1)), (15, ((21, 4, 0), 2)), (17, ((182, 34, 0), 3)), (20, ((58, 5, 0), 2)), (22, ((25, 5, 0), 2)), (24, ((198, 93, 0), 3)), (27, ((25, 5, 0), 2)), (29, ((180, 56, 0), 3)), (32, ((180, 60, 0), 3)), (35, ((42, 1, 0), 1)), (36, ((180, 60, 0), 3)), (39, ((160, 93, 0), 3)), (42, ((25, 5, 0), 2)), (44, ((180, 56, 0), 3)), (47, ((180, 77, 0), 3)), (50, ((42, 1, 0), 1)), (51, ((180, 77, 0), 3)), (54, ((164, 61, 0), 3)), (57, ((2, 0, 1), 1)), (58, ((167, 62, 0), 3)), (61, ((2, 0, 0), 1)), (62, ((54, 6, 0), 2)), (64, ((21, 6, 0), 2)), (66, ((154, 90, 0), 3)), (69, ((25, 5, 0), 2)), (71, ((180, 56, 0), 3)), (74, ((180, 77, 0), 3)), (77, ((42, 1, 0), 1)), (78, ((180, 77, 0), 3)), (81, ((160, 93, 0), 3)), (84, ((21, 4, 0), 2)), (86, ((26, 2, 0), 1)), (87, ((164, 93, 0), 3)), (90, ((132, 3, 1), 3)), (93, ((132, 4, 1), 3)), (96, ((167, 5, 0), 3)), (99, ((26, 3, 0), 1)), (100, ((172, 0, 0), 1))]
set_option maxRecDepth 20000 in
theorem tX7_countAhead_ok : xtok cX7_countAhead tX7_countAhead := by unfold xtok; decide +kernel
abbrev mX7_countAhead : xM := (yX7_countAhead, cX7_countAhead, 7, (some .int), tX7_countAhead)
def tX8_init : List (Nat × xE) := [(0, ((42, 0, 0), 1)), (1, ((183, 3, 0), 3)), (4, ((42, 0, 0), 1)), (5, ((187, 9, 0), 3)), (8, ((89, 0, 0), 1)), (9, ((183, 11, 0), 3)), (12, ((181, 12, 0), 3)), (15, ((42, 0, 0), 1)), (16, ((16, 0, 16), 2)), (18, ((189, 16, 0), 3)), (21, ((181, 18, 0), 3)), (24, ((42, 0, 0), 1)), (25, ((187, 16, 0), 3)), (28, ((89, 0, 0), 1)), (29, ((17, 0, 2020), 3)), (32, ((183, 22, 0), 3)), (35, ((181, 25, 0), 3)), (38, ((42, 0, 0), 1)), (39, ((187, 16, 0), 3)), (42, ((89, 0, 0), 1)), (43, ((16, 0, 108), 2)), (45, ((183, 22, 0), 3)), (48, ((181, 29, 0), 3)), (51, ((42, 0, 0), 1)), (52, ((16, 0, 16), 2)), (54, ((189, 32, 0), 3)), (57, ((181, 34, 0), 3)), (60, ((2, 0, 0), 1)), (61, ((59, 1, 0), 1)), (62, ((26, 1, 0), 1)), (63, ((16, 0, 16), 2)), (65, ((162, 87, 0), 3)), (68, ((42, 0, 0), 1)), (69, ((180, 34, 0), 3)), (72, ((26, 1, 0), 1)), (73, ((187, 32, 0), 3)), (76, ((89, 0, 0), 1)), (77, ((183, 38, 0), 3)), (80, ((83, 0, 0), 1)), (81, ((132, 1, 1), 3)), (84, ((167, 62, 0), 3)), (87, ((42, 0, 0), 1)), (88, ((187, 39, 0), 3)), (91, ((89, 0, 0), 1)), (92, ((183, 41, 0), 3)), (95, ((181, 42, 0), 3)), (98, ((42, 0, 0), 1)), (99, ((187, 46, 0), 3)), (102, ((89, 0, 0), 1)), (103, ((183, 48, 0), 3)), (106, ((181, 49, 0), 3)), (109, ((42, 0, 0), 1)), (110, ((187, 53, 0), 3)), (113, ((89, 0, 0), 1)), (114, ((183, 55, 0), 3)), (117, ((181, 56, 0), 3)), (120, ((42, 0, 0), 1)), (121, ((187, 60, 0), 3)), (124, ((89, 0, 0), 1)), (125, ((183, 62, 0), 3)), (128, ((181, 63, 0), 3)), (131, ((177, 0, 0), 1))]
set_option maxRecDepth 20000 in
theorem tX8_init_ok : xtok cX8_init tX8_init := by unfold xtok; decide +kernel
abbrev mX8_init : xM := (yX8_init, cX8_init, 2, none, tX8_init)
def tX8_draft : List (Nat × xE) := [(0, ((26, 1, 0), 1)), (1, ((16, 0, 64), 2)), (3, ((184, 67, 0), 3)), (6, ((153, 26, 0), 3)), (9, ((26, 2, 0), 1)), (10, ((16, 0, 100), 2)), (12, ((184, 67, 0), 3)), (15, ((153, 26, 0), 3)), (18, ((26, 3, 0), 1)), (19, ((2, 0, 2), 1)), (20, ((184, 67, 0), 3)), (23, ((154, 28, 0), 3)), (26, ((2, 0, (-1)), 1)), (27, ((172, 0, 0), 1)), (28, ((42, 0, 0), 1)), (29, ((180, 12, 0), 3)), (32, ((182, 71, 0), 3)), (35, ((42, 0, 0), 1)), (36, ((180, 12, 0), 3)), (39, ((26, 1, 0), 1)), (40, ((26, 2, 0), 1)), (41, ((26, 3, 0), 1)), (42, ((182, 74, 0), 3)), (45, ((42, 0, 0), 1)), (46, ((2, 0, 1), 1)), (47, ((181, 78, 0), 3)), (50, ((2, 0, 1), 1)), (51, ((172, 0, 0), 1))]
set_option maxRecDepth 20000 in
theorem tX8_draft_ok : xtok cX8_draft tX8_draft := by unfold xtok; decide +kernel
abbrev mX8_draft : xM := (yX8_draft, cX8_draft, 4, (some .int), tX8_draft)
def tX8_need : List (Nat × xE) := [(0, ((26, 1, 0), 1)), (1, ((16, 0, 64), 2)), (3, ((184, 67, 0), 3)), (6, ((153, 18, 0), 3)), (9, ((26, 2, 0), 1)), (10, ((16, 0, 100), 2)), (12, ((184, 67, 0), 3)), (15, ((154, 20, 0), 3)), (18, ((2, 0, (-1)), 1)), (19, ((172, 0, 0), 1)), (20, ((42, 0, 0), 1)), (21, ((180, 78, 0), 3)), (24, ((154, 30, 0), 3)), (27, ((16, 0, (-2)), 2)), (29, ((172, 0, 0), 1)), (30, ((42, 0, 0), 1)), (31, ((180, 12, 0), 3)), (34, ((26, 1, 0), 1)), (35, ((182, 82, 0), 3)), (38, ((153, 44, 0), 3)), (41, ((16, 0, (-4)), 2)), (43, ((172, 0, 0), 1)), (44, ((42, 0, 0), 1)), (45, ((180, 12, 0), 3)), (48, ((180, 86, 0), 3)), (51, ((2, 0, 4), 1)), (52, ((161, 58, 0), 3)), (55, ((16, 0, (-3)), 2)), (57, ((172, 0, 0), 1)), (58, ((42, 0, 0), 1)), (59, ((180, 12, 0), 3)), (62, ((26, 1, 0), 1)), (63, ((26, 2, 0), 1)), (64, ((26, 3, 0), 1)), (65, ((182, 90, 0), 3)), (68, ((42, 0, 0), 1)), (69, ((180, 12, 0), 3)), (72, ((180, 86, 0), 3)), (75, ((172, 0, 0), 1))]
set_option maxRecDepth 20000 in
theorem tX8_need_ok : xtok cX8_need tX8_need := by unfold xtok; decide +kernel
abbrev mX8_need : xM := (yX8_need, cX8_need, 4, (some .int), tX8_need)
def tX8_seal : List (Nat × xE) := [(0, ((26, 1, 0), 1)), (1, ((16, 0, 16), 2)), (3, ((184, 67, 0), 3)), (6, ((154, 11, 0), 3)), (9, ((2, 0, (-1)), 1)), (10, ((172, 0, 0), 1)), (11, ((42, 0, 0), 1)), (12, ((180, 78, 0), 3)), (15, ((154, 21, 0), 3)), (18, ((16, 0, (-2)), 2)), (20, ((172, 0, 0), 1)), (21, ((42, 0, 0), 1)), (22, ((180, 12, 0), 3)), (25, ((26, 1, 0), 1)), (26, ((182, 94, 0), 3)), (29, ((153, 35, 0), 3)), (32, ((16, 0, (-4)), 2)), (34, ((172, 0, 0), 1)), (35, ((42, 0, 0), 1)), (36, ((180, 12, 0), 3)), (39, ((180, 97, 0), 3)), (42, ((2, 0, 4), 1)), (43, ((161, 49, 0), 3)), (46, ((16, 0, (-3)), 2)), (48, ((172, 0, 0), 1)), (49, ((42, 0, 0), 1)), (50, ((180, 12, 0), 3)), (53, ((26, 1, 0), 1)), (54, ((182, 100, 0), 3)), (57, ((42, 0, 0), 1)), (58, ((180, 12, 0), 3)), (61, ((180, 97, 0), 3)), (64, ((172, 0, 0), 1))]
set_option maxRecDepth 20000 in
theorem tX8_seal_ok : xtok cX8_seal tX8_seal := by unfold xtok; decide +kernel
abbrev mX8_seal : xM := (yX8_seal, cX8_seal, 2, (some .int), tX8_seal)
def tX8_row : List (Nat × xE) := [(0, ((26, 1, 0), 1)), (1, ((17, 0, 256), 3)), (4, ((184, 67, 0), 3)), (7, ((153, 18, 0), 3)), (10, ((26, 2, 0), 1)), (11, ((2, 0, 3), 1)), (12, ((184, 67, 0), 3)), (15, ((154, 20, 0), 3)), (18, ((2, 0, (-1)), 1)), (19, ((172, 0, 0), 1)), (20, ((42, 0, 0), 1)), (21, ((180, 78, 0), 3)), (24, ((154, 30, 0), 3)), (27, ((16, 0, (-2)), 2)), (29, ((172, 0, 0), 1)), (30, ((42, 0, 0), 1)), (31, ((180, 12, 0), 3)), (34, ((26, 1, 0), 1)), (35, ((182, 103, 0), 3)), (38, ((155, 44, 0), 3)), (41, ((16, 0, (-4)), 2)), (43, ((172, 0, 0), 1)), (44, ((42, 0, 0), 1)), (45, ((180, 12, 0), 3)), (48, ((180, 107, 0), 3)), (51, ((16, 0, 8), 2)), (53, ((161, 59, 0), 3)), (56, ((16, 0, (-3)), 2)), (58, ((172, 0, 0), 1)), (59, ((42, 0, 0), 1)), (60, ((180, 12, 0), 3)), (63, ((26, 1, 0), 1)), (64, ((26, 2, 0), 1)), (65, ((182, 110, 0), 3)), (68, ((42, 0, 0), 1)), (69, ((180, 12, 0), 3)), (72, ((180, 107, 0), 3)), (75, ((172, 0, 0), 1))]
set_option maxRecDepth 20000 in
theorem tX8_row_ok : xtok cX8_row tX8_row := by unfold xtok; decide +kernel
abbrev mX8_row : xM := (yX8_row, cX8_row, 3, (some .int), tX8_row)
def tX8_add : List (Nat × xE) := [(0, ((2, 0, 5), 1)), (1, ((188, 10, 0), 2)), (3, ((89, 0, 0), 1)), (4, ((2, 0, 0), 1)), (5, ((26, 1, 0), 1)), (6, ((79, 0, 0), 1)), (7, ((89, 0, 0), 1)), (8, ((2, 0, 1), 1)), (9, ((26, 2, 0), 1)), (10, ((79, 0, 0), 1)), (11, ((89, 0, 0), 1)), (12, ((2, 0, 2), 1)), (13, ((26, 3, 0), 1)), (14, ((79, 0, 0), 1)), (15, ((89, 0, 0), 1)), (16, ((2, 0, 3), 1)), (17, ((21, 4, 0), 2)), (19, ((79, 0, 0), 1)), (20, ((89, 0, 0), 1)), (21, ((2, 0, 4), 1)), (22, ((21, 5, 0), 2)), (24, ((79, 0, 0), 1)), (25, ((58, 6, 0), 2)), (27, ((2, 0, 0), 1)), (28, ((54, 7, 0), 2)), (30, ((21, 7, 0), 2)), (32, ((25, 6, 0), 2)), (34, ((190, 0, 0), 1)), (35, ((162, 69, 0), 3)), (38, ((25, 6, 0), 2)), (40, ((21, 7, 0), 2)), (42, ((46, 0, 0), 1)), (43, ((2, 0, (-1)), 1)), (44, ((159, 69, 0), 3)), (47, ((25, 6, 0), 2)), (49, ((21, 7, 0), 2)), (51, ((46, 0, 0), 1)), (52, ((17, 0, 256), 3)), (55, ((184, 67, 0), 3)), (58, ((154, 63, 0), 3)), (61, ((2, 0, (-1)), 1)), (62, ((172, 0, 0), 1)), (63, ((132, 7, 1), 3)), (66, ((167, 30, 0), 3)), (69, ((42, 0, 0), 1)), (70, ((182, 114, 0), 3)), (73, ((154, 79, 0), 3)), (76, ((16, 0, (-2)), 2)), (78, ((172, 0, 0), 1)), (79, ((42, 0, 0), 1)), (80, ((180, 12, 0), 3)), (83, ((180, 107, 0), 3)), (86, ((2, 0, 1), 1)), (87, ((100, 0, 0), 1)), (88, ((54, 8, 0), 2)), (90, ((42, 0, 0), 1)), (91, ((180, 12, 0), 3)), (94, ((21, 8, 0), 2)), (96, ((182, 118, 0), 3)), (99, ((21, 7, 0), 2)), (101, ((96, 0, 0), 1)), (102, ((16, 0, 120), 2)), (104, ((164, 110, 0), 3)), (107, ((16, 0, (-3)), 2)), (109, ((172, 0, 0), 1)), (110, ((2, 0, 0), 1)), (111, ((54, 9, 0), 2)), (113, ((21, 9, 0), 2)), (115, ((21, 7, 0), 2)), (117, ((162, 140, 0), 3)), (120, ((42, 0, 0), 1)), (121, ((180, 12, 0), 3)), (124, ((21, 8, 0), 2)), (126, ((25, 6, 0), 2)), (128, ((21, 9, 0), 2)), (130, ((46, 0, 0), 1)), (131, ((182, 121, 0), 3)), (134, ((132, 9, 1), 3)), (137, ((167, 113, 0), 3)), (140, ((42, 0, 0), 1)), (141, ((180, 12, 0), 3)), (144, ((21, 8, 0), 2)), (146, ((182, 118, 0), 3)), (149, ((172, 0, 0), 1))]
set_option maxRecDepth 20000 in
theorem tX8_add_ok : xtok cX8_add tX8_add := by unfold xtok; decide +kernel
abbrev mX8_add : xM := (yX8_add, cX8_add, 10, (some .int), tX8_add)
def tX8_again : List (Nat × xE) := [(0, ((26, 2, 0), 1)), (1, ((155, 21, 0), 3)), (4, ((26, 2, 0), 1)), (5, ((16, 0, 120), 2)), (7, ((163, 21, 0), 3)), (10, ((26, 1, 0), 1)), (11, ((2, 0, 1), 1)), (12, ((161, 21, 0), 3)), (15, ((26, 1, 0), 1)), (16, ((16, 0, 120), 2)), (18, ((164, 23, 0), 3)), (21, ((2, 0, (-1)), 1)), (22, ((172, 0, 0), 1)), (23, ((42, 0, 0), 1)), (24, ((182, 114, 0), 3)), (27, ((154, 33, 0), 3)), (30, ((16, 0, (-2)), 2)), (32, ((172, 0, 0), 1)), (33, ((42, 0, 0), 1)), (34, ((180, 12, 0), 3)), (37, ((180, 107, 0), 3)), (40, ((2, 0, 1), 1)), (41, ((100, 0, 0), 1)), (42, ((59, 3, 0), 1)), (43, ((42, 0, 0), 1)), (44, ((180, 12, 0), 3)), (47, ((26, 3, 0), 1)), (48, ((182, 118, 0), 3)), (51, ((26, 1, 0), 1)), (52, ((162, 58, 0), 3)), (55, ((16, 0, (-2)), 2)), (57, ((172, 0, 0), 1)), (58, ((42, 0, 0), 1)), (59, ((180, 12, 0), 3)), (62, ((26, 3, 0), 1)), (63, ((182, 118, 0), 3)), (66, ((26, 2, 0), 1)), (67, ((96, 0, 0), 1)), (68, ((16, 0, 120), 2)), (70, ((164, 76, 0), 3)), (73, ((16, 0, (-3)), 2)), (75, ((172, 0, 0), 1)), (76, ((42, 0, 0), 1)), (77, ((180, 12, 0), 3)), (80, ((26, 3, 0), 1)), (81, ((26, 1, 0), 1)), (82, ((26, 2, 0), 1)), (83, ((182, 124, 0), 3)), (86, ((42, 0, 0), 1)), (87, ((180, 12, 0), 3)), (90, ((26, 3, 0), 1)), (91, ((182, 118, 0), 3)), (94, ((172, 0, 0), 1))]
set_option maxRecDepth 20000 in
theorem tX8_again_ok : xtok cX8_again tX8_again := by unfold xtok; decide +kernel
abbrev mX8_again : xM := (yX8_again, cX8_again, 4, (some .int), tX8_again)
def tX8_pack : List (Nat × xE) := [(0, ((42, 0, 0), 1)), (1, ((180, 78, 0), 3)), (4, ((154, 10, 0), 3)), (7, ((16, 0, (-2)), 2)), (9, ((172, 0, 0), 1)), (10, ((42, 0, 0), 1)), (11, ((180, 127, 0), 3)), (14, ((16, 0, 16), 2)), (16, ((161, 22, 0), 3)), (19, ((16, 0, (-3)), 2)), (21, ((172, 0, 0), 1)), (22, ((42, 0, 0), 1)), (23, ((180, 42, 0), 3)), (26, ((42, 0, 0), 1)), (27, ((180, 12, 0), 3)), (30, ((26, 1, 0), 1)), (31, ((42, 0, 0), 1)), (32, ((180, 25, 0), 3)), (35, ((182, 130, 0), 3)), (38, ((42, 0, 0), 1)), (39, ((182, 134, 0), 3)), (42, ((59, 2, 0), 1)), (43, ((26, 2, 0), 1)), (44, ((155, 52, 0), 3)), (47, ((42, 0, 0), 1)), (48, ((2, 0, 0), 1)), (49, ((181, 78, 0), 3)), (52, ((26, 2, 0), 1)), (53, ((172, 0, 0), 1))]
set_option maxRecDepth 20000 in
theorem tX8_pack_ok : xtok cX8_pack tX8_pack := by unfold xtok; decide +kernel
abbrev mX8_pack : xM := (yX8_pack, cX8_pack, 3, (some .int), tX8_pack)
def tX8_length : List (Nat × xE) := [(0, ((42, 0, 0), 1)), (1, ((26, 1, 0), 1)), (2, ((182, 138, 0), 3)), (5, ((75, 2, 0), 1)), (6, ((42, 2, 0), 1)), (7, ((199, 14, 0), 3)), (10, ((2, 0, (-1)), 1)), (11, ((167, 18, 0), 3)), (14, ((42, 2, 0), 1)), (15, ((180, 142, 0), 3)), (18, ((172, 0, 0), 1))]
set_option maxRecDepth 20000 in
theorem tX8_length_ok : xtok cX8_length tX8_length := by unfold xtok; decide +kernel
abbrev mX8_length : xM := (yX8_length, cX8_length, 3, (some .int), tX8_length)
def tX8_octet : List (Nat × xE) := [(0, ((42, 0, 0), 1)), (1, ((26, 1, 0), 1)), (2, ((182, 138, 0), 3)), (5, ((75, 3, 0), 1)), (6, ((42, 3, 0), 1)), (7, ((199, 14, 0), 3)), (10, ((2, 0, (-1)), 1)), (11, ((167, 19, 0), 3)), (14, ((42, 3, 0), 1)), (15, ((26, 2, 0), 1)), (16, ((182, 145, 0), 3)), (19, ((172, 0, 0), 1))]
set_option maxRecDepth 20000 in
theorem tX8_octet_ok : xtok cX8_octet tX8_octet := by unfold xtok; decide +kernel
abbrev mX8_octet : xM := (yX8_octet, cX8_octet, 4, (some .int), tX8_octet)
def tX8_spoil : List (Nat × xE) := [(0, ((42, 0, 0), 1)), (1, ((26, 1, 0), 1)), (2, ((182, 138, 0), 3)), (5, ((58, 4, 0), 2)), (7, ((25, 4, 0), 2)), (9, ((199, 16, 0), 3)), (12, ((2, 0, (-1)), 1)), (13, ((167, 23, 0), 3)), (16, ((25, 4, 0), 2)), (18, ((26, 2, 0), 1)), (19, ((26, 3, 0), 1)), (20, ((184, 148, 0), 3)), (23, ((172, 0, 0), 1))]
set_option maxRecDepth 20000 in
theorem tX8_spoil_ok : xtok cX8_spoil tX8_spoil := by unfold xtok; decide +kernel
abbrev mX8_spoil : xM := (yX8_spoil, cX8_spoil, 5, (some .int), tX8_spoil)
def tX8_trim : List (Nat × xE) := [(0, ((42, 0, 0), 1)), (1, ((26, 1, 0), 1)), (2, ((182, 138, 0), 3)), (5, ((75, 3, 0), 1)), (6, ((42, 3, 0), 1)), (7, ((198, 23, 0), 3)), (10, ((26, 2, 0), 1)), (11, ((2, 0, 1), 1)), (12, ((161, 23, 0), 3)), (15, ((26, 2, 0), 1)), (16, ((42, 3, 0), 1)), (17, ((180, 142, 0), 3)), (20, ((164, 25, 0), 3)), (23, ((2, 0, (-1)), 1)), (24, ((172, 0, 0), 1)), (25, ((42, 3, 0), 1)), (26, ((26, 2, 0), 1)), (27, ((182, 152, 0), 3)), (30, ((2, 0, 1), 1)), (31, ((172, 0, 0), 1))]
set_option maxRecDepth 20000 in
theorem tX8_trim_ok : xtok cX8_trim tX8_trim := by unfold xtok; decide +kernel
abbrev mX8_trim : xM := (yX8_trim, cX8_trim, 4, (some .int), tX8_trim)
def tX8_check : List (Nat × xE) := [(0, ((42, 0, 0), 1)), (1, ((26, 1, 0), 1)), (2, ((182, 138, 0), 3)), (5, ((75, 2, 0), 1)), (6, ((42, 2, 0), 1)), (7, ((199, 15, 0), 3)), (10, ((16, 0, (-2)), 2)), (12, ((167, 23, 0), 3)), (15, ((42, 0, 0), 1)), (16, ((180, 49, 0), 3)), (19, ((42, 2, 0), 1)), (20, ((182, 155, 0), 3)), (23, ((172, 0, 0), 1))]
set_option maxRecDepth 20000 in
theorem tX8_check_ok : xtok cX8_check tX8_check := by unfold xtok; decide +kernel
abbrev mX8_check : xM := (yX8_check, cX8_check, 3, (some .int), tX8_check)
def tX8_signer : List (Nat × xE) := [(0, ((42, 0, 0), 1)), (1, ((26, 1, 0), 1)), (2, ((182, 138, 0), 3)), (5, ((75, 3, 0), 1)), (6, ((42, 3, 0), 1)), (7, ((199, 12, 0), 3)), (10, ((2, 0, (-1)), 1)), (11, ((172, 0, 0), 1)), (12, ((42, 0, 0), 1)), (13, ((180, 49, 0), 3)), (16, ((42, 3, 0), 1)), (17, ((182, 155, 0), 3)), (20, ((156, 38, 0), 3)), (23, ((42, 0, 0), 1)), (24, ((180, 49, 0), 3)), (27, ((26, 2, 0), 1)), (28, ((182, 159, 0), 3)), (31, ((153, 38, 0), 3)), (34, ((2, 0, 1), 1)), (35, ((167, 39, 0), 3)), (38, ((2, 0, 0), 1)), (39, ((172, 0, 0), 1))]
set_option maxRecDepth 20000 in
theorem tX8_signer_ok : xtok cX8_signer tX8_signer := by unfold xtok; decide +kernel
abbrev mX8_signer : xM := (yX8_signer, cX8_signer, 4, (some .int), tX8_signer)
def tX8_parts : List (Nat × xE) := [(0, ((42, 0, 0), 1)), (1, ((26, 1, 0), 1)), (2, ((182, 138, 0), 3)), (5, ((75, 3, 0), 1)), (6, ((42, 3, 0), 1)), (7, ((198, 17, 0), 3)), (10, ((26, 2, 0), 1)), (11, ((184, 162, 0), 3)), (14, ((154, 19, 0), 3)), (17, ((2, 0, (-1)), 1)), (18, ((172, 0, 0), 1)), (19, ((42, 3, 0), 1)), (20, ((180, 142, 0), 3)), (23, ((26, 2, 0), 1)), (24, ((184, 165, 0), 3)), (27, ((172, 0, 0), 1))]
set_option maxRecDepth 20000 in
theorem tX8_parts_ok : xtok cX8_parts tX8_parts := by unfold xtok; decide +kernel
abbrev mX8_parts : xM := (yX8_parts, cX8_parts, 4, (some .int), tX8_parts)
end
section
def tX8_load : List (Nat × xE) := [(0, ((42, 0, 0), 1)), (1, ((26, 1, 0), 1)), (2, ((182, 138, 0), 3)), (5, ((58, 4, 0), 2)), (7, ((25, 4, 0), 2)), (9, ((198, 19, 0), 3)), (12, ((26, 2, 0), 1)), (13, ((184, 162, 0), 3)), (16, ((154, 21, 0), 3)), (19, ((2, 0, (-1)), 1)), (20, ((172, 0, 0), 1)), (21, ((25, 4, 0), 2)), (23, ((180, 142, 0), 3)), (26, ((26, 2, 0), 1)), (27, ((184, 165, 0), 3)), (30, ((54, 5, 0), 2)), (32, ((26, 3, 0), 1)), (33, ((21, 5, 0), 2)), (35, ((184, 67, 0), 3)), (38, ((154, 43, 0), 3)), (41, ((2, 0, (-1)), 1)), (42, ((172, 0, 0), 1)), (43, ((42, 0, 0), 1)), (44, ((180, 29, 0), 3)), (47, ((182, 169, 0), 3)), (50, ((42, 0, 0), 1)), (51, ((180, 29, 0), 3)), (54, ((16, 0, 112), 2)), (56, ((182, 172, 0), 3)), (59, ((42, 0, 0), 1)), (60, ((180, 29, 0), 3)), (63, ((26, 1, 0), 1)), (64, ((182, 172, 0), 3)), (67, ((42, 0, 0), 1)), (68, ((180, 29, 0), 3)), (71, ((26, 3, 0), 1)), (72, ((182, 172, 0), 3)), (75, ((42, 0, 0), 1)), (76, ((180, 29, 0), 3)), (79, ((21, 5, 0), 2)), (81, ((182, 172, 0), 3)), (84, ((42, 0, 0), 1)), (85, ((180, 29, 0), 3)), (88, ((25, 4, 0), 2)), (90, ((26, 3, 0), 1)), (91, ((26, 2, 0), 1)), (92, ((104, 0, 0), 1)), (93, ((26, 3, 0), 1)), (94, ((2, 0, 1), 1)), (95, ((96, 0, 0), 1)), (96, ((26, 2, 0), 1)), (97, ((104, 0, 0), 1)), (98, ((25, 4, 0), 2)), (100, ((180, 142, 0), 3)), (103, ((184, 175, 0), 3)), (106, ((182, 180, 0), 3)), (109, ((42, 0, 0), 1)), (110, ((180, 29, 0), 3)), (113, ((42, 0, 0), 1)), (114, ((180, 29, 0), 3)), (117, ((2, 0, 2), 1)), (118, ((42, 0, 0), 1)), (119, ((180, 29, 0), 3)), (122, ((180, 142, 0), 3)), (125, ((182, 184, 0), 3)), (128, ((182, 187, 0), 3)), (131, ((42, 0, 0), 1)), (132, ((180, 29, 0), 3)), (135, ((180, 142, 0), 3)), (138, ((172, 0, 0), 1))]
set_option maxRecDepth 20000 in
theorem tX8_load_ok : xtok cX8_load tX8_load := by unfold xtok; decide +kernel
abbrev mX8_load : xM := (yX8_load, cX8_load, 6, (some .int), tX8_load)
def tX8_tape : List (Nat × xE) := [(0, ((42, 0, 0), 1)), (1, ((180, 29, 0), 3)), (4, ((26, 1, 0), 1)), (5, ((182, 145, 0), 3)), (8, ((172, 0, 0), 1))]
set_option maxRecDepth 20000 in
theorem tX8_tape_ok : xtok cX8_tape tX8_tape := by unfold xtok; decide +kernel
abbrev mX8_tape : xM := (yX8_tape, cX8_tape, 2, (some .int), tX8_tape)
def tX8_bend : List (Nat × xE) := [(0, ((42, 0, 0), 1)), (1, ((180, 29, 0), 3)), (4, ((26, 1, 0), 1)), (5, ((26, 2, 0), 1)), (6, ((184, 148, 0), 3)), (9, ((172, 0, 0), 1))]
set_option maxRecDepth 20000 in
theorem tX8_bend_ok : xtok cX8_bend tX8_bend := by unfold xtok; decide +kernel
abbrev mX8_bend : xM := (yX8_bend, cX8_bend, 3, (some .int), tX8_bend)
def tX8_take : List (Nat × xE) := [(0, ((42, 0, 0), 1)), (1, ((180, 29, 0), 3)), (4, ((180, 142, 0), 3)), (7, ((154, 13, 0), 3)), (10, ((16, 0, (-2)), 2)), (12, ((172, 0, 0), 1)), (13, ((42, 0, 0), 1)), (14, ((42, 0, 0), 1)), (15, ((180, 29, 0), 3)), (18, ((2, 0, 1), 1)), (19, ((182, 145, 0), 3)), (22, ((182, 190, 0), 3)), (25, ((75, 1, 0), 1)), (26, ((42, 1, 0), 1)), (27, ((198, 37, 0), 3)), (30, ((42, 0, 0), 1)), (31, ((182, 194, 0), 3)), (34, ((153, 40, 0), 3)), (37, ((16, 0, (-9)), 2)), (39, ((172, 0, 0), 1)), (40, ((42, 0, 0), 1)), (41, ((180, 29, 0), 3)), (44, ((2, 0, 2), 1)), (45, ((182, 145, 0), 3)), (48, ((59, 2, 0), 1)), (49, ((42, 0, 0), 1)), (50, ((180, 29, 0), 3)), (53, ((2, 0, 3), 1)), (54, ((182, 145, 0), 3)), (57, ((59, 3, 0), 1)), (58, ((42, 1, 0), 1)), (59, ((180, 197, 0), 3)), (62, ((153, 76, 0), 3)), (65, ((42, 1, 0), 1)), (66, ((180, 197, 0), 3)), (69, ((26, 3, 0), 1)), (70, ((159, 76, 0), 3)), (73, ((16, 0, (-10)), 2)), (75, ((172, 0, 0), 1)), (76, ((42, 1, 0), 1)), (77, ((26, 2, 0), 1)), (78, ((182, 200, 0), 3)), (81, ((153, 87, 0), 3)), (84, ((16, 0, (-4)), 2)), (86, ((172, 0, 0), 1)), (87, ((42, 1, 0), 1)), (88, ((180, 203, 0), 3)), (91, ((2, 0, 1), 1)), (92, ((96, 0, 0), 1)), (93, ((26, 3, 0), 1)), (94, ((162, 109, 0), 3)), (97, ((42, 1, 0), 1)), (98, ((26, 2, 0), 1)), (99, ((26, 3, 0), 1)), (100, ((42, 0, 0), 1)), (101, ((180, 29, 0), 3)), (104, ((182, 206, 0), 3)), (107, ((2, 0, 0), 1)), (108, ((172, 0, 0), 1)), (109, ((42, 0, 0), 1)), (110, ((180, 127, 0), 3)), (113, ((16, 0, 16), 2)), (115, ((162, 139, 0), 3)), (118, ((42, 1, 0), 1)), (119, ((180, 210, 0), 3)), (122, ((42, 0, 0), 1)), (123, ((180, 29, 0), 3)), (126, ((180, 142, 0), 3)), (129, ((96, 0, 0), 1)), (130, ((16, 0, 8), 2)), (132, ((100, 0, 0), 1)), (133, ((17, 0, 700), 3)), (136, ((164, 142, 0), 3)), (139, ((16, 0, (-3)), 2)), (141, ((172, 0, 0), 1)), (142, ((42, 1, 0), 1)), (143, ((26, 2, 0), 1)), (144, ((26, 3, 0), 1)), (145, ((42, 0, 0), 1)), (146, ((180, 29, 0), 3)), (149, ((182, 206, 0), 3)), (152, ((42, 1, 0), 1)), (153, ((42, 0, 0), 1)), (154, ((180, 25, 0), 3)), (157, ((182, 213, 0), 3)), (160, ((42, 1, 0), 1)), (161, ((182, 217, 0), 3)), (164, ((16, 0, 100), 2)), (166, ((42, 0, 0), 1)), (167, ((182, 134, 0), 3)), (170, ((96, 0, 0), 1)), (171, ((172, 0, 0), 1))]
set_option maxRecDepth 20000 in
theorem tX8_take_ok : xtok cX8_take tX8_take := by unfold xtok; decide +kernel
abbrev mX8_take : xM := (yX8_take, cX8_take, 4, (some .int), tX8_take)
def tX8_book : List (Nat × xE) := [(0, ((42, 0, 0), 1)), (1, ((26, 1, 0), 1)), (2, ((182, 190, 0), 3)), (5, ((75, 3, 0), 1)), (6, ((42, 3, 0), 1)), (7, ((198, 14, 0), 3)), (10, ((26, 2, 0), 1)), (11, ((156, 16, 0), 3)), (14, ((2, 0, (-1)), 1)), (15, ((172, 0, 0), 1)), (16, ((26, 2, 0), 1)), (17, ((154, 25, 0), 3)), (20, ((42, 3, 0), 1)), (21, ((180, 197, 0), 3)), (24, ((172, 0, 0), 1)), (25, ((26, 2, 0), 1)), (26, ((2, 0, 1), 1)), (27, ((160, 35, 0), 3)), (30, ((42, 3, 0), 1)), (31, ((180, 203, 0), 3)), (34, ((172, 0, 0), 1)), (35, ((42, 3, 0), 1)), (36, ((26, 2, 0), 1)), (37, ((2, 0, 2), 1)), (38, ((100, 0, 0), 1)), (39, ((182, 200, 0), 3)), (42, ((153, 49, 0), 3)), (45, ((2, 0, 1), 1)), (46, ((167, 50, 0), 3)), (49, ((2, 0, 0), 1)), (50, ((172, 0, 0), 1))]
set_option maxRecDepth 20000 in
theorem tX8_book_ok : xtok cX8_book tX8_book := by unfold xtok; decide +kernel
abbrev mX8_book : xM := (yX8_book, cX8_book, 4, (some .int), tX8_book)
def tX8_drop : List (Nat × xE) := [(0, ((42, 0, 0), 1)), (1, ((26, 1, 0), 1)), (2, ((182, 190, 0), 3)), (5, ((75, 2, 0), 1)), (6, ((42, 2, 0), 1)), (7, ((199, 12, 0), 3)), (10, ((2, 0, (-1)), 1)), (11, ((172, 0, 0), 1)), (12, ((42, 2, 0), 1)), (13, ((180, 203, 0), 3)), (16, ((59, 3, 0), 1)), (17, ((42, 2, 0), 1)), (18, ((182, 217, 0), 3)), (21, ((26, 3, 0), 1)), (22, ((172, 0, 0), 1))]
set_option maxRecDepth 20000 in
theorem tX8_drop_ok : xtok cX8_drop tX8_drop := by unfold xtok; decide +kernel
abbrev mX8_drop : xM := (yX8_drop, cX8_drop, 4, (some .int), tX8_drop)
def tX8_open : List (Nat × xE) := [(0, ((42, 0, 0), 1)), (1, ((26, 1, 0), 1)), (2, ((182, 138, 0), 3)), (5, ((75, 3, 0), 1)), (6, ((42, 3, 0), 1)), (7, ((199, 12, 0), 3)), (10, ((2, 0, (-1)), 1)), (11, ((172, 0, 0), 1)), (12, ((42, 0, 0), 1)), (13, ((180, 56, 0), 3)), (16, ((180, 218, 0), 3)), (19, ((16, 0, 12), 2)), (21, ((161, 27, 0), 3)), (24, ((16, 0, (-3)), 2)), (26, ((172, 0, 0), 1)), (27, ((42, 0, 0), 1)), (28, ((180, 49, 0), 3)), (31, ((42, 3, 0), 1)), (32, ((182, 155, 0), 3)), (35, ((54, 4, 0), 2)), (37, ((21, 4, 0), 2)), (39, ((155, 51, 0), 3)), (42, ((42, 0, 0), 1)), (43, ((16, 0, (-5)), 2)), (45, ((21, 4, 0), 2)), (47, ((182, 219, 0), 3)), (50, ((172, 0, 0), 1)), (51, ((26, 2, 0), 1)), (52, ((153, 69, 0), 3)), (55, ((42, 0, 0), 1)), (56, ((180, 49, 0), 3)), (59, ((26, 2, 0), 1)), (60, ((182, 159, 0), 3)), (63, ((154, 69, 0), 3)), (66, ((16, 0, (-6)), 2)), (68, ((172, 0, 0), 1)), (69, ((42, 0, 0), 1)), (70, ((180, 56, 0), 3)), (73, ((42, 0, 0), 1)), (74, ((180, 49, 0), 3)), (77, ((180, 222, 0), 3)), (80, ((182, 225, 0), 3)), (83, ((54, 5, 0), 2)), (85, ((21, 5, 0), 2)), (87, ((155, 99, 0), 3)), (90, ((42, 0, 0), 1)), (91, ((16, 0, (-7)), 2)), (93, ((21, 5, 0), 2)), (95, ((182, 219, 0), 3)), (98, ((172, 0, 0), 1)), (99, ((42, 0, 0), 1)), (100, ((180, 56, 0), 3)), (103, ((42, 0, 0), 1)), (104, ((180, 49, 0), 3)), (107, ((180, 222, 0), 3)), (110, ((182, 229, 0), 3)), (113, ((54, 6, 0), 2)), (115, ((21, 6, 0), 2)), (117, ((155, 129, 0), 3)), (120, ((42, 0, 0), 1)), (121, ((16, 0, (-8)), 2)), (123, ((21, 6, 0), 2)), (125, ((182, 219, 0), 3)), (128, ((172, 0, 0), 1)), (129, ((42, 0, 0), 1)), (130, ((180, 56, 0), 3)), (133, ((42, 0, 0), 1)), (134, ((180, 49, 0), 3)), (137, ((182, 232, 0), 3)), (140, ((182, 236, 0), 3)), (143, ((172, 0, 0), 1))]
set_option maxRecDepth 20000 in
theorem tX8_open_ok : xtok cX8_open tX8_open := by unfold xtok; decide +kernel
abbrev mX8_open : xM := (yX8_open, cX8_open, 7, (some .int), tX8_open)
def tX8_why : List (Nat × xE) := [(0, ((42, 0, 0), 1)), (1, ((180, 239, 0), 3)), (4, ((172, 0, 0), 1))]
set_option maxRecDepth 20000 in
theorem tX8_why_ok : xtok cX8_why tX8_why := by unfold xtok; decide +kernel
abbrev mX8_why : xM := (yX8_why, cX8_why, 1, (some .int), tX8_why)
def tX8_entry : List (Nat × xE) := [(0, ((42, 0, 0), 1)), (1, ((180, 56, 0), 3)), (4, ((26, 1, 0), 1)), (5, ((182, 242, 0), 3)), (8, ((75, 3, 0), 1)), (9, ((42, 3, 0), 1)), (10, ((198, 17, 0), 3)), (13, ((26, 2, 0), 1)), (14, ((156, 20, 0), 3)), (17, ((16, 0, (-2)), 2)), (19, ((172, 0, 0), 1)), (20, ((26, 2, 0), 1)), (68, ((42, 3, 0), 1)), (69, ((180, 245, 0), 3)), (72, ((180, 248, 0), 3)), (75, ((172, 0, 0), 1)), (76, ((42, 3, 0), 1)), (77, ((180, 245, 0), 3)), (80, ((180, 251, 0), 3)), (83, ((172, 0, 0), 1)), (84, ((42, 3, 0), 1)), (85, ((180, 245, 0), 3)), (88, ((180, 254, 0), 3)), (91, ((172, 0, 0), 1)), (92, ((42, 3, 0), 1)), (93, ((180, 245, 0), 3)), (96, ((180, 107, 0), 3)), (99, ((172, 0, 0), 1)), (100, ((42, 3, 0), 1)), (101, ((180, 245, 0), 3)), (104, ((180, 86, 0), 3)), (107, ((172, 0, 0), 1)), (108, ((42, 3, 0), 1)), (109, ((180, 245, 0), 3)), (112, ((180, 97, 0), 3)), (115, ((172, 0, 0), 1)), (116, ((42, 3, 0), 1)), (117, ((180, 257, 0), 3)), (120, ((153, 127, 0), 3)), (123, ((2, 0, 1), 1)), (124, ((167, 128, 0), 3)), (127, ((2, 0, 0), 1)), (128, ((172, 0, 0), 1)), (129, ((42, 3, 0), 1)), (130, ((180, 260, 0), 3)), (133, ((172, 0, 0), 1)), (134, ((42, 3, 0), 1)), (135, ((26, 2, 0), 1)), (136, ((16, 0, 8), 2)), (138, ((100, 0, 0), 1)), (139, ((182, 263, 0), 3)), (142, ((172, 0, 0), 1))]
set_option maxRecDepth 20000 in
theorem tX8_entry_ok : xtok cX8_entry tX8_entry := by unfold xtok; decide +kernel
theorem dX8_entry_21 : decode cX8_entry 21 = .ok (.tableswitch 113 0 7 #[47, 55, 63, 71, 79, 87, 95, 108], 47) := by decide +kernel
abbrev mX8_entry : xM := (yX8_entry, cX8_entry, 4, (some .int), tX8_entry)
def tX8_close : List (Nat × xE) := [(0, ((42, 0, 0), 1)), (1, ((26, 1, 0), 1)), (2, ((2, 0, 1), 1)), (3, ((182, 266, 0), 3)), (6, ((172, 0, 0), 1))]
set_option maxRecDepth 20000 in
theorem tX8_close_ok : xtok cX8_close tX8_close := by unfold xtok; decide +kernel
abbrev mX8_close : xM := (yX8_close, cX8_close, 2, (some .int), tX8_close)
def tX8_reopen : List (Nat × xE) := [(0, ((42, 0, 0), 1)), (1, ((26, 1, 0), 1)), (2, ((2, 0, 0), 1)), (3, ((182, 266, 0), 3)), (6, ((172, 0, 0), 1))]
set_option maxRecDepth 20000 in
theorem tX8_reopen_ok : xtok cX8_reopen tX8_reopen := by unfold xtok; decide +kernel
abbrev mX8_reopen : xM := (yX8_reopen, cX8_reopen, 2, (some .int), tX8_reopen)
def tX8_overlay : List (Nat × xE) := [(0, ((42, 0, 0), 1)), (1, ((180, 56, 0), 3)), (4, ((26, 1, 0), 1)), (5, ((182, 242, 0), 3)), (8, ((75, 3, 0), 1)), (9, ((42, 3, 0), 1)), (10, ((198, 24, 0), 3)), (13, ((42, 0, 0), 1)), (14, ((180, 56, 0), 3)), (17, ((26, 2, 0), 1)), (18, ((182, 242, 0), 3)), (21, ((199, 26, 0), 3)), (24, ((2, 0, (-1)), 1)), (25, ((172, 0, 0), 1)), (26, ((26, 2, 0), 1)), (27, ((26, 1, 0), 1)), (28, ((159, 39, 0), 3)), (31, ((42, 3, 0), 1)), (32, ((26, 2, 0), 1)), (33, ((182, 270, 0), 3)), (36, ((153, 42, 0), 3)), (39, ((16, 0, (-4)), 2)), (41, ((172, 0, 0), 1)), (42, ((42, 3, 0), 1)), (43, ((180, 260, 0), 3)), (46, ((2, 0, 4), 1)), (47, ((161, 53, 0), 3)), (50, ((16, 0, (-3)), 2)), (52, ((172, 0, 0), 1)), (53, ((42, 3, 0), 1)), (54, ((26, 2, 0), 1)), (55, ((182, 273, 0), 3)), (58, ((42, 3, 0), 1)), (59, ((180, 260, 0), 3)), (62, ((172, 0, 0), 1))]
set_option maxRecDepth 20000 in
theorem tX8_overlay_ok : xtok cX8_overlay tX8_overlay := by unfold xtok; decide +kernel
abbrev mX8_overlay : xM := (yX8_overlay, cX8_overlay, 4, (some .int), tX8_overlay)
def tX8_find : List (Nat × xE) := [(0, ((42, 0, 0), 1)), (1, ((180, 56, 0), 3)), (4, ((26, 1, 0), 1)), (5, ((182, 242, 0), 3)), (8, ((198, 21, 0), 3)), (11, ((26, 2, 0), 1)), (12, ((17, 0, 256), 3)), (15, ((184, 67, 0), 3)), (18, ((154, 24, 0), 3)), (21, ((16, 0, (-2)), 2)), (23, ((172, 0, 0), 1)), (24, ((42, 0, 0), 1)), (25, ((180, 63, 0), 3)), (28, ((42, 0, 0), 1)), (29, ((180, 56, 0), 3)), (32, ((26, 1, 0), 1)), (33, ((26, 2, 0), 1)), (34, ((182, 276, 0), 3)), (37, ((172, 0, 0), 1))]
set_option maxRecDepth 20000 in
theorem tX8_find_ok : xtok cX8_find tX8_find := by unfold xtok; decide +kernel
abbrev mX8_find : xM := (yX8_find, cX8_find, 3, (some .int), tX8_find)
def tX8_path : List (Nat × xE) := [(0, ((42, 0, 0), 1)), (1, ((180, 56, 0), 3)), (4, ((26, 1, 0), 1)), (5, ((182, 242, 0), 3)), (8, ((198, 21, 0), 3)), (11, ((26, 2, 0), 1)), (12, ((17, 0, 256), 3)), (15, ((184, 67, 0), 3)), (18, ((154, 23, 0), 3)), (21, ((2, 0, (-1)), 1)), (22, ((172, 0, 0), 1)), (23, ((42, 0, 0), 1)), (24, ((180, 63, 0), 3)), (27, ((42, 0, 0), 1)), (28, ((180, 56, 0), 3)), (31, ((26, 1, 0), 1)), (32, ((26, 2, 0), 1)), (33, ((182, 276, 0), 3)), (36, ((87, 0, 0), 1)), (37, ((42, 0, 0), 1)), (38, ((180, 63, 0), 3)), (41, ((26, 3, 0), 1)), (42, ((182, 280, 0), 3)), (45, ((172, 0, 0), 1))]
set_option maxRecDepth 20000 in
theorem tX8_path_ok : xtok cX8_path tX8_path := by unfold xtok; decide +kernel
abbrev mX8_path : xM := (yX8_path, cX8_path, 4, (some .int), tX8_path)
def tX8_page : List (Nat × xE) := [(0, ((42, 0, 0), 1)), (1, ((180, 56, 0), 3)), (4, ((26, 1, 0), 1)), (5, ((182, 242, 0), 3)), (8, ((198, 21, 0), 3)), (11, ((26, 2, 0), 1)), (12, ((17, 0, 256), 3)), (15, ((184, 67, 0), 3)), (18, ((154, 24, 0), 3)), (21, ((16, 0, (-2)), 2)), (23, ((172, 0, 0), 1)), (24, ((42, 0, 0), 1)), (25, ((26, 1, 0), 1)), (26, ((26, 2, 0), 1)), (27, ((182, 283, 0), 3)), (30, ((172, 0, 0), 1))]
set_option maxRecDepth 20000 in
theorem tX8_page_ok : xtok cX8_page tX8_page := by unfold xtok; decide +kernel
abbrev mX8_page : xM := (yX8_page, cX8_page, 3, (some .int), tX8_page)
def tX8_read : List (Nat × xE) := [(0, ((42, 0, 0), 1)), (1, ((180, 56, 0), 3)), (4, ((26, 1, 0), 1)), (5, ((182, 242, 0), 3)), (8, ((198, 21, 0), 3)), (11, ((26, 2, 0), 1)), (12, ((17, 0, 256), 3)), (15, ((184, 67, 0), 3)), (18, ((154, 23, 0), 3)), (21, ((2, 0, (-1)), 1)), (22, ((172, 0, 0), 1)), (23, ((42, 0, 0), 1)), (24, ((180, 56, 0), 3)), (27, ((42, 0, 0), 1)), (28, ((26, 1, 0), 1)), (29, ((26, 2, 0), 1)), (30, ((182, 283, 0), 3)), (33, ((182, 242, 0), 3)), (36, ((58, 4, 0), 2)), (38, ((25, 4, 0), 2)), (40, ((199, 47, 0), 3)), (43, ((2, 0, (-1)), 1)), (44, ((167, 65, 0), 3)), (47, ((25, 4, 0), 2)), (49, ((180, 245, 0), 3)), (52, ((25, 4, 0), 2)), (54, ((180, 245, 0), 3)), (57, ((26, 2, 0), 1)), (58, ((182, 103, 0), 3)), (61, ((26, 3, 0), 1)), (62, ((182, 286, 0), 3)), (65, ((172, 0, 0), 1))]
set_option maxRecDepth 20000 in
theorem tX8_read_ok : xtok cX8_read tX8_read := by unfold xtok; decide +kernel
abbrev mX8_read : xM := (yX8_read, cX8_read, 5, (some .int), tX8_read)
def tX8_edition : List (Nat × xE) := [(0, ((42, 0, 0), 1)), (1, ((180, 56, 0), 3)), (4, ((26, 1, 0), 1)), (5, ((26, 2, 0), 1)), (6, ((182, 289, 0), 3)), (9, ((172, 0, 0), 1))]
set_option maxRecDepth 20000 in
theorem tX8_edition_ok : xtok cX8_edition tX8_edition := by unfold xtok; decide +kernel
abbrev mX8_edition : xM := (yX8_edition, cX8_edition, 3, (some .int), tX8_edition)
def tX8_needed : List (Nat × xE) := [(0, ((42, 0, 0), 1)), (1, ((180, 56, 0), 3)), (4, ((26, 1, 0), 1)), (5, ((26, 2, 0), 1)), (6, ((182, 292, 0), 3)), (9, ((172, 0, 0), 1))]
set_option maxRecDepth 20000 in
theorem tX8_needed_ok : xtok cX8_needed tX8_needed := by unfold xtok; decide +kernel
abbrev mX8_needed : xM := (yX8_needed, cX8_needed, 3, (some .int), tX8_needed)
def tX8_isBelow : List (Nat × xE) := [(0, ((26, 0, 0), 1)), (1, ((155, 13, 0), 3)), (4, ((26, 0, 0), 1)), (5, ((26, 1, 0), 1)), (6, ((162, 13, 0), 3)), (9, ((2, 0, 1), 1)), (10, ((167, 14, 0), 3)), (13, ((2, 0, 0), 1)), (14, ((172, 0, 0), 1))]
set_option maxRecDepth 20000 in
theorem tX8_isBelow_ok : xtok cX8_isBelow tX8_isBelow := by unfold xtok; decide +kernel
abbrev mX8_isBelow : xM := (yX8_isBelow, cX8_isBelow, 2, (some .boolean), tX8_isBelow)
def tX8_isPartSize : List (Nat × xE) := [(0, ((26, 0, 0), 1)), (1, ((16, 0, 8), 2)), (3, ((161, 16, 0), 3)), (6, ((26, 0, 0), 1)), (7, ((16, 0, 100), 2)), (9, ((163, 16, 0), 3)), (12, ((2, 0, 1), 1)), (13, ((167, 17, 0), 3)), (16, ((2, 0, 0), 1)), (17, ((172, 0, 0), 1))]
set_option maxRecDepth 20000 in
theorem tX8_isPartSize_ok : xtok cX8_isPartSize tX8_isPartSize := by unfold xtok; decide +kernel
abbrev mX8_isPartSize : xM := (yX8_isPartSize, cX8_isPartSize, 1, (some .boolean), tX8_isPartSize)
def tX8_partCount : List (Nat × xE) := [(0, ((26, 1, 0), 1)), (1, ((2, 0, 1), 1)), (2, ((162, 9, 0), 3)), (5, ((2, 0, 0), 1)), (6, ((167, 16, 0), 3)), (9, ((26, 0, 0), 1)), (10, ((26, 1, 0), 1)), (11, ((96, 0, 0), 1)), (12, ((2, 0, 1), 1)), (13, ((100, 0, 0), 1)), (14, ((26, 1, 0), 1)), (15, ((108, 0, 0), 1)), (16, ((172, 0, 0), 1))]
set_option maxRecDepth 20000 in
theorem tX8_partCount_ok : xtok cX8_partCount tX8_partCount := by unfold xtok; decide +kernel
abbrev mX8_partCount : xM := (yX8_partCount, cX8_partCount, 2, (some .int), tX8_partCount)
def tX8_xorByte : List (Nat × xE) := [(0, ((42, 0, 0), 1)), (1, ((26, 1, 0), 1)), (2, ((182, 295, 0), 3)), (5, ((153, 20, 0), 3)), (8, ((26, 2, 0), 1)), (9, ((2, 0, 1), 1)), (10, ((161, 20, 0), 3)), (13, ((26, 2, 0), 1)), (14, ((17, 0, 256), 3)), (17, ((161, 22, 0), 3)), (20, ((2, 0, (-1)), 1)), (21, ((172, 0, 0), 1)), (22, ((42, 0, 0), 1)), (23, ((26, 1, 0), 1)), (24, ((26, 2, 0), 1)), (25, ((182, 298, 0), 3)), (28, ((2, 0, 1), 1)), (29, ((172, 0, 0), 1))]
set_option maxRecDepth 20000 in
theorem tX8_xorByte_ok : xtok cX8_xorByte tX8_xorByte := by unfold xtok; decide +kernel
abbrev mX8_xorByte : xM := (yX8_xorByte, cX8_xorByte, 3, (some .int), tX8_xorByte)
def tX8_hasRowInDraft : List (Nat × xE) := [(0, ((42, 0, 0), 1)), (1, ((180, 78, 0), 3)), (4, ((153, 21, 0), 3)), (7, ((42, 0, 0), 1)), (8, ((180, 12, 0), 3)), (11, ((180, 107, 0), 3)), (14, ((158, 21, 0), 3)), (17, ((2, 0, 1), 1)), (18, ((167, 22, 0), 3)), (21, ((2, 0, 0), 1)), (22, ((172, 0, 0), 1))]
set_option maxRecDepth 20000 in
theorem tX8_hasRowInDraft_ok : xtok cX8_hasRowInDraft tX8_hasRowInDraft := by unfold xtok; decide +kernel
abbrev mX8_hasRowInDraft : xM := (yX8_hasRowInDraft, cX8_hasRowInDraft, 1, (some .boolean), tX8_hasRowInDraft)
def tX8_packAt : List (Nat × xE) := [(0, ((26, 1, 0), 1)), (1, ((42, 0, 0), 1)), (2, ((180, 127, 0), 3)), (5, ((184, 67, 0), 3)), (8, ((153, 20, 0), 3)), (11, ((42, 0, 0), 1)), (12, ((180, 18, 0), 3)), (15, ((26, 1, 0), 1)), (16, ((50, 0, 0), 1)), (17, ((167, 21, 0), 3)), (20, ((1, 0, 0), 1)), (21, ((176, 0, 0), 1))]
set_option maxRecDepth 20000 in
theorem tX8_packAt_ok : xtok cX8_packAt tX8_packAt := by unfold xtok; decide +kernel
abbrev mX8_packAt : xM := (yX8_packAt, cX8_packAt, 2, (some (.object "PackPost$ByteRow")), tX8_packAt)
def tX8_bookAt : List (Nat × xE) := [(0, ((26, 1, 0), 1)), (1, ((16, 0, 16), 2)), (3, ((184, 67, 0), 3)), (6, ((153, 18, 0), 3)), (9, ((42, 0, 0), 1)), (10, ((180, 34, 0), 3)), (13, ((26, 1, 0), 1)), (14, ((50, 0, 0), 1)), (15, ((167, 19, 0), 3)), (18, ((1, 0, 0), 1)), (19, ((176, 0, 0), 1))]
set_option maxRecDepth 20000 in
theorem tX8_bookAt_ok : xtok cX8_bookAt tX8_bookAt := by unfold xtok; decide +kernel
abbrev mX8_bookAt : xM := (yX8_bookAt, cX8_bookAt, 2, (some (.object "PackPost$Book")), tX8_bookAt)
def tX8_keepDesk : List (Nat × xE) := [(0, ((42, 0, 0), 1)), (1, ((180, 127, 0), 3)), (4, ((16, 0, 16), 2)), (6, ((162, 22, 0), 3)), (9, ((42, 0, 0), 1)), (10, ((180, 25, 0), 3)), (13, ((180, 142, 0), 3)), (16, ((17, 0, 700), 3)), (19, ((164, 25, 0), 3)), (22, ((16, 0, (-3)), 2)), (24, ((172, 0, 0), 1)), (25, ((42, 0, 0), 1)), (26, ((180, 18, 0), 3)), (29, ((42, 0, 0), 1)), (30, ((180, 127, 0), 3)), (33, ((42, 0, 0), 1)), (34, ((180, 25, 0), 3)), (37, ((2, 0, 0), 1)), (38, ((42, 0, 0), 1)), (39, ((180, 25, 0), 3)), (42, ((180, 142, 0), 3)), (45, ((182, 301, 0), 3)), (48, ((83, 0, 0), 1)), (49, ((42, 0, 0), 1)), (50, ((89, 0, 0), 1)), (51, ((180, 127, 0), 3)), (54, ((2, 0, 1), 1)), (55, ((96, 0, 0), 1)), (56, ((181, 127, 0), 3)), (59, ((42, 0, 0), 1)), (60, ((180, 127, 0), 3)), (63, ((2, 0, 1), 1)), (64, ((100, 0, 0), 1)), (65, ((172, 0, 0), 1))]
set_option maxRecDepth 20000 in
theorem tX8_keepDesk_ok : xtok cX8_keepDesk tX8_keepDesk := by unfold xtok; decide +kernel
abbrev mX8_keepDesk : xM := (yX8_keepDesk, cX8_keepDesk, 1, (some .int), tX8_keepDesk)
def tX8_isReelSpoiled : List (Nat × xE) := [(0, ((42, 0, 0), 1)), (1, ((180, 29, 0), 3)), (4, ((2, 0, 3), 1)), (5, ((182, 145, 0), 3)), (8, ((59, 1, 0), 1)), (9, ((42, 0, 0), 1)), (10, ((180, 29, 0), 3)), (13, ((180, 142, 0), 3)), (16, ((2, 0, 4), 1)), (17, ((100, 0, 0), 1)), (18, ((59, 2, 0), 1)), (19, ((42, 0, 0), 1)), (20, ((180, 29, 0), 3)), (23, ((180, 142, 0), 3)), (26, ((16, 0, 8), 2)), (28, ((164, 87, 0), 3)), (31, ((42, 0, 0), 1)), (32, ((180, 29, 0), 3)), (35, ((2, 0, 0), 1)), (36, ((182, 145, 0), 3)), (39, ((16, 0, 112), 2)), (41, ((160, 87, 0), 3)), (44, ((26, 1, 0), 1)), (45, ((2, 0, 1), 1)), (46, ((161, 87, 0), 3)), (49, ((26, 1, 0), 1)), (50, ((16, 0, 88), 2)), (52, ((163, 87, 0), 3)), (55, ((42, 0, 0), 1)), (56, ((180, 29, 0), 3)), (59, ((2, 0, 2), 1)), (60, ((182, 145, 0), 3)), (63, ((26, 1, 0), 1)), (64, ((162, 87, 0), 3)), (67, ((42, 0, 0), 1)), (68, ((180, 29, 0), 3)), (71, ((26, 2, 0), 1)), (72, ((182, 305, 0), 3)), (75, ((42, 0, 0), 1)), (76, ((180, 29, 0), 3)), (79, ((2, 0, 2), 1)), (80, ((26, 2, 0), 1)), (81, ((182, 184, 0), 3)), (84, ((159, 91, 0), 3)), (87, ((2, 0, 1), 1)), (88, ((167, 92, 0), 3)), (91, ((2, 0, 0), 1)), (92, ((172, 0, 0), 1))]
set_option maxRecDepth 20000 in
theorem tX8_isReelSpoiled_ok : xtok cX8_isReelSpoiled tX8_isReelSpoiled := by unfold xtok; decide +kernel
abbrev mX8_isReelSpoiled : xM := (yX8_isReelSpoiled, cX8_isReelSpoiled, 3, (some .boolean), tX8_isReelSpoiled)
def tX8_refuse : List (Nat × xE) := [(0, ((42, 0, 0), 1)), (1, ((26, 2, 0), 1)), (2, ((181, 239, 0), 3)), (5, ((26, 1, 0), 1)), (6, ((172, 0, 0), 1))]
set_option maxRecDepth 20000 in
theorem tX8_refuse_ok : xtok cX8_refuse tX8_refuse := by unfold xtok; decide +kernel
abbrev mX8_refuse : xM := (yX8_refuse, cX8_refuse, 3, (some .int), tX8_refuse)
def tX8_setClosed : List (Nat × xE) := [(0, ((42, 0, 0), 1)), (1, ((180, 56, 0), 3)), (4, ((26, 1, 0), 1)), (5, ((182, 242, 0), 3)), (8, ((75, 3, 0), 1)), (9, ((42, 3, 0), 1)), (10, ((199, 15, 0), 3)), (13, ((2, 0, (-1)), 1)), (14, ((172, 0, 0), 1)), (15, ((42, 3, 0), 1)), (16, ((180, 257, 0), 3)), (19, ((26, 2, 0), 1)), (20, ((160, 26, 0), 3)), (23, ((16, 0, (-2)), 2)), (25, ((172, 0, 0), 1)), (26, ((42, 3, 0), 1)), (27, ((26, 2, 0), 1)), (28, ((181, 257, 0), 3)), (31, ((2, 0, 1), 1)), (32, ((172, 0, 0), 1))]
set_option maxRecDepth 20000 in
theorem tX8_setClosed_ok : xtok cX8_setClosed tX8_setClosed := by unfold xtok; decide +kernel
abbrev mX8_setClosed : xM := (yX8_setClosed, cX8_setClosed, 4, (some .int), tX8_setClosed)
def tX8_pageEntry : List (Nat × xE) := [(0, ((42, 0, 0), 1)), (1, ((180, 56, 0), 3)), (4, ((26, 1, 0), 1)), (5, ((26, 2, 0), 1)), (6, ((182, 308, 0), 3)), (9, ((59, 3, 0), 1)), (10, ((26, 3, 0), 1)), (11, ((155, 18, 0), 3)), (14, ((26, 3, 0), 1)), (15, ((167, 31, 0), 3)), (18, ((42, 0, 0), 1)), (19, ((180, 63, 0), 3)), (22, ((42, 0, 0), 1)), (23, ((180, 56, 0), 3)), (26, ((26, 1, 0), 1)), (27, ((26, 2, 0), 1)), (28, ((182, 276, 0), 3)), (31, ((172, 0, 0), 1))]
set_option maxRecDepth 20000 in
theorem tX8_pageEntry_ok : xtok cX8_pageEntry tX8_pageEntry := by unfold xtok; decide +kernel
abbrev mX8_pageEntry : xM := (yX8_pageEntry, cX8_pageEntry, 4, (some .int), tX8_pageEntry)
def tX9_init : List (Nat × xE) := [(0, ((42, 0, 0), 1)), (1, ((183, 1, 0), 3)), (4, ((42, 0, 0), 1)), (5, ((2, 0, 4), 1)), (6, ((188, 10, 0), 2)), (8, ((181, 7, 0), 3)), (11, ((42, 0, 0), 1)), (12, ((2, 0, 4), 1)), (13, ((188, 10, 0), 2)), (15, ((181, 13, 0), 3)), (18, ((42, 0, 0), 1)), (19, ((2, 0, 4), 1)), (20, ((188, 10, 0), 2)), (22, ((181, 16, 0), 3)), (25, ((42, 0, 0), 1)), (26, ((2, 0, 4), 1)), (27, ((188, 10, 0), 2)), (29, ((181, 19, 0), 3)), (32, ((42, 0, 0), 1)), (33, ((16, 0, 8), 2)), (35, ((188, 10, 0), 2)), (37, ((181, 22, 0), 3)), (40, ((42, 0, 0), 1)), (41, ((16, 0, 8), 2)), (43, ((188, 10, 0), 2)), (45, ((181, 25, 0), 3)), (48, ((42, 0, 0), 1)), (49, ((16, 0, 8), 2)), (51, ((188, 10, 0), 2)), (53, ((181, 28, 0), 3)), (56, ((42, 0, 0), 1)), (57, ((17, 0, 960), 3)), (60, ((188, 10, 0), 2)), (62, ((181, 31, 0), 3)), (65, ((42, 0, 0), 1)), (66, ((17, 0, 2400), 3)), (69, ((188, 10, 0), 2)), (71, ((181, 34, 0), 3)), (74, ((42, 0, 0), 1)), (75, ((17, 0, 480), 3)), (78, ((188, 10, 0), 2)), (80, ((181, 37, 0), 3)), (83, ((42, 0, 0), 1)), (84, ((17, 0, 11200), 3)), (87, ((188, 10, 0), 2)), (89, ((181, 40, 0), 3)), (92, ((42, 0, 0), 1)), (93, ((16, 0, 16), 2)), (95, ((188, 10, 0), 2)), (97, ((181, 43, 0), 3)), (100, ((42, 0, 0), 1)), (101, ((16, 0, 108), 2)), (103, ((188, 10, 0), 2)), (105, ((181, 46, 0), 3)), (108, ((42, 0, 0), 1)), (109, ((18, 49, 140800), 2)), (111, ((188, 8, 0), 2)), (113, ((181, 50, 0), 3)), (116, ((42, 0, 0), 1)), (117, ((17, 0, 1408), 3)), (120, ((188, 10, 0), 2)), (122, ((181, 54, 0), 3)), (125, ((42, 0, 0), 1)), (126, ((16, 0, 16), 2)), (128, ((188, 10, 0), 2)), (130, ((181, 57, 0), 3)), (133, ((42, 0, 0), 1)), (134, ((16, 0, 16), 2)), (136, ((188, 10, 0), 2)), (138, ((181, 60, 0), 3)), (141, ((42, 0, 0), 1)), (142, ((16, 0, 12), 2)), (144, ((188, 10, 0), 2)), (146, ((181, 63, 0), 3)), (149, ((42, 0, 0), 1)), (150, ((16, 0, 12), 2)), (152, ((188, 10, 0), 2)), (154, ((181, 66, 0), 3)), (157, ((42, 0, 0), 1)), (158, ((16, 0, 12), 2)), (160, ((188, 10, 0), 2)), (162, ((181, 69, 0), 3)), (165, ((42, 0, 0), 1)), (166, ((16, 0, 12), 2)), (168, ((188, 4, 0), 2)), (170, ((181, 72, 0), 3)), (173, ((42, 0, 0), 1)), (174, ((16, 0, 12), 2)), (176, ((188, 10, 0), 2)), (178, ((181, 76, 0), 3)), (181, ((42, 0, 0), 1)), (182, ((16, 0, 48), 2)), (184, ((188, 10, 0), 2)), (186, ((181, 79, 0), 3)), (189, ((42, 0, 0), 1)), (190, ((16, 0, 12), 2)), (192, ((188, 10, 0), 2)), (194, ((181, 82, 0), 3)), (197, ((42, 0, 0), 1)), (198, ((16, 0, 48), 2)), (200, ((188, 10, 0), 2)), (202, ((181, 85, 0), 3)), (205, ((42, 0, 0), 1)), (206, ((16, 0, 12), 2)), (208, ((188, 10, 0), 2)), (210, ((181, 88, 0), 3)), (213, ((42, 0, 0), 1)), (214, ((16, 0, 96), 2)), (216, ((188, 10, 0), 2)), (218, ((181, 91, 0), 3)), (221, ((42, 0, 0), 1)), (222, ((16, 0, 96), 2)), (224, ((188, 10, 0), 2)), (226, ((181, 94, 0), 3)), (229, ((42, 0, 0), 1)), (230, ((17, 0, 11520), 3)), (233, ((188, 10, 0), 2)), (235, ((181, 97, 0), 3)), (238, ((42, 0, 0), 1)), (239, ((16, 0, 12), 2)), (241, ((188, 10, 0), 2)), (243, ((181, 100, 0), 3)), (246, ((42, 0, 0), 1)), (247, ((16, 0, 48), 2)), (249, ((188, 10, 0), 2)), (251, ((181, 103, 0), 3)), (254, ((42, 0, 0), 1)), (255, ((16, 0, 12), 2)), (257, ((188, 4, 0), 2)), (259, ((181, 106, 0), 3)), (262, ((42, 0, 0), 1)), (263, ((16, 0, 12), 2)), (265, ((188, 4, 0), 2)), (267, ((181, 109, 0), 3)), (270, ((42, 0, 0), 1)), (271, ((16, 0, 13), 2)), (273, ((188, 10, 0), 2)), (275, ((181, 112, 0), 3)), (278, ((42, 0, 0), 1)), (279, ((16, 0, 13), 2)), (281, ((188, 10, 0), 2)), (283, ((181, 115, 0), 3)), (286, ((42, 0, 0), 1)), (287, ((16, 0, 12), 2)), (289, ((188, 10, 0), 2)), (291, ((181, 118, 0), 3)), (294, ((177, 0, 0), 1))]
set_option maxRecDepth 20000 in
theorem tX9_init_ok : xtok cX9_init tX9_init := by unfold xtok; decide +kernel
abbrev mX9_init : xM := (yX9_init, cX9_init, 1, none, tX9_init)
def tX9_in : List (Nat × xE) := [(0, ((26, 0, 0), 1)), (1, ((155, 13, 0), 3)), (4, ((26, 0, 0), 1)), (5, ((26, 1, 0), 1)), (6, ((163, 13, 0), 3)), (9, ((2, 0, 1), 1)), (10, ((167, 14, 0), 3)), (13, ((2, 0, 0), 1)), (14, ((172, 0, 0), 1))]
set_option maxRecDepth 20000 in
theorem tX9_in_ok : xtok cX9_in tX9_in := by unfold xtok; decide +kernel
abbrev mX9_in : xM := (yX9_in, cX9_in, 2, (some .boolean), tX9_in)
def tX9_draft : List (Nat × xE) := [(0, ((26, 1, 0), 1)), (1, ((16, 0, 63), 2)), (3, ((184, 121, 0), 3)), (6, ((153, 26, 0), 3)), (9, ((26, 2, 0), 1)), (10, ((16, 0, 99), 2)), (12, ((184, 121, 0), 3)), (15, ((153, 26, 0), 3)), (18, ((26, 3, 0), 1)), (19, ((2, 0, 1), 1)), (20, ((184, 121, 0), 3)), (23, ((154, 28, 0), 3)), (26, ((2, 0, (-1)), 1)), (27, ((172, 0, 0), 1)), (28, ((42, 0, 0), 1)), (29, ((2, 0, 1), 1)), (30, ((181, 125, 0), 3)), (33, ((42, 0, 0), 1)), (34, ((26, 1, 0), 1)), (35, ((181, 129, 0), 3)), (38, ((42, 0, 0), 1)), (39, ((26, 2, 0), 1)), (40, ((181, 133, 0), 3)), (43, ((42, 0, 0), 1)), (44, ((26, 3, 0), 1)), (45, ((181, 136, 0), 3)), (48, ((42, 0, 0), 1)), (49, ((2, 0, 0), 1)), (50, ((181, 139, 0), 3)), (53, ((42, 0, 0), 1)), (54, ((2, 0, 0), 1)), (55, ((181, 142, 0), 3)), (58, ((42, 0, 0), 1)), (59, ((2, 0, 0), 1)), (60, ((181, 145, 0), 3)), (63, ((2, 0, 1), 1)), (64, ((172, 0, 0), 1))]
set_option maxRecDepth 20000 in
theorem tX9_draft_ok : xtok cX9_draft tX9_draft := by unfold xtok; decide +kernel
abbrev mX9_draft : xM := (yX9_draft, cX9_draft, 4, (some .int), tX9_draft)
def tX9_has : List (Nat × xE) := [(0, ((2, 0, 0), 1)), (1, ((59, 3, 0), 1)), (2, ((2, 0, 0), 1)), (3, ((54, 4, 0), 2)), (5, ((21, 4, 0), 2)), (7, ((26, 1, 0), 1)), (8, ((162, 35, 0), 3)), (11, ((26, 3, 0), 1)), (12, ((154, 23, 0), 3)), (15, ((42, 0, 0), 1)), (16, ((21, 4, 0), 2)), (18, ((46, 0, 0), 1)), (19, ((26, 2, 0), 1)), (20, ((160, 27, 0), 3)), (23, ((2, 0, 1), 1)), (24, ((167, 28, 0), 3)), (27, ((2, 0, 0), 1)), (28, ((59, 3, 0), 1)), (29, ((132, 4, 1), 3)), (32, ((167, 5, 0), 3)), (35, ((26, 3, 0), 1)), (36, ((172, 0, 0), 1))]
set_option maxRecDepth 20000 in
theorem tX9_has_ok : xtok cX9_has tX9_has := by unfold xtok; decide +kernel
abbrev mX9_has : xM := (yX9_has, cX9_has, 5, (some .boolean), tX9_has)
def tX9_need : List (Nat × xE) := [(0, ((26, 1, 0), 1)), (1, ((16, 0, 63), 2)), (3, ((184, 121, 0), 3)), (6, ((153, 18, 0), 3)), (9, ((26, 2, 0), 1)), (10, ((16, 0, 99), 2)), (12, ((184, 121, 0), 3)), (15, ((154, 20, 0), 3)), (18, ((2, 0, (-1)), 1)), (19, ((172, 0, 0), 1)), (20, ((42, 0, 0), 1)), (21, ((180, 125, 0), 3)), (24, ((154, 30, 0), 3)), (27, ((16, 0, (-2)), 2)), (29, ((172, 0, 0), 1)), (30, ((42, 0, 0), 1)), (31, ((180, 7, 0), 3)), (34, ((42, 0, 0), 1)), (35, ((180, 139, 0), 3)), (38, ((26, 1, 0), 1)), (39, ((184, 148, 0), 3)), (42, ((153, 48, 0), 3)), (45, ((16, 0, (-4)), 2)), (47, ((172, 0, 0), 1)), (48, ((42, 0, 0), 1)), (49, ((180, 139, 0), 3)), (52, ((2, 0, 4), 1)), (53, ((160, 59, 0), 3)), (56, ((16, 0, (-3)), 2)), (58, ((172, 0, 0), 1)), (59, ((42, 0, 0), 1)), (60, ((180, 7, 0), 3)), (63, ((42, 0, 0), 1)), (64, ((180, 139, 0), 3)), (67, ((26, 1, 0), 1)), (68, ((79, 0, 0), 1)), (69, ((42, 0, 0), 1)), (70, ((180, 13, 0), 3)), (73, ((42, 0, 0), 1)), (74, ((180, 139, 0), 3)), (77, ((26, 2, 0), 1)), (78, ((79, 0, 0), 1)), (79, ((42, 0, 0), 1)), (80, ((180, 16, 0), 3)), (83, ((42, 0, 0), 1)), (84, ((180, 139, 0), 3)), (87, ((26, 3, 0), 1)), (88, ((153, 95, 0), 3)), (91, ((2, 0, 1), 1)), (92, ((167, 96, 0), 3)), (95, ((2, 0, 0), 1)), (96, ((79, 0, 0), 1)), (97, ((42, 0, 0), 1)), (98, ((89, 0, 0), 1)), (99, ((180, 139, 0), 3)), (102, ((2, 0, 1), 1)), (103, ((96, 0, 0), 1)), (104, ((181, 139, 0), 3)), (107, ((42, 0, 0), 1)), (108, ((180, 139, 0), 3)), (111, ((172, 0, 0), 1))]
set_option maxRecDepth 20000 in
theorem tX9_need_ok : xtok cX9_need tX9_need := by unfold xtok; decide +kernel
abbrev mX9_need : xM := (yX9_need, cX9_need, 4, (some .int), tX9_need)
def tX9_seal : List (Nat × xE) := [(0, ((26, 1, 0), 1)), (1, ((16, 0, 15), 2)), (3, ((184, 121, 0), 3)), (6, ((154, 11, 0), 3)), (9, ((2, 0, (-1)), 1)), (10, ((172, 0, 0), 1)), (11, ((42, 0, 0), 1)), (12, ((180, 125, 0), 3)), (15, ((154, 21, 0), 3)), (18, ((16, 0, (-2)), 2)), (20, ((172, 0, 0), 1)), (21, ((42, 0, 0), 1)), (22, ((180, 19, 0), 3)), (25, ((42, 0, 0), 1)), (26, ((180, 142, 0), 3)), (29, ((26, 1, 0), 1)), (30, ((184, 148, 0), 3)), (33, ((153, 39, 0), 3)), (36, ((16, 0, (-4)), 2)), (38, ((172, 0, 0), 1)), (39, ((42, 0, 0), 1)), (40, ((180, 142, 0), 3)), (43, ((2, 0, 4), 1)), (44, ((160, 50, 0), 3)), (47, ((16, 0, (-3)), 2)), (49, ((172, 0, 0), 1)), (50, ((42, 0, 0), 1)), (51, ((180, 19, 0), 3)), (54, ((42, 0, 0), 1)), (55, ((180, 142, 0), 3)), (58, ((26, 1, 0), 1)), (59, ((79, 0, 0), 1)), (60, ((42, 0, 0), 1)), (61, ((89, 0, 0), 1)), (62, ((180, 142, 0), 3)), (65, ((2, 0, 1), 1)), (66, ((96, 0, 0), 1)), (67, ((181, 142, 0), 3)), (70, ((42, 0, 0), 1)), (71, ((180, 142, 0), 3)), (74, ((172, 0, 0), 1))]
set_option maxRecDepth 20000 in
theorem tX9_seal_ok : xtok cX9_seal tX9_seal := by unfold xtok; decide +kernel
abbrev mX9_seal : xM := (yX9_seal, cX9_seal, 2, (some .int), tX9_seal)
def tX9_row : List (Nat × xE) := [(0, ((26, 1, 0), 1)), (1, ((17, 0, 255), 3)), (4, ((184, 121, 0), 3)), (7, ((153, 18, 0), 3)), (10, ((26, 2, 0), 1)), (11, ((2, 0, 2), 1)), (12, ((184, 121, 0), 3)), (15, ((154, 20, 0), 3)), (18, ((2, 0, (-1)), 1)), (19, ((172, 0, 0), 1)), (20, ((42, 0, 0), 1)), (21, ((180, 125, 0), 3)), (24, ((154, 30, 0), 3)), (27, ((16, 0, (-2)), 2)), (29, ((172, 0, 0), 1)), (30, ((42, 0, 0), 1)), (31, ((180, 22, 0), 3)), (34, ((42, 0, 0), 1)), (35, ((180, 145, 0), 3)), (38, ((26, 1, 0), 1)), (39, ((184, 148, 0), 3)), (42, ((153, 48, 0), 3)), (45, ((16, 0, (-4)), 2)), (47, ((172, 0, 0), 1)), (48, ((42, 0, 0), 1)), (49, ((180, 145, 0), 3)), (52, ((16, 0, 8), 2)), (54, ((160, 60, 0), 3)), (57, ((16, 0, (-3)), 2)), (59, ((172, 0, 0), 1)), (60, ((42, 0, 0), 1)), (61, ((180, 22, 0), 3)), (64, ((42, 0, 0), 1)), (65, ((180, 145, 0), 3)), (68, ((26, 1, 0), 1)), (69, ((79, 0, 0), 1)), (70, ((42, 0, 0), 1)), (71, ((180, 25, 0), 3)), (74, ((42, 0, 0), 1)), (75, ((180, 145, 0), 3)), (78, ((26, 2, 0), 1)), (79, ((79, 0, 0), 1)), (80, ((42, 0, 0), 1)), (81, ((180, 28, 0), 3)), (84, ((42, 0, 0), 1)), (85, ((180, 145, 0), 3)), (88, ((2, 0, 0), 1)), (89, ((79, 0, 0), 1)), (90, ((42, 0, 0), 1)), (91, ((89, 0, 0), 1)), (92, ((180, 145, 0), 3)), (95, ((2, 0, 1), 1)), (96, ((96, 0, 0), 1)), (97, ((181, 145, 0), 3)), (100, ((42, 0, 0), 1)), (101, ((180, 145, 0), 3)), (104, ((172, 0, 0), 1))]
set_option maxRecDepth 20000 in
theorem tX9_row_ok : xtok cX9_row tX9_row := by unfold xtok; decide +kernel
abbrev mX9_row : xM := (yX9_row, cX9_row, 3, (some .int), tX9_row)
def tX9_one : List (Nat × xE) := [(0, ((26, 0, 0), 1)), (1, ((154, 8, 0), 3)), (4, ((26, 1, 0), 1)), (5, ((167, 38, 0), 3)), (8, ((26, 0, 0), 1)), (9, ((2, 0, 1), 1)), (10, ((160, 17, 0), 3)), (13, ((26, 2, 0), 1)), (14, ((167, 38, 0), 3)), (17, ((26, 0, 0), 1)), (18, ((2, 0, 2), 1)), (19, ((160, 26, 0), 3)), (22, ((26, 3, 0), 1)), (23, ((167, 38, 0), 3)), (26, ((26, 0, 0), 1)), (27, ((2, 0, 3), 1)), (28, ((160, 36, 0), 3)), (31, ((21, 4, 0), 2)), (33, ((167, 38, 0), 3)), (36, ((21, 5, 0), 2)), (38, ((172, 0, 0), 1))]
set_option maxRecDepth 20000 in
theorem tX9_one_ok : xtok cX9_one tX9_one := by unfold xtok; decide +kernel
abbrev mX9_one : xM := (yX9_one, cX9_one, 6, (some .int), tX9_one)
def tX9_addByte : List (Nat × xE) := [(0, ((42, 0, 0), 1)), (1, ((180, 31, 0), 3)), (4, ((16, 0, 120), 2)), (6, ((42, 0, 0), 1)), (7, ((180, 145, 0), 3)), (10, ((2, 0, 1), 1)), (11, ((100, 0, 0), 1)), (12, ((104, 0, 0), 1)), (13, ((42, 0, 0), 1)), (14, ((180, 28, 0), 3)), (17, ((42, 0, 0), 1)), (18, ((180, 145, 0), 3)), (21, ((2, 0, 1), 1)), (22, ((100, 0, 0), 1)), (23, ((46, 0, 0), 1)), (24, ((96, 0, 0), 1)), (25, ((26, 1, 0), 1)), (26, ((79, 0, 0), 1)), (27, ((42, 0, 0), 1)), (28, ((180, 28, 0), 3)), (31, ((42, 0, 0), 1)), (32, ((180, 145, 0), 3)), (35, ((2, 0, 1), 1)), (36, ((100, 0, 0), 1)), (37, ((92, 0, 0), 1)), (38, ((46, 0, 0), 1)), (39, ((2, 0, 1), 1)), (40, ((96, 0, 0), 1)), (41, ((79, 0, 0), 1)), (42, ((177, 0, 0), 1))]
set_option maxRecDepth 20000 in
theorem tX9_addByte_ok : xtok cX9_addByte tX9_addByte := by unfold xtok; decide +kernel
abbrev mX9_addByte : xM := (yX9_addByte, cX9_addByte, 2, none, tX9_addByte)
def tX9_add : List (Nat × xE) := [(0, ((2, 0, 0), 1)), (1, ((54, 6, 0), 2)), (3, ((21, 6, 0), 2)), (5, ((2, 0, 5), 1)), (6, ((162, 54, 0), 3)), (9, ((21, 6, 0), 2)), (11, ((26, 1, 0), 1)), (12, ((26, 2, 0), 1)), (13, ((26, 3, 0), 1)), (14, ((21, 4, 0), 2)), (16, ((21, 5, 0), 2)), (18, ((184, 152, 0), 3)), (21, ((2, 0, (-1)), 1)), (22, ((159, 54, 0), 3)), (25, ((21, 6, 0), 2)), (27, ((26, 1, 0), 1)), (28, ((26, 2, 0), 1)), (29, ((26, 3, 0), 1)), (30, ((21, 4, 0), 2)), (32, ((21, 5, 0), 2)), (34, ((184, 152, 0), 3)), (37, ((17, 0, 255), 3)), (40, ((184, 121, 0), 3)), (43, ((154, 48, 0), 3)), (46, ((2, 0, (-1)), 1)), (47, ((172, 0, 0), 1)), (48, ((132, 6, 1), 3)), (51, ((167, 3, 0), 3)), (54, ((42, 0, 0), 1)), (55, ((180, 125, 0), 3)), (58, ((153, 68, 0), 3)), (61, ((42, 0, 0), 1)), (62, ((180, 145, 0), 3)), (65, ((154, 71, 0), 3)), (68, ((16, 0, (-2)), 2)), (70, ((172, 0, 0), 1)), (71, ((42, 0, 0), 1)), (72, ((180, 28, 0), 3)), (75, ((42, 0, 0), 1)), (76, ((180, 145, 0), 3)), (79, ((2, 0, 1), 1)), (80, ((100, 0, 0), 1)), (81, ((46, 0, 0), 1)), (82, ((21, 6, 0), 2)), (84, ((96, 0, 0), 1)), (85, ((16, 0, 120), 2)), (87, ((164, 93, 0), 3)), (90, ((16, 0, (-3)), 2)), (92, ((172, 0, 0), 1)), (93, ((2, 0, 0), 1)), (94, ((54, 7, 0), 2)), (96, ((21, 7, 0), 2)), (98, ((21, 6, 0), 2)), (100, ((162, 125, 0), 3)), (103, ((42, 0, 0), 1)), (104, ((21, 7, 0), 2)), (106, ((26, 1, 0), 1)), (107, ((26, 2, 0), 1)), (108, ((26, 3, 0), 1)), (109, ((21, 4, 0), 2)), (111, ((21, 5, 0), 2)), (113, ((184, 152, 0), 3)), (116, ((182, 156, 0), 3)), (119, ((132, 7, 1), 3)), (122, ((167, 96, 0), 3)), (125, ((42, 0, 0), 1)), (126, ((180, 28, 0), 3)), (129, ((42, 0, 0), 1)), (130, ((180, 145, 0), 3)), (133, ((2, 0, 1), 1)), (134, ((100, 0, 0), 1)), (135, ((46, 0, 0), 1)), (136, ((172, 0, 0), 1))]
set_option maxRecDepth 20000 in
theorem tX9_add_ok : xtok cX9_add tX9_add := by unfold xtok; decide +kernel
abbrev mX9_add : xM := (yX9_add, cX9_add, 8, (some .int), tX9_add)
def tX9_again : List (Nat × xE) := [(0, ((26, 2, 0), 1)), (1, ((16, 0, 120), 2)), (3, ((184, 121, 0), 3)), (6, ((153, 20, 0), 3)), (9, ((26, 1, 0), 1)), (10, ((2, 0, 1), 1)), (11, ((161, 20, 0), 3)), (14, ((26, 1, 0), 1)), (15, ((16, 0, 120), 2)), (17, ((164, 22, 0), 3)), (20, ((2, 0, (-1)), 1)), (21, ((172, 0, 0), 1)), (22, ((42, 0, 0), 1)), (23, ((180, 125, 0), 3)), (26, ((153, 51, 0), 3)), (29, ((42, 0, 0), 1)), (30, ((180, 145, 0), 3)), (33, ((153, 51, 0), 3)), (36, ((42, 0, 0), 1)), (37, ((180, 28, 0), 3)), (40, ((42, 0, 0), 1)), (41, ((180, 145, 0), 3)), (44, ((2, 0, 1), 1)), (45, ((100, 0, 0), 1)), (46, ((46, 0, 0), 1)), (47, ((26, 1, 0), 1)), (48, ((162, 54, 0), 3)), (51, ((16, 0, (-2)), 2)), (53, ((172, 0, 0), 1)), (54, ((42, 0, 0), 1)), (55, ((180, 28, 0), 3)), (58, ((42, 0, 0), 1)), (59, ((180, 145, 0), 3)), (62, ((2, 0, 1), 1)), (63, ((100, 0, 0), 1)), (64, ((46, 0, 0), 1)), (65, ((26, 2, 0), 1)), (66, ((96, 0, 0), 1)), (67, ((16, 0, 120), 2)), (69, ((164, 75, 0), 3)), (72, ((16, 0, (-3)), 2)), (74, ((172, 0, 0), 1)), (75, ((2, 0, 0), 1)), (76, ((59, 3, 0), 1)), (77, ((26, 3, 0), 1)), (78, ((26, 2, 0), 1)), (79, ((162, 120, 0), 3)), (82, ((42, 0, 0), 1)), (83, ((42, 0, 0), 1)), (84, ((180, 31, 0), 3)), (87, ((16, 0, 120), 2)), (89, ((42, 0, 0), 1)), (90, ((180, 145, 0), 3)), (93, ((2, 0, 1), 1)), (94, ((100, 0, 0), 1)), (95, ((104, 0, 0), 1)), (96, ((42, 0, 0), 1)), (97, ((180, 28, 0), 3)), (100, ((42, 0, 0), 1)), (101, ((180, 145, 0), 3)), (104, ((2, 0, 1), 1)), (105, ((100, 0, 0), 1)), (106, ((46, 0, 0), 1)), (107, ((96, 0, 0), 1)), (108, ((26, 1, 0), 1)), (109, ((100, 0, 0), 1)), (110, ((46, 0, 0), 1)), (111, ((182, 156, 0), 3)), (114, ((132, 3, 1), 3)), (117, ((167, 77, 0), 3)), (120, ((42, 0, 0), 1)), (121, ((180, 28, 0), 3)), (124, ((42, 0, 0), 1)), (125, ((180, 145, 0), 3)), (128, ((2, 0, 1), 1)), (129, ((100, 0, 0), 1)), (130, ((46, 0, 0), 1)), (131, ((172, 0, 0), 1))]
set_option maxRecDepth 20000 in
theorem tX9_again_ok : xtok cX9_again tX9_again := by unfold xtok; decide +kernel
abbrev mX9_again : xM := (yX9_again, cX9_again, 4, (some .int), tX9_again)
def tX9_write : List (Nat × xE) := [(0, ((42, 0, 0), 1)), (1, ((180, 34, 0), 3)), (4, ((42, 0, 0), 1)), (5, ((180, 160, 0), 3)), (8, ((26, 1, 0), 1)), (9, ((79, 0, 0), 1)), (10, ((42, 0, 0), 1)), (11, ((89, 0, 0), 1)), (12, ((180, 160, 0), 3)), (15, ((2, 0, 1), 1)), (16, ((96, 0, 0), 1)), (17, ((181, 160, 0), 3)), (20, ((177, 0, 0), 1))]
set_option maxRecDepth 20000 in
theorem tX9_write_ok : xtok cX9_write tX9_write := by unfold xtok; decide +kernel
abbrev mX9_write : xM := (yX9_write, cX9_write, 2, none, tX9_write)
def tX9_go : List (Nat × xE) := [(0, ((26, 0, 0), 1)), (1, ((26, 1, 0), 1)), (2, ((130, 0, 0), 1)), (3, ((59, 2, 0), 1)), (4, ((26, 2, 0), 1)), (5, ((16, 0, 11), 2)), (7, ((120, 0, 0), 1)), (8, ((26, 2, 0), 1)), (9, ((16, 0, 21), 2)), (11, ((124, 0, 0), 1)), (12, ((128, 0, 0), 1)), (13, ((18, 163, 16777619), 2)), (15, ((104, 0, 0), 1)), (16, ((172, 0, 0), 1))]
set_option maxRecDepth 20000 in
theorem tX9_go_ok : xtok cX9_go tX9_go := by unfold xtok; decide +kernel
abbrev mX9_go : xM := (yX9_go, cX9_go, 3, (some .int), tX9_go)
def tX9_writeFour : List (Nat × xE) := [(0, ((42, 0, 0), 1)), (1, ((26, 1, 0), 1)), (2, ((16, 0, 24), 2)), (4, ((124, 0, 0), 1)), (5, ((182, 164, 0), 3)), (8, ((42, 0, 0), 1)), (9, ((26, 1, 0), 1)), (10, ((16, 0, 16), 2)), (12, ((122, 0, 0), 1)), (13, ((17, 0, 255), 3)), (16, ((126, 0, 0), 1)), (17, ((182, 164, 0), 3)), (20, ((42, 0, 0), 1)), (21, ((26, 1, 0), 1)), (22, ((16, 0, 8), 2)), (24, ((122, 0, 0), 1)), (25, ((17, 0, 255), 3)), (28, ((126, 0, 0), 1)), (29, ((182, 164, 0), 3)), (32, ((42, 0, 0), 1)), (33, ((26, 1, 0), 1)), (34, ((17, 0, 255), 3)), (37, ((126, 0, 0), 1)), (38, ((182, 164, 0), 3)), (41, ((177, 0, 0), 1))]
set_option maxRecDepth 20000 in
theorem tX9_writeFour_ok : xtok cX9_writeFour tX9_writeFour := by unfold xtok; decide +kernel
abbrev mX9_writeFour : xM := (yX9_writeFour, cX9_writeFour, 2, none, tX9_writeFour)
def tX9_writtenSum : List (Nat × xE) := [(0, ((26, 1, 0), 1)), (1, ((59, 2, 0), 1)), (2, ((2, 0, 0), 1)), (3, ((59, 3, 0), 1)), (4, ((26, 3, 0), 1)), (5, ((42, 0, 0), 1)), (6, ((180, 160, 0), 3)), (9, ((162, 29, 0), 3)), (12, ((26, 2, 0), 1)), (13, ((42, 0, 0), 1)), (14, ((180, 34, 0), 3)), (17, ((26, 3, 0), 1)), (18, ((46, 0, 0), 1)), (19, ((184, 167, 0), 3)), (22, ((59, 2, 0), 1)), (23, ((132, 3, 1), 3)), (26, ((167, 4, 0), 3)), (29, ((26, 2, 0), 1)), (30, ((172, 0, 0), 1))]
set_option maxRecDepth 20000 in
theorem tX9_writtenSum_ok : xtok cX9_writtenSum tX9_writtenSum := by unfold xtok; decide +kernel
abbrev mX9_writtenSum : xM := (yX9_writtenSum, cX9_writtenSum, 4, (some .int), tX9_writtenSum)
def tX9_squeeze : List (Nat × xE) := [(0, ((42, 0, 0), 1)), (1, ((180, 37, 0), 3)), (4, ((42, 0, 0), 1)), (5, ((180, 171, 0), 3)), (8, ((26, 1, 0), 1)), (9, ((79, 0, 0), 1)), (10, ((42, 0, 0), 1)), (11, ((89, 0, 0), 1)), (12, ((180, 171, 0), 3)), (15, ((2, 0, 1), 1)), (16, ((96, 0, 0), 1)), (17, ((181, 171, 0), 3)), (20, ((177, 0, 0), 1))]
set_option maxRecDepth 20000 in
theorem tX9_squeeze_ok : xtok cX9_squeeze tX9_squeeze := by unfold xtok; decide +kernel
abbrev mX9_squeeze : xM := (yX9_squeeze, cX9_squeeze, 2, none, tX9_squeeze)
end
section
def tX9_writePairs : List (Nat × xE) := [(0, ((2, 0, 0), 1)), (1, ((59, 3, 0), 1)), (2, ((26, 3, 0), 1)), (3, ((26, 2, 0), 1)), (4, ((162, 80, 0), 3)), (7, ((2, 0, 1), 1)), (8, ((54, 4, 0), 2)), (10, ((26, 3, 0), 1)), (11, ((21, 4, 0), 2)), (13, ((96, 0, 0), 1)), (14, ((26, 2, 0), 1)), (15, ((162, 54, 0), 3)), (18, ((21, 4, 0), 2)), (20, ((17, 0, 255), 3)), (23, ((162, 54, 0), 3)), (26, ((42, 0, 0), 1)), (27, ((180, 31, 0), 3)), (30, ((26, 1, 0), 1)), (31, ((26, 3, 0), 1)), (32, ((96, 0, 0), 1)), (33, ((21, 4, 0), 2)), (35, ((96, 0, 0), 1)), (36, ((46, 0, 0), 1)), (37, ((42, 0, 0), 1)), (38, ((180, 31, 0), 3)), (41, ((26, 1, 0), 1)), (42, ((26, 3, 0), 1)), (43, ((96, 0, 0), 1)), (44, ((46, 0, 0), 1)), (45, ((160, 54, 0), 3)), (48, ((132, 4, 1), 3)), (51, ((167, 10, 0), 3)), (54, ((42, 0, 0), 1)), (55, ((21, 4, 0), 2)), (57, ((182, 174, 0), 3)), (60, ((42, 0, 0), 1)), (61, ((42, 0, 0), 1)), (62, ((180, 31, 0), 3)), (65, ((26, 1, 0), 1)), (66, ((26, 3, 0), 1)), (67, ((96, 0, 0), 1)), (68, ((46, 0, 0), 1)), (69, ((182, 174, 0), 3)), (72, ((26, 3, 0), 1)), (73, ((21, 4, 0), 2)), (75, ((96, 0, 0), 1)), (76, ((59, 3, 0), 1)), (77, ((167, 2, 0), 3)), (80, ((177, 0, 0), 1))]
set_option maxRecDepth 20000 in
theorem tX9_writePairs_ok : xtok cX9_writePairs tX9_writePairs := by unfold xtok; decide +kernel
abbrev mX9_writePairs : xM := (yX9_writePairs, cX9_writePairs, 5, none, tX9_writePairs)
def tX9_likeAhead : List (Nat × xE) := [(0, ((2, 0, 0), 1)), (1, ((54, 5, 0), 2)), (3, ((26, 3, 0), 1)), (4, ((21, 5, 0), 2)), (6, ((96, 0, 0), 1)), (7, ((26, 2, 0), 1)), (8, ((162, 53, 0), 3)), (11, ((21, 5, 0), 2)), (13, ((17, 0, 130), 3)), (16, ((162, 53, 0), 3)), (19, ((42, 0, 0), 1)), (20, ((180, 31, 0), 3)), (23, ((26, 1, 0), 1)), (24, ((26, 3, 0), 1)), (25, ((96, 0, 0), 1)), (26, ((21, 5, 0), 2)), (28, ((96, 0, 0), 1)), (29, ((46, 0, 0), 1)), (30, ((42, 0, 0), 1)), (31, ((180, 31, 0), 3)), (34, ((26, 1, 0), 1)), (35, ((26, 3, 0), 1)), (36, ((96, 0, 0), 1)), (37, ((21, 5, 0), 2)), (39, ((96, 0, 0), 1)), (40, ((21, 4, 0), 2)), (42, ((100, 0, 0), 1)), (43, ((46, 0, 0), 1)), (44, ((160, 53, 0), 3)), (47, ((132, 5, 1), 3)), (50, ((167, 3, 0), 3)), (53, ((21, 5, 0), 2)), (55, ((172, 0, 0), 1))]
set_option maxRecDepth 20000 in
theorem tX9_likeAhead_ok : xtok cX9_likeAhead tX9_likeAhead := by unfold xtok; decide +kernel
abbrev mX9_likeAhead : xM := (yX9_likeAhead, cX9_likeAhead, 6, (some .int), tX9_likeAhead)
def tX9_bestBack : List (Nat × xE) := [(0, ((2, 0, 0), 1)), (1, ((54, 4, 0), 2)), (3, ((2, 0, 0), 1)), (4, ((54, 5, 0), 2)), (6, ((2, 0, 1), 1)), (7, ((54, 6, 0), 2)), (9, ((21, 6, 0), 2)), (11, ((26, 3, 0), 1)), (12, ((163, 55, 0), 3)), (15, ((21, 6, 0), 2)), (17, ((17, 0, 255), 3)), (20, ((163, 55, 0), 3)), (23, ((42, 0, 0), 1)), (24, ((26, 1, 0), 1)), (25, ((26, 2, 0), 1)), (26, ((26, 3, 0), 1)), (27, ((21, 6, 0), 2)), (29, ((182, 177, 0), 3)), (32, ((54, 7, 0), 2)), (34, ((21, 7, 0), 2)), (36, ((21, 5, 0), 2)), (38, ((164, 49, 0), 3)), (41, ((21, 7, 0), 2)), (43, ((54, 5, 0), 2)), (45, ((21, 6, 0), 2)), (47, ((54, 4, 0), 2)), (49, ((132, 6, 1), 3)), (52, ((167, 9, 0), 3)), (55, ((21, 5, 0), 2)), (57, ((2, 0, 3), 1)), (58, ((162, 65, 0), 3)), (61, ((2, 0, 0), 1)), (62, ((167, 67, 0), 3)), (65, ((21, 4, 0), 2)), (67, ((172, 0, 0), 1))]
set_option maxRecDepth 20000 in
theorem tX9_bestBack_ok : xtok cX9_bestBack tX9_bestBack := by unfold xtok; decide +kernel
abbrev mX9_bestBack : xM := (yX9_bestBack, cX9_bestBack, 8, (some .int), tX9_bestBack)
def tX9_writeOps : List (Nat × xE) := [(0, ((2, 0, 0), 1)), (1, ((59, 3, 0), 1)), (2, ((2, 0, 0), 1)), (3, ((54, 4, 0), 2)), (5, ((26, 3, 0), 1)), (6, ((26, 2, 0), 1)), (7, ((162, 95, 0), 3)), (10, ((42, 0, 0), 1)), (11, ((26, 1, 0), 1)), (12, ((26, 2, 0), 1)), (13, ((26, 3, 0), 1)), (14, ((182, 181, 0), 3)), (17, ((54, 5, 0), 2)), (19, ((21, 5, 0), 2)), (21, ((157, 32, 0), 3)), (24, ((21, 4, 0), 2)), (26, ((17, 0, 128), 3)), (29, ((160, 47, 0), 3)), (32, ((42, 0, 0), 1)), (33, ((26, 1, 0), 1)), (34, ((26, 3, 0), 1)), (35, ((96, 0, 0), 1)), (36, ((21, 4, 0), 2)), (38, ((100, 0, 0), 1)), (39, ((21, 4, 0), 2)), (41, ((182, 185, 0), 3)), (44, ((2, 0, 0), 1)), (45, ((54, 4, 0), 2)), (47, ((21, 5, 0), 2)), (49, ((158, 86, 0), 3)), (52, ((42, 0, 0), 1)), (53, ((26, 1, 0), 1)), (54, ((26, 2, 0), 1)), (55, ((26, 3, 0), 1)), (56, ((21, 5, 0), 2)), (58, ((182, 177, 0), 3)), (61, ((54, 6, 0), 2)), (63, ((42, 0, 0), 1)), (64, ((21, 6, 0), 2)), (66, ((16, 0, 125), 2)), (68, ((96, 0, 0), 1)), (69, ((182, 174, 0), 3)), (72, ((42, 0, 0), 1)), (73, ((21, 5, 0), 2)), (75, ((182, 174, 0), 3)), (78, ((26, 3, 0), 1)), (79, ((21, 6, 0), 2)), (81, ((96, 0, 0), 1)), (82, ((59, 3, 0), 1)), (83, ((167, 92, 0), 3)), (86, ((132, 4, 1), 3)), (89, ((132, 3, 1), 3)), (92, ((167, 5, 0), 3)), (95, ((42, 0, 0), 1)), (96, ((26, 1, 0), 1)), (97, ((26, 2, 0), 1)), (98, ((96, 0, 0), 1)), (99, ((21, 4, 0), 2)), (101, ((100, 0, 0), 1)), (102, ((21, 4, 0), 2)), (104, ((182, 185, 0), 3)), (107, ((177, 0, 0), 1))]
set_option maxRecDepth 20000 in
theorem tX9_writeOps_ok : xtok cX9_writeOps tX9_writeOps := by unfold xtok; decide +kernel
abbrev mX9_writeOps : xM := (yX9_writeOps, cX9_writeOps, 7, none, tX9_writeOps)
def tX9_writePlain : List (Nat × xE) := [(0, ((26, 2, 0), 1)), (1, ((158, 11, 0), 3)), (4, ((42, 0, 0), 1)), (5, ((26, 2, 0), 1)), (6, ((2, 0, 1), 1)), (7, ((100, 0, 0), 1)), (8, ((182, 174, 0), 3)), (11, ((2, 0, 0), 1)), (12, ((59, 3, 0), 1)), (13, ((26, 3, 0), 1)), (14, ((26, 2, 0), 1)), (15, ((162, 36, 0), 3)), (18, ((42, 0, 0), 1)), (19, ((42, 0, 0), 1)), (20, ((180, 31, 0), 3)), (23, ((26, 1, 0), 1)), (24, ((26, 3, 0), 1)), (25, ((96, 0, 0), 1)), (26, ((46, 0, 0), 1)), (27, ((182, 174, 0), 3)), (30, ((132, 3, 1), 3)), (33, ((167, 13, 0), 3)), (36, ((177, 0, 0), 1))]
set_option maxRecDepth 20000 in
theorem tX9_writePlain_ok : xtok cX9_writePlain tX9_writePlain := by unfold xtok; decide +kernel
abbrev mX9_writePlain : xM := (yX9_writePlain, cX9_writePlain, 4, none, tX9_writePlain)
def tX9_squeezeRow : List (Nat × xE) := [(0, ((42, 0, 0), 1)), (1, ((2, 0, 0), 1)), (2, ((181, 171, 0), 3)), (5, ((16, 0, 120), 2)), (7, ((26, 1, 0), 1)), (8, ((104, 0, 0), 1)), (9, ((59, 2, 0), 1)), (10, ((42, 0, 0), 1)), (11, ((180, 25, 0), 3)), (14, ((26, 1, 0), 1)), (15, ((46, 0, 0), 1)), (16, ((2, 0, 1), 1)), (17, ((160, 34, 0), 3)), (20, ((42, 0, 0), 1)), (21, ((26, 2, 0), 1)), (22, ((42, 0, 0), 1)), (23, ((180, 28, 0), 3)), (26, ((26, 1, 0), 1)), (27, ((46, 0, 0), 1)), (28, ((182, 189, 0), 3)), (31, ((167, 88, 0), 3)), (34, ((42, 0, 0), 1)), (35, ((180, 25, 0), 3)), (38, ((26, 1, 0), 1)), (39, ((46, 0, 0), 1)), (40, ((2, 0, 2), 1)), (41, ((160, 58, 0), 3)), (44, ((42, 0, 0), 1)), (45, ((26, 2, 0), 1)), (46, ((42, 0, 0), 1)), (47, ((180, 28, 0), 3)), (50, ((26, 1, 0), 1)), (51, ((46, 0, 0), 1)), (52, ((182, 192, 0), 3)), (55, ((167, 88, 0), 3)), (58, ((2, 0, 0), 1)), (59, ((59, 3, 0), 1)), (60, ((26, 3, 0), 1)), (61, ((42, 0, 0), 1)), (62, ((180, 28, 0), 3)), (65, ((26, 1, 0), 1)), (66, ((46, 0, 0), 1)), (67, ((162, 88, 0), 3)), (70, ((42, 0, 0), 1)), (71, ((42, 0, 0), 1)), (72, ((180, 31, 0), 3)), (75, ((26, 2, 0), 1)), (76, ((26, 3, 0), 1)), (77, ((96, 0, 0), 1)), (78, ((46, 0, 0), 1)), (79, ((182, 174, 0), 3)), (82, ((132, 3, 1), 3)), (85, ((167, 60, 0), 3)), (88, ((177, 0, 0), 1))]
set_option maxRecDepth 20000 in
theorem tX9_squeezeRow_ok : xtok cX9_squeezeRow tX9_squeezeRow := by unfold xtok; decide +kernel
abbrev mX9_squeezeRow : xM := (yX9_squeezeRow, cX9_squeezeRow, 4, none, tX9_squeezeRow)
def tX9_writeHead : List (Nat × xE) := [(0, ((42, 0, 0), 1)), (1, ((2, 0, 0), 1)), (2, ((181, 160, 0), 3)), (5, ((42, 0, 0), 1)), (6, ((16, 0, 80), 2)), (8, ((182, 164, 0), 3)), (11, ((42, 0, 0), 1)), (12, ((16, 0, 75), 2)), (14, ((182, 164, 0), 3)), (17, ((42, 0, 0), 1)), (18, ((42, 0, 0), 1)), (19, ((180, 129, 0), 3)), (22, ((182, 164, 0), 3)), (25, ((42, 0, 0), 1)), (26, ((42, 0, 0), 1)), (27, ((180, 133, 0), 3)), (30, ((182, 164, 0), 3)), (33, ((42, 0, 0), 1)), (34, ((42, 0, 0), 1)), (35, ((180, 136, 0), 3)), (38, ((26, 1, 0), 1)), (39, ((153, 46, 0), 3)), (42, ((2, 0, 2), 1)), (43, ((167, 47, 0), 3)), (46, ((2, 0, 0), 1)), (47, ((96, 0, 0), 1)), (48, ((182, 164, 0), 3)), (51, ((42, 0, 0), 1)), (52, ((42, 0, 0), 1)), (53, ((180, 139, 0), 3)), (56, ((182, 164, 0), 3)), (59, ((2, 0, 0), 1)), (60, ((59, 2, 0), 1)), (61, ((26, 2, 0), 1)), (62, ((42, 0, 0), 1)), (63, ((180, 139, 0), 3)), (66, ((162, 105, 0), 3)), (69, ((42, 0, 0), 1)), (70, ((42, 0, 0), 1)), (71, ((180, 7, 0), 3)), (74, ((26, 2, 0), 1)), (75, ((46, 0, 0), 1)), (76, ((182, 164, 0), 3)), (79, ((42, 0, 0), 1)), (80, ((42, 0, 0), 1)), (81, ((180, 13, 0), 3)), (84, ((26, 2, 0), 1)), (85, ((46, 0, 0), 1)), (86, ((182, 164, 0), 3)), (89, ((42, 0, 0), 1)), (90, ((42, 0, 0), 1)), (91, ((180, 16, 0), 3)), (94, ((26, 2, 0), 1)), (95, ((46, 0, 0), 1)), (96, ((182, 164, 0), 3)), (99, ((132, 2, 1), 3)), (102, ((167, 61, 0), 3)), (105, ((42, 0, 0), 1)), (106, ((42, 0, 0), 1)), (107, ((180, 142, 0), 3)), (110, ((182, 164, 0), 3)), (113, ((2, 0, 0), 1)), (114, ((59, 2, 0), 1)), (115, ((26, 2, 0), 1)), (116, ((42, 0, 0), 1)), (117, ((180, 142, 0), 3)), (120, ((162, 139, 0), 3)), (123, ((42, 0, 0), 1)), (124, ((42, 0, 0), 1)), (125, ((180, 19, 0), 3)), (128, ((26, 2, 0), 1)), (129, ((46, 0, 0), 1)), (130, ((182, 164, 0), 3)), (133, ((132, 2, 1), 3)), (136, ((167, 115, 0), 3)), (139, ((42, 0, 0), 1)), (140, ((42, 0, 0), 1)), (141, ((180, 145, 0), 3)), (144, ((182, 164, 0), 3)), (147, ((2, 0, 0), 1)), (148, ((59, 2, 0), 1)), (149, ((26, 2, 0), 1)), (150, ((42, 0, 0), 1)), (151, ((180, 145, 0), 3)), (154, ((162, 216, 0), 3)), (157, ((42, 0, 0), 1)), (158, ((26, 2, 0), 1)), (159, ((182, 195, 0), 3)), (162, ((42, 0, 0), 1)), (163, ((42, 0, 0), 1)), (164, ((180, 22, 0), 3)), (167, ((26, 2, 0), 1)), (168, ((46, 0, 0), 1)), (169, ((182, 164, 0), 3)), (172, ((42, 0, 0), 1)), (173, ((42, 0, 0), 1)), (174, ((180, 25, 0), 3)), (177, ((26, 2, 0), 1)), (178, ((46, 0, 0), 1)), (179, ((182, 164, 0), 3)), (182, ((42, 0, 0), 1)), (183, ((2, 0, 0), 1)), (184, ((182, 164, 0), 3)), (187, ((42, 0, 0), 1)), (188, ((42, 0, 0), 1)), (189, ((180, 28, 0), 3)), (192, ((26, 2, 0), 1)), (193, ((46, 0, 0), 1)), (194, ((182, 164, 0), 3)), (197, ((42, 0, 0), 1)), (198, ((2, 0, 0), 1)), (199, ((182, 164, 0), 3)), (202, ((42, 0, 0), 1)), (203, ((42, 0, 0), 1)), (204, ((180, 171, 0), 3)), (207, ((182, 164, 0), 3)), (210, ((132, 2, 1), 3)), (213, ((167, 149, 0), 3)), (216, ((177, 0, 0), 1))]
set_option maxRecDepth 20000 in
theorem tX9_writeHead_ok : xtok cX9_writeHead tX9_writeHead := by unfold xtok; decide +kernel
abbrev mX9_writeHead : xM := (yX9_writeHead, cX9_writeHead, 3, none, tX9_writeHead)
def tX9_pack : List (Nat × xE) := [(0, ((42, 0, 0), 1)), (1, ((180, 125, 0), 3)), (4, ((154, 10, 0), 3)), (7, ((16, 0, (-2)), 2)), (9, ((172, 0, 0), 1)), (10, ((42, 0, 0), 1)), (11, ((26, 1, 0), 1)), (12, ((182, 198, 0), 3)), (15, ((2, 0, 0), 1)), (16, ((59, 2, 0), 1)), (17, ((26, 2, 0), 1)), (18, ((42, 0, 0), 1)), (19, ((180, 145, 0), 3)), (22, ((162, 62, 0), 3)), (25, ((42, 0, 0), 1)), (26, ((26, 2, 0), 1)), (27, ((182, 195, 0), 3)), (30, ((2, 0, 0), 1)), (31, ((59, 3, 0), 1)), (32, ((26, 3, 0), 1)), (33, ((42, 0, 0), 1)), (34, ((180, 171, 0), 3)), (37, ((162, 56, 0), 3)), (40, ((42, 0, 0), 1)), (41, ((42, 0, 0), 1)), (42, ((180, 37, 0), 3)), (45, ((26, 3, 0), 1)), (46, ((46, 0, 0), 1)), (47, ((182, 164, 0), 3)), (50, ((132, 3, 1), 3)), (53, ((167, 32, 0), 3)), (56, ((132, 2, 1), 3)), (59, ((167, 17, 0), 3)), (62, ((42, 0, 0), 1)), (63, ((42, 0, 0), 1)), (64, ((2, 0, 1), 1)), (65, ((182, 201, 0), 3)), (68, ((182, 205, 0), 3)), (71, ((26, 1, 0), 1)), (72, ((153, 84, 0), 3)), (75, ((42, 0, 0), 1)), (76, ((42, 0, 0), 1)), (77, ((26, 1, 0), 1)), (78, ((182, 201, 0), 3)), (81, ((182, 205, 0), 3)), (84, ((42, 0, 0), 1)), (85, ((180, 208, 0), 3)), (88, ((16, 0, 16), 2)), (90, ((159, 103, 0), 3)), (93, ((42, 0, 0), 1)), (94, ((180, 160, 0), 3)), (97, ((17, 0, 700), 3)), (100, ((164, 106, 0), 3)), (103, ((16, 0, (-3)), 2)), (105, ((172, 0, 0), 1)), (106, ((2, 0, 0), 1)), (107, ((59, 2, 0), 1)), (108, ((26, 2, 0), 1)), (109, ((42, 0, 0), 1)), (110, ((180, 160, 0), 3)), (113, ((162, 143, 0), 3)), (116, ((42, 0, 0), 1)), (117, ((180, 40, 0), 3)), (120, ((17, 0, 700), 3)), (123, ((42, 0, 0), 1)), (124, ((180, 208, 0), 3)), (127, ((104, 0, 0), 1)), (128, ((26, 2, 0), 1)), (129, ((96, 0, 0), 1)), (130, ((42, 0, 0), 1)), (131, ((180, 34, 0), 3)), (134, ((26, 2, 0), 1)), (135, ((46, 0, 0), 1)), (136, ((79, 0, 0), 1)), (137, ((132, 2, 1), 3)), (140, ((167, 108, 0), 3)), (143, ((42, 0, 0), 1)), (144, ((180, 43, 0), 3)), (147, ((42, 0, 0), 1)), (148, ((180, 208, 0), 3)), (151, ((42, 0, 0), 1)), (152, ((180, 160, 0), 3)), (155, ((79, 0, 0), 1)), (156, ((42, 0, 0), 1)), (157, ((89, 0, 0), 1)), (158, ((180, 208, 0), 3)), (161, ((2, 0, 1), 1)), (162, ((96, 0, 0), 1)), (163, ((181, 208, 0), 3)), (166, ((42, 0, 0), 1)), (167, ((2, 0, 0), 1)), (168, ((181, 125, 0), 3)), (171, ((42, 0, 0), 1)), (172, ((180, 208, 0), 3)), (175, ((2, 0, 1), 1)), (176, ((100, 0, 0), 1)), (177, ((172, 0, 0), 1))]
set_option maxRecDepth 20000 in
theorem tX9_pack_ok : xtok cX9_pack tX9_pack := by unfold xtok; decide +kernel
abbrev mX9_pack : xM := (yX9_pack, cX9_pack, 4, (some .int), tX9_pack)
def tX9_isPack : List (Nat × xE) := [(0, ((26, 1, 0), 1)), (1, ((155, 16, 0), 3)), (4, ((26, 1, 0), 1)), (5, ((42, 0, 0), 1)), (6, ((180, 208, 0), 3)), (9, ((162, 16, 0), 3)), (12, ((2, 0, 1), 1)), (13, ((167, 17, 0), 3)), (16, ((2, 0, 0), 1)), (17, ((172, 0, 0), 1))]
set_option maxRecDepth 20000 in
theorem tX9_isPack_ok : xtok cX9_isPack tX9_isPack := by unfold xtok; decide +kernel
abbrev mX9_isPack : xM := (yX9_isPack, cX9_isPack, 2, (some .boolean), tX9_isPack)
def tX9_isOctet : List (Nat × xE) := [(0, ((42, 0, 0), 1)), (1, ((26, 1, 0), 1)), (2, ((182, 211, 0), 3)), (5, ((153, 26, 0), 3)), (8, ((26, 2, 0), 1)), (9, ((155, 26, 0), 3)), (12, ((26, 2, 0), 1)), (13, ((42, 0, 0), 1)), (14, ((180, 43, 0), 3)), (17, ((26, 1, 0), 1)), (18, ((46, 0, 0), 1)), (19, ((162, 26, 0), 3)), (22, ((2, 0, 1), 1)), (23, ((167, 27, 0), 3)), (26, ((2, 0, 0), 1)), (27, ((172, 0, 0), 1))]
set_option maxRecDepth 20000 in
theorem tX9_isOctet_ok : xtok cX9_isOctet tX9_isOctet := by unfold xtok; decide +kernel
abbrev mX9_isOctet : xM := (yX9_isOctet, cX9_isOctet, 3, (some .boolean), tX9_isOctet)
def tX9_length : List (Nat × xE) := [(0, ((42, 0, 0), 1)), (1, ((26, 1, 0), 1)), (2, ((182, 211, 0), 3)), (5, ((153, 17, 0), 3)), (8, ((42, 0, 0), 1)), (9, ((180, 43, 0), 3)), (12, ((26, 1, 0), 1)), (13, ((46, 0, 0), 1)), (14, ((167, 18, 0), 3)), (17, ((2, 0, (-1)), 1)), (18, ((172, 0, 0), 1))]
set_option maxRecDepth 20000 in
theorem tX9_length_ok : xtok cX9_length tX9_length := by unfold xtok; decide +kernel
abbrev mX9_length : xM := (yX9_length, cX9_length, 2, (some .int), tX9_length)
def tX9_octet : List (Nat × xE) := [(0, ((42, 0, 0), 1)), (1, ((26, 1, 0), 1)), (2, ((26, 2, 0), 1)), (3, ((182, 215, 0), 3)), (6, ((153, 24, 0), 3)), (9, ((42, 0, 0), 1)), (10, ((180, 40, 0), 3)), (13, ((17, 0, 700), 3)), (16, ((26, 1, 0), 1)), (17, ((104, 0, 0), 1)), (18, ((26, 2, 0), 1)), (19, ((96, 0, 0), 1)), (20, ((46, 0, 0), 1)), (21, ((167, 25, 0), 3)), (24, ((2, 0, (-1)), 1)), (25, ((172, 0, 0), 1))]
set_option maxRecDepth 20000 in
theorem tX9_octet_ok : xtok cX9_octet tX9_octet := by unfold xtok; decide +kernel
abbrev mX9_octet : xM := (yX9_octet, cX9_octet, 3, (some .int), tX9_octet)
def tX9_spoil : List (Nat × xE) := [(0, ((42, 0, 0), 1)), (1, ((26, 1, 0), 1)), (2, ((26, 2, 0), 1)), (3, ((182, 215, 0), 3)), (6, ((153, 21, 0), 3)), (9, ((26, 3, 0), 1)), (10, ((2, 0, 1), 1)), (11, ((161, 21, 0), 3)), (14, ((26, 3, 0), 1)), (15, ((17, 0, 255), 3)), (18, ((164, 23, 0), 3)), (21, ((2, 0, (-1)), 1)), (22, ((172, 0, 0), 1)), (23, ((42, 0, 0), 1)), (24, ((180, 40, 0), 3)), (27, ((17, 0, 700), 3)), (30, ((26, 1, 0), 1)), (31, ((104, 0, 0), 1)), (32, ((26, 2, 0), 1)), (33, ((96, 0, 0), 1)), (34, ((42, 0, 0), 1)), (35, ((180, 40, 0), 3)), (38, ((17, 0, 700), 3)), (41, ((26, 1, 0), 1)), (42, ((104, 0, 0), 1)), (43, ((26, 2, 0), 1)), (44, ((96, 0, 0), 1)), (45, ((46, 0, 0), 1)), (46, ((26, 3, 0), 1)), (47, ((130, 0, 0), 1)), (48, ((79, 0, 0), 1)), (49, ((2, 0, 1), 1)), (50, ((172, 0, 0), 1))]
set_option maxRecDepth 20000 in
theorem tX9_spoil_ok : xtok cX9_spoil tX9_spoil := by unfold xtok; decide +kernel
abbrev mX9_spoil : xM := (yX9_spoil, cX9_spoil, 4, (some .int), tX9_spoil)
def tX9_trim : List (Nat × xE) := [(0, ((42, 0, 0), 1)), (1, ((26, 1, 0), 1)), (2, ((182, 211, 0), 3)), (5, ((153, 23, 0), 3)), (8, ((26, 2, 0), 1)), (9, ((2, 0, 1), 1)), (10, ((161, 23, 0), 3)), (13, ((26, 2, 0), 1)), (14, ((42, 0, 0), 1)), (15, ((180, 43, 0), 3)), (18, ((26, 1, 0), 1)), (19, ((46, 0, 0), 1)), (20, ((164, 25, 0), 3)), (23, ((2, 0, (-1)), 1)), (24, ((172, 0, 0), 1)), (25, ((42, 0, 0), 1)), (26, ((180, 43, 0), 3)), (29, ((26, 1, 0), 1)), (30, ((26, 2, 0), 1)), (31, ((79, 0, 0), 1)), (32, ((2, 0, 1), 1)), (33, ((172, 0, 0), 1))]
set_option maxRecDepth 20000 in
theorem tX9_trim_ok : xtok cX9_trim tX9_trim := by unfold xtok; decide +kernel
abbrev mX9_trim : xM := (yX9_trim, cX9_trim, 3, (some .int), tX9_trim)
def tX9_here : List (Nat × xE) := [(0, ((42, 0, 0), 1)), (1, ((180, 40, 0), 3)), (4, ((17, 0, 700), 3)), (7, ((42, 0, 0), 1)), (8, ((180, 218, 0), 3)), (11, ((104, 0, 0), 1)), (12, ((26, 1, 0), 1)), (13, ((96, 0, 0), 1)), (14, ((46, 0, 0), 1)), (15, ((172, 0, 0), 1))]
set_option maxRecDepth 20000 in
theorem tX9_here_ok : xtok cX9_here tX9_here := by unfold xtok; decide +kernel
abbrev mX9_here : xM := (yX9_here, cX9_here, 2, (some .int), tX9_here)
def tX9_want : List (Nat × xE) := [(0, ((42, 0, 0), 1)), (1, ((180, 221, 0), 3)), (4, ((155, 9, 0), 3)), (7, ((2, 0, (-1)), 1)), (8, ((172, 0, 0), 1)), (9, ((42, 0, 0), 1)), (10, ((180, 224, 0), 3)), (13, ((42, 0, 0), 1)), (14, ((180, 43, 0), 3)), (17, ((42, 0, 0), 1)), (18, ((180, 218, 0), 3)), (21, ((46, 0, 0), 1)), (22, ((162, 37, 0), 3)), (25, ((42, 0, 0), 1)), (26, ((42, 0, 0), 1)), (27, ((180, 224, 0), 3)), (30, ((182, 227, 0), 3)), (33, ((26, 1, 0), 1)), (34, ((164, 47, 0), 3)), (37, ((42, 0, 0), 1)), (38, ((42, 0, 0), 1)), (39, ((180, 224, 0), 3)), (42, ((181, 221, 0), 3)), (45, ((2, 0, (-1)), 1)), (46, ((172, 0, 0), 1)), (47, ((42, 0, 0), 1)), (48, ((89, 0, 0), 1)), (49, ((180, 224, 0), 3)), (52, ((2, 0, 1), 1)), (53, ((96, 0, 0), 1)), (54, ((181, 224, 0), 3)), (57, ((42, 0, 0), 1)), (58, ((42, 0, 0), 1)), (59, ((180, 224, 0), 3)), (62, ((2, 0, 1), 1)), (63, ((100, 0, 0), 1)), (64, ((182, 227, 0), 3)), (67, ((172, 0, 0), 1))]
set_option maxRecDepth 20000 in
theorem tX9_want_ok : xtok cX9_want tX9_want := by unfold xtok; decide +kernel
abbrev mX9_want : xM := (yX9_want, cX9_want, 2, (some .int), tX9_want)
def tX9_came : List (Nat × xE) := [(0, ((2, 0, 0), 1)), (1, ((54, 5, 0), 2)), (3, ((2, 0, 0), 1)), (4, ((54, 6, 0), 2)), (6, ((21, 6, 0), 2)), (8, ((26, 2, 0), 1)), (9, ((162, 45, 0), 3)), (12, ((21, 5, 0), 2)), (14, ((154, 32, 0), 3)), (17, ((42, 0, 0), 1)), (18, ((26, 1, 0), 1)), (19, ((21, 6, 0), 2)), (21, ((26, 3, 0), 1)), (22, ((104, 0, 0), 1)), (23, ((96, 0, 0), 1)), (24, ((182, 227, 0), 3)), (27, ((21, 4, 0), 2)), (29, ((160, 36, 0), 3)), (32, ((2, 0, 1), 1)), (33, ((167, 37, 0), 3)), (36, ((2, 0, 0), 1)), (37, ((54, 5, 0), 2)), (39, ((132, 6, 1), 3)), (42, ((167, 6, 0), 3)), (45, ((21, 5, 0), 2)), (47, ((172, 0, 0), 1))]
set_option maxRecDepth 20000 in
theorem tX9_came_ok : xtok cX9_came tX9_came := by unfold xtok; decide +kernel
abbrev mX9_came : xM := (yX9_came, cX9_came, 7, (some .boolean), tX9_came)
def tX9_wantNew : List (Nat × xE) := [(0, ((42, 0, 0), 1)), (1, ((26, 1, 0), 1)), (2, ((182, 230, 0), 3)), (5, ((54, 5, 0), 2)), (7, ((21, 5, 0), 2)), (9, ((155, 35, 0), 3)), (12, ((42, 0, 0), 1)), (13, ((26, 2, 0), 1)), (14, ((26, 3, 0), 1)), (15, ((21, 4, 0), 2)), (17, ((21, 5, 0), 2)), (19, ((182, 233, 0), 3)), (22, ((153, 35, 0), 3)), (25, ((42, 0, 0), 1)), (26, ((42, 0, 0), 1)), (27, ((180, 224, 0), 3)), (30, ((2, 0, 1), 1)), (31, ((100, 0, 0), 1)), (32, ((181, 221, 0), 3)), (35, ((177, 0, 0), 1))]
set_option maxRecDepth 20000 in
theorem tX9_wantNew_ok : xtok cX9_wantNew tX9_wantNew := by unfold xtok; decide +kernel
abbrev mX9_wantNew : xM := (yX9_wantNew, cX9_wantNew, 6, none, tX9_wantNew)
def tX9_exactly : List (Nat × xE) := [(0, ((42, 0, 0), 1)), (1, ((17, 0, 255), 3)), (4, ((182, 230, 0), 3)), (7, ((155, 34, 0), 3)), (10, ((42, 0, 0), 1)), (11, ((42, 0, 0), 1)), (12, ((180, 224, 0), 3)), (15, ((2, 0, 1), 1)), (16, ((100, 0, 0), 1)), (17, ((182, 227, 0), 3)), (20, ((26, 1, 0), 1)), (21, ((159, 34, 0), 3)), (24, ((42, 0, 0), 1)), (25, ((42, 0, 0), 1)), (26, ((180, 224, 0), 3)), (29, ((2, 0, 1), 1)), (30, ((100, 0, 0), 1)), (31, ((181, 221, 0), 3)), (34, ((177, 0, 0), 1))]
set_option maxRecDepth 20000 in
theorem tX9_exactly_ok : xtok cX9_exactly tX9_exactly := by unfold xtok; decide +kernel
abbrev mX9_exactly : xM := (yX9_exactly, cX9_exactly, 2, none, tX9_exactly)
def tX9_wantTwo : List (Nat × xE) := [(0, ((42, 0, 0), 1)), (1, ((2, 0, 0), 1)), (2, ((182, 230, 0), 3)), (5, ((154, 14, 0), 3)), (8, ((42, 0, 0), 1)), (9, ((26, 1, 0), 1)), (10, ((182, 230, 0), 3)), (13, ((87, 0, 0), 1)), (14, ((177, 0, 0), 1))]
set_option maxRecDepth 20000 in
theorem tX9_wantTwo_ok : xtok cX9_wantTwo tX9_wantTwo := by unfold xtok; decide +kernel
abbrev mX9_wantTwo : xM := (yX9_wantTwo, cX9_wantTwo, 2, none, tX9_wantTwo)
def tX9_readHead : List (Nat × xE) := [(0, ((42, 0, 0), 1)), (1, ((16, 0, 80), 2)), (3, ((182, 236, 0), 3)), (6, ((42, 0, 0), 1)), (7, ((16, 0, 75), 2)), (9, ((182, 236, 0), 3)), (12, ((42, 0, 0), 1)), (13, ((16, 0, 63), 2)), (15, ((182, 230, 0), 3)), (18, ((87, 0, 0), 1)), (19, ((42, 0, 0), 1)), (20, ((16, 0, 99), 2)), (22, ((182, 230, 0), 3)), (25, ((87, 0, 0), 1)), (26, ((42, 0, 0), 1)), (27, ((2, 0, 3), 1)), (28, ((182, 230, 0), 3)), (31, ((87, 0, 0), 1)), (32, ((42, 0, 0), 1)), (33, ((42, 0, 0), 1)), (34, ((2, 0, 4), 1)), (35, ((182, 230, 0), 3)), (38, ((181, 239, 0), 3)), (41, ((42, 0, 0), 1)), (42, ((180, 224, 0), 3)), (45, ((59, 1, 0), 1)), (46, ((2, 0, 0), 1)), (47, ((59, 2, 0), 1)), (48, ((26, 2, 0), 1)), (49, ((42, 0, 0), 1)), (50, ((180, 239, 0), 3)), (53, ((162, 84, 0), 3)), (56, ((42, 0, 0), 1)), (57, ((16, 0, 63), 2)), (59, ((26, 1, 0), 1)), (60, ((26, 2, 0), 1)), (61, ((2, 0, 3), 1)), (62, ((182, 242, 0), 3)), (65, ((42, 0, 0), 1)), (66, ((16, 0, 99), 2)), (68, ((182, 230, 0), 3)), (71, ((87, 0, 0), 1)), (72, ((42, 0, 0), 1)), (73, ((2, 0, 1), 1)), (74, ((182, 230, 0), 3)), (77, ((87, 0, 0), 1)), (78, ((132, 2, 1), 3)), (81, ((167, 48, 0), 3)), (84, ((42, 0, 0), 1)), (85, ((42, 0, 0), 1)), (86, ((2, 0, 4), 1)), (87, ((182, 230, 0), 3)), (90, ((181, 246, 0), 3)), (93, ((42, 0, 0), 1)), (94, ((180, 224, 0), 3)), (97, ((59, 1, 0), 1)), (98, ((2, 0, 0), 1)), (99, ((59, 2, 0), 1)), (100, ((26, 2, 0), 1)), (101, ((42, 0, 0), 1)), (102, ((180, 246, 0), 3)), (105, ((162, 123, 0), 3)), (108, ((42, 0, 0), 1)), (109, ((16, 0, 15), 2)), (111, ((26, 1, 0), 1)), (112, ((26, 2, 0), 1)), (113, ((2, 0, 1), 1)), (114, ((182, 242, 0), 3)), (117, ((132, 2, 1), 3)), (120, ((167, 100, 0), 3)), (123, ((42, 0, 0), 1)), (124, ((42, 0, 0), 1)), (125, ((16, 0, 8), 2)), (127, ((182, 230, 0), 3)), (130, ((181, 249, 0), 3)), (133, ((42, 0, 0), 1)), (134, ((42, 0, 0), 1)), (135, ((180, 224, 0), 3)), (138, ((181, 252, 0), 3)), (141, ((2, 0, 0), 1)), (142, ((59, 2, 0), 1)), (143, ((26, 2, 0), 1)), (144, ((42, 0, 0), 1)), (145, ((180, 249, 0), 3)), (148, ((162, 190, 0), 3)), (151, ((42, 0, 0), 1)), (152, ((17, 0, 255), 3)), (155, ((42, 0, 0), 1)), (156, ((180, 252, 0), 3)), (159, ((26, 2, 0), 1)), (160, ((16, 0, 6), 2)), (162, ((182, 242, 0), 3)), (165, ((42, 0, 0), 1)), (166, ((2, 0, 2), 1)), (167, ((182, 230, 0), 3)), (170, ((87, 0, 0), 1)), (171, ((42, 0, 0), 1)), (172, ((16, 0, 120), 2)), (174, ((182, 255, 0), 3)), (177, ((42, 0, 0), 1)), (178, ((17, 0, 250), 3)), (181, ((182, 255, 0), 3)), (184, ((132, 2, 1), 3)), (187, ((167, 143, 0), 3)), (190, ((177, 0, 0), 1))]
set_option maxRecDepth 20000 in
theorem tX9_readHead_ok : xtok cX9_readHead tX9_readHead := by unfold xtok; decide +kernel
abbrev mX9_readHead : xM := (yX9_readHead, cX9_readHead, 3, none, tX9_readHead)
def tX9_readPlain : List (Nat × xE) := [(0, ((26, 2, 0), 1)), (1, ((26, 1, 0), 1)), (2, ((159, 14, 0), 3)), (5, ((42, 0, 0), 1)), (6, ((42, 0, 0), 1)), (7, ((180, 224, 0), 3)), (10, ((181, 221, 0), 3)), (13, ((177, 0, 0), 1)), (14, ((2, 0, 0), 1)), (15, ((59, 3, 0), 1)), (16, ((26, 3, 0), 1)), (17, ((26, 2, 0), 1)), (18, ((162, 35, 0), 3)), (21, ((42, 0, 0), 1)), (22, ((17, 0, 255), 3)), (25, ((182, 230, 0), 3)), (28, ((87, 0, 0), 1)), (29, ((132, 3, 1), 3)), (32, ((167, 16, 0), 3)), (35, ((177, 0, 0), 1))]
set_option maxRecDepth 20000 in
theorem tX9_readPlain_ok : xtok cX9_readPlain tX9_readPlain := by unfold xtok; decide +kernel
abbrev mX9_readPlain : xM := (yX9_readPlain, cX9_readPlain, 4, none, tX9_readPlain)
def tX9_readPairs : List (Nat × xE) := [(0, ((42, 0, 0), 1)), (1, ((180, 224, 0), 3)), (4, ((26, 2, 0), 1)), (5, ((96, 0, 0), 1)), (6, ((59, 3, 0), 1)), (7, ((26, 1, 0), 1)), (8, ((54, 4, 0), 2)), (10, ((42, 0, 0), 1)), (11, ((180, 224, 0), 3)), (14, ((26, 3, 0), 1)), (15, ((162, 87, 0), 3)), (18, ((42, 0, 0), 1)), (19, ((180, 221, 0), 3)), (22, ((156, 87, 0), 3)), (25, ((42, 0, 0), 1)), (26, ((17, 0, 255), 3)), (29, ((182, 230, 0), 3)), (32, ((54, 5, 0), 2)), (34, ((21, 5, 0), 2)), (36, ((153, 59, 0), 3)), (39, ((21, 5, 0), 2)), (41, ((21, 4, 0), 2)), (43, ((163, 59, 0), 3)), (46, ((21, 5, 0), 2)), (48, ((155, 69, 0), 3)), (51, ((42, 0, 0), 1)), (52, ((180, 224, 0), 3)), (55, ((26, 3, 0), 1)), (56, ((160, 69, 0), 3)), (59, ((42, 0, 0), 1)), (60, ((42, 0, 0), 1)), (61, ((180, 224, 0), 3)), (64, ((2, 0, 1), 1)), (65, ((100, 0, 0), 1)), (66, ((181, 221, 0), 3)), (69, ((42, 0, 0), 1)), (70, ((17, 0, 255), 3)), (73, ((182, 230, 0), 3)), (76, ((87, 0, 0), 1)), (77, ((21, 4, 0), 2)), (79, ((21, 5, 0), 2)), (81, ((100, 0, 0), 1)), (82, ((54, 4, 0), 2)), (84, ((167, 10, 0), 3)), (87, ((42, 0, 0), 1)), (88, ((180, 221, 0), 3)), (91, ((156, 107, 0), 3)), (94, ((21, 4, 0), 2)), (96, ((158, 107, 0), 3)), (99, ((42, 0, 0), 1)), (100, ((42, 0, 0), 1)), (101, ((180, 224, 0), 3)), (104, ((181, 221, 0), 3)), (107, ((177, 0, 0), 1))]
set_option maxRecDepth 20000 in
theorem tX9_readPairs_ok : xtok cX9_readPairs tX9_readPairs := by unfold xtok; decide +kernel
abbrev mX9_readPairs : xM := (yX9_readPairs, cX9_readPairs, 6, none, tX9_readPairs)
def tX9_readOps : List (Nat × xE) := [(0, ((42, 0, 0), 1)), (1, ((180, 224, 0), 3)), (4, ((26, 2, 0), 1)), (5, ((96, 0, 0), 1)), (6, ((59, 3, 0), 1)), (7, ((26, 1, 0), 1)), (8, ((54, 4, 0), 2)), (10, ((42, 0, 0), 1)), (11, ((180, 224, 0), 3)), (14, ((26, 3, 0), 1)), (15, ((162, 186, 0), 3)), (18, ((42, 0, 0), 1)), (19, ((180, 221, 0), 3)), (22, ((156, 186, 0), 3)), (25, ((42, 0, 0), 1)), (26, ((17, 0, 255), 3)), (29, ((182, 230, 0), 3)), (32, ((54, 5, 0), 2)), (34, ((21, 5, 0), 2)), (36, ((17, 0, 128), 3)), (39, ((162, 49, 0), 3)), (42, ((21, 5, 0), 2)), (44, ((2, 0, 1), 1)), (45, ((96, 0, 0), 1)), (46, ((167, 54, 0), 3)), (49, ((21, 5, 0), 2)), (51, ((16, 0, 125), 2)), (53, ((100, 0, 0), 1)), (54, ((54, 6, 0), 2)), (56, ((21, 5, 0), 2)), (58, ((17, 0, 128), 3)), (61, ((162, 71, 0), 3)), (64, ((21, 5, 0), 2)), (66, ((2, 0, 1), 1)), (67, ((96, 0, 0), 1)), (68, ((167, 72, 0), 3)), (71, ((2, 0, 1), 1)), (72, ((54, 7, 0), 2)), (74, ((21, 5, 0), 2)), (76, ((155, 107, 0), 3)), (79, ((21, 6, 0), 2)), (81, ((21, 4, 0), 2)), (83, ((163, 97, 0), 3)), (86, ((21, 7, 0), 2)), (88, ((26, 3, 0), 1)), (89, ((42, 0, 0), 1)), (90, ((180, 224, 0), 3)), (93, ((100, 0, 0), 1)), (94, ((164, 107, 0), 3)), (97, ((42, 0, 0), 1)), (98, ((42, 0, 0), 1)), (99, ((180, 224, 0), 3)), (102, ((2, 0, 1), 1)), (103, ((100, 0, 0), 1)), (104, ((181, 221, 0), 3)), (107, ((2, 0, 0), 1)), (108, ((54, 8, 0), 2)), (110, ((21, 8, 0), 2)), (112, ((21, 7, 0), 2)), (114, ((162, 176, 0), 3)), (117, ((42, 0, 0), 1)), (118, ((180, 221, 0), 3)), (121, ((156, 176, 0), 3)), (124, ((42, 0, 0), 1)), (125, ((17, 0, 255), 3)), (128, ((182, 230, 0), 3)), (131, ((54, 9, 0), 2)), (133, ((21, 5, 0), 2)), (135, ((17, 0, 128), 3)), (138, ((161, 170, 0), 3)), (141, ((21, 9, 0), 2)), (143, ((155, 170, 0), 3)), (146, ((21, 9, 0), 2)), (148, ((153, 160, 0), 3)), (151, ((21, 9, 0), 2)), (153, ((26, 1, 0), 1)), (154, ((21, 4, 0), 2)), (156, ((100, 0, 0), 1)), (157, ((164, 170, 0), 3)), (160, ((42, 0, 0), 1)), (161, ((42, 0, 0), 1)), (162, ((180, 224, 0), 3)), (165, ((2, 0, 1), 1)), (166, ((100, 0, 0), 1)), (167, ((181, 221, 0), 3)), (170, ((132, 8, 1), 3)), (173, ((167, 110, 0), 3)), (176, ((21, 4, 0), 2)), (178, ((21, 6, 0), 2)), (180, ((100, 0, 0), 1)), (181, ((54, 4, 0), 2)), (183, ((167, 10, 0), 3)), (186, ((42, 0, 0), 1)), (187, ((180, 221, 0), 3)), (190, ((156, 206, 0), 3)), (193, ((21, 4, 0), 2)), (195, ((158, 206, 0), 3)), (198, ((42, 0, 0), 1)), (199, ((42, 0, 0), 1)), (200, ((180, 224, 0), 3)), (203, ((181, 221, 0), 3)), (206, ((177, 0, 0), 1))]
set_option maxRecDepth 20000 in
theorem tX9_readOps_ok : xtok cX9_readOps tX9_readOps := by unfold xtok; decide +kernel
abbrev mX9_readOps : xM := (yX9_readOps, cX9_readOps, 10, none, tX9_readOps)
def tX9_sumOf : List (Nat × xE) := [(0, ((26, 1, 0), 1)), (1, ((59, 3, 0), 1)), (2, ((2, 0, 0), 1)), (3, ((54, 4, 0), 2)), (5, ((21, 4, 0), 2)), (7, ((26, 2, 0), 1)), (8, ((162, 28, 0), 3)), (11, ((26, 3, 0), 1)), (12, ((42, 0, 0), 1)), (13, ((21, 4, 0), 2)), (15, ((182, 227, 0), 3)), (18, ((184, 167, 0), 3)), (21, ((59, 3, 0), 1)), (22, ((132, 4, 1), 3)), (25, ((167, 5, 0), 3)), (28, ((26, 3, 0), 1)), (29, ((172, 0, 0), 1))]
set_option maxRecDepth 20000 in
theorem tX9_sumOf_ok : xtok cX9_sumOf tX9_sumOf := by unfold xtok; decide +kernel
abbrev mX9_sumOf : xM := (yX9_sumOf, cX9_sumOf, 5, (some .int), tX9_sumOf)
def tX9_isSigned : List (Nat × xE) := [(0, ((42, 0, 0), 1)), (1, ((2, 0, 4), 1)), (2, ((182, 227, 0), 3)), (5, ((2, 0, 1), 1)), (6, ((164, 13, 0), 3)), (9, ((2, 0, 1), 1)), (10, ((167, 14, 0), 3)), (13, ((2, 0, 0), 1)), (14, ((172, 0, 0), 1))]
set_option maxRecDepth 20000 in
theorem tX9_isSigned_ok : xtok cX9_isSigned tX9_isSigned := by unfold xtok; decide +kernel
abbrev mX9_isSigned : xM := (yX9_isSigned, cX9_isSigned, 1, (some .boolean), tX9_isSigned)
def tX9_wrong : List (Nat × xE) := [(0, ((42, 0, 0), 1)), (1, ((26, 1, 0), 1)), (2, ((181, 218, 0), 3)), (5, ((42, 0, 0), 1)), (6, ((2, 0, 0), 1)), (7, ((181, 224, 0), 3)), (10, ((42, 0, 0), 1)), (11, ((2, 0, (-1)), 1)), (12, ((181, 221, 0), 3)), (15, ((42, 0, 0), 1)), (16, ((182, 258, 0), 3)), (19, ((2, 0, 0), 1)), (20, ((59, 2, 0), 1)), (21, ((26, 2, 0), 1)), (22, ((42, 0, 0), 1)), (23, ((180, 249, 0), 3)), (26, ((162, 121, 0), 3)), (29, ((42, 0, 0), 1)), (30, ((180, 221, 0), 3)), (33, ((156, 121, 0), 3)), (36, ((42, 0, 0), 1)), (37, ((180, 252, 0), 3)), (40, ((16, 0, 6), 2)), (42, ((26, 2, 0), 1)), (43, ((104, 0, 0), 1)), (44, ((96, 0, 0), 1)), (45, ((59, 3, 0), 1)), (46, ((42, 0, 0), 1)), (47, ((26, 3, 0), 1)), (48, ((2, 0, 3), 1)), (49, ((96, 0, 0), 1)), (50, ((182, 227, 0), 3)), (53, ((54, 4, 0), 2)), (55, ((42, 0, 0), 1)), (56, ((26, 3, 0), 1)), (57, ((2, 0, 5), 1)), (58, ((96, 0, 0), 1)), (59, ((182, 227, 0), 3)), (62, ((54, 5, 0), 2)), (64, ((42, 0, 0), 1)), (65, ((26, 3, 0), 1)), (66, ((2, 0, 1), 1)), (67, ((96, 0, 0), 1)), (68, ((182, 227, 0), 3)), (71, ((154, 85, 0), 3)), (74, ((42, 0, 0), 1)), (75, ((21, 4, 0), 2)), (77, ((21, 5, 0), 2)), (79, ((182, 261, 0), 3)), (82, ((167, 115, 0), 3)), (85, ((42, 0, 0), 1)), (86, ((26, 3, 0), 1)), (87, ((2, 0, 1), 1)), (88, ((96, 0, 0), 1)), (89, ((182, 227, 0), 3)), (92, ((2, 0, 1), 1)), (93, ((160, 107, 0), 3)), (96, ((42, 0, 0), 1)), (97, ((21, 4, 0), 2)), (99, ((21, 5, 0), 2)), (101, ((182, 264, 0), 3)), (104, ((167, 115, 0), 3)), (107, ((42, 0, 0), 1)), (108, ((21, 4, 0), 2)), (110, ((21, 5, 0), 2)), (112, ((182, 267, 0), 3)), (115, ((132, 2, 1), 3)), (118, ((167, 21, 0), 3)), (121, ((42, 0, 0), 1)), (122, ((180, 221, 0), 3)), (125, ((156, 140, 0), 3)), (128, ((42, 0, 0), 1)), (129, ((2, 0, 1), 1)), (130, ((42, 0, 0), 1)), (131, ((180, 224, 0), 3)), (134, ((182, 270, 0), 3)), (137, ((167, 141, 0), 3)), (140, ((2, 0, 0), 1)), (141, ((59, 2, 0), 1)), (142, ((16, 0, 24), 2)), (144, ((59, 3, 0), 1)), (145, ((26, 3, 0), 1)), (146, ((155, 166, 0), 3)), (149, ((42, 0, 0), 1)), (150, ((26, 2, 0), 1)), (151, ((26, 3, 0), 1)), (152, ((124, 0, 0), 1)), (153, ((17, 0, 255), 3)), (156, ((126, 0, 0), 1)), (157, ((182, 236, 0), 3)), (160, ((132, 3, (-8)), 3)), (163, ((167, 145, 0), 3)), (166, ((2, 0, 0), 1)), (167, ((59, 3, 0), 1)), (168, ((26, 3, 0), 1)), (169, ((2, 0, 4), 1)), (170, ((162, 201, 0), 3)), (173, ((42, 0, 0), 1)), (174, ((180, 221, 0), 3)), (177, ((156, 201, 0), 3)), (180, ((42, 0, 0), 1)), (181, ((182, 273, 0), 3)), (184, ((153, 201, 0), 3)), (187, ((42, 0, 0), 1)), (188, ((17, 0, 255), 3)), (191, ((182, 230, 0), 3)), (194, ((87, 0, 0), 1)), (195, ((132, 3, 1), 3)), (198, ((167, 168, 0), 3)), (201, ((42, 0, 0), 1)), (202, ((180, 221, 0), 3)), (205, ((155, 215, 0), 3)), (208, ((42, 0, 0), 1)), (209, ((180, 221, 0), 3)), (212, ((167, 236, 0), 3)), (215, ((42, 0, 0), 1)), (216, ((180, 224, 0), 3)), (219, ((42, 0, 0), 1)), (220, ((180, 43, 0), 3)), (223, ((26, 1, 0), 1)), (224, ((46, 0, 0), 1)), (225, ((162, 235, 0), 3)), (228, ((42, 0, 0), 1)), (229, ((180, 224, 0), 3)), (232, ((167, 236, 0), 3)), (235, ((2, 0, (-1)), 1)), (236, ((172, 0, 0), 1))]
set_option maxRecDepth 20000 in
theorem tX9_wrong_ok : xtok cX9_wrong tX9_wrong := by unfold xtok; decide +kernel
abbrev mX9_wrong : xM := (yX9_wrong, cX9_wrong, 6, (some .int), tX9_wrong)
def tX9_check : List (Nat × xE) := [(0, ((42, 0, 0), 1)), (1, ((26, 1, 0), 1)), (2, ((182, 211, 0), 3)), (5, ((153, 16, 0), 3)), (8, ((42, 0, 0), 1)), (9, ((26, 1, 0), 1)), (10, ((182, 277, 0), 3)), (13, ((167, 18, 0), 3)), (16, ((16, 0, (-2)), 2)), (18, ((172, 0, 0), 1))]
set_option maxRecDepth 20000 in
theorem tX9_check_ok : xtok cX9_check tX9_check := by unfold xtok; decide +kernel
abbrev mX9_check : xM := (yX9_check, cX9_check, 2, (some .int), tX9_check)
def tX9_signer : List (Nat × xE) := [(0, ((42, 0, 0), 1)), (1, ((26, 1, 0), 1)), (2, ((182, 211, 0), 3)), (5, ((154, 10, 0), 3)), (8, ((2, 0, (-1)), 1)), (9, ((172, 0, 0), 1)), (10, ((42, 0, 0), 1)), (11, ((26, 1, 0), 1)), (12, ((182, 277, 0), 3)), (15, ((156, 25, 0), 3)), (18, ((42, 0, 0), 1)), (19, ((182, 273, 0), 3)), (22, ((154, 27, 0), 3)), (25, ((2, 0, 0), 1)), (26, ((172, 0, 0), 1)), (27, ((42, 0, 0), 1)), (28, ((180, 43, 0), 3)), (31, ((26, 1, 0), 1)), (32, ((46, 0, 0), 1)), (33, ((2, 0, 4), 1)), (34, ((100, 0, 0), 1)), (35, ((59, 3, 0), 1)), (36, ((42, 0, 0), 1)), (37, ((26, 2, 0), 1)), (38, ((26, 3, 0), 1)), (39, ((182, 270, 0), 3)), (42, ((54, 4, 0), 2)), (44, ((2, 0, 1), 1)), (45, ((54, 5, 0), 2)), (47, ((2, 0, 0), 1)), (48, ((54, 6, 0), 2)), (50, ((21, 6, 0), 2)), (52, ((2, 0, 4), 1)), (53, ((162, 100, 0), 3)), (56, ((21, 5, 0), 2)), (58, ((153, 91, 0), 3)), (61, ((42, 0, 0), 1)), (62, ((26, 3, 0), 1)), (63, ((21, 6, 0), 2)), (65, ((96, 0, 0), 1)), (66, ((182, 227, 0), 3)), (69, ((21, 4, 0), 2)), (71, ((16, 0, 24), 2)), (73, ((16, 0, 8), 2)), (75, ((21, 6, 0), 2)), (77, ((104, 0, 0), 1)), (78, ((100, 0, 0), 1)), (79, ((124, 0, 0), 1)), (80, ((17, 0, 255), 3)), (83, ((126, 0, 0), 1)), (84, ((160, 91, 0), 3)), (87, ((2, 0, 1), 1)), (88, ((167, 92, 0), 3)), (91, ((2, 0, 0), 1)), (92, ((54, 5, 0), 2)), (94, ((132, 6, 1), 3)), (97, ((167, 50, 0), 3)), (100, ((21, 5, 0), 2)), (102, ((153, 109, 0), 3)), (105, ((2, 0, 1), 1)), (106, ((167, 110, 0), 3)), (109, ((2, 0, 0), 1)), (110, ((172, 0, 0), 1))]
set_option maxRecDepth 20000 in
theorem tX9_signer_ok : xtok cX9_signer tX9_signer := by unfold xtok; decide +kernel
abbrev mX9_signer : xM := (yX9_signer, cX9_signer, 7, (some .int), tX9_signer)
def tX9_parts : List (Nat × xE) := [(0, ((42, 0, 0), 1)), (1, ((26, 1, 0), 1)), (2, ((182, 211, 0), 3)), (5, ((153, 20, 0), 3)), (8, ((26, 2, 0), 1)), (9, ((16, 0, 8), 2)), (11, ((161, 20, 0), 3)), (14, ((26, 2, 0), 1)), (15, ((16, 0, 100), 2)), (17, ((164, 22, 0), 3)), (20, ((2, 0, (-1)), 1)), (21, ((172, 0, 0), 1)), (22, ((42, 0, 0), 1)), (23, ((180, 43, 0), 3)), (26, ((26, 1, 0), 1)), (27, ((46, 0, 0), 1)), (28, ((26, 2, 0), 1)), (29, ((96, 0, 0), 1)), (30, ((2, 0, 1), 1)), (31, ((100, 0, 0), 1)), (32, ((26, 2, 0), 1)), (33, ((108, 0, 0), 1)), (34, ((172, 0, 0), 1))]
set_option maxRecDepth 20000 in
theorem tX9_parts_ok : xtok cX9_parts tX9_parts := by unfold xtok; decide +kernel
abbrev mX9_parts : xM := (yX9_parts, cX9_parts, 3, (some .int), tX9_parts)
def tX9_tapeSum : List (Nat × xE) := [(0, ((2, 0, 2), 1)), (1, ((59, 2, 0), 1)), (2, ((2, 0, 0), 1)), (3, ((59, 3, 0), 1)), (4, ((26, 3, 0), 1)), (5, ((26, 1, 0), 1)), (6, ((162, 26, 0), 3)), (9, ((26, 2, 0), 1)), (10, ((42, 0, 0), 1)), (11, ((180, 46, 0), 3)), (14, ((26, 3, 0), 1)), (15, ((46, 0, 0), 1)), (16, ((184, 167, 0), 3)), (19, ((59, 2, 0), 1)), (20, ((132, 3, 1), 3)), (23, ((167, 4, 0), 3)), (26, ((26, 2, 0), 1)), (27, ((172, 0, 0), 1))]
set_option maxRecDepth 20000 in
theorem tX9_tapeSum_ok : xtok cX9_tapeSum tX9_tapeSum := by unfold xtok; decide +kernel
abbrev mX9_tapeSum : xM := (yX9_tapeSum, cX9_tapeSum, 4, (some .int), tX9_tapeSum)
def tX9_load : List (Nat × xE) := [(0, ((42, 0, 0), 1)), (1, ((26, 1, 0), 1)), (2, ((26, 2, 0), 1)), (3, ((182, 280, 0), 3)), (6, ((54, 4, 0), 2)), (8, ((21, 4, 0), 2)), (10, ((155, 23, 0), 3)), (13, ((26, 3, 0), 1)), (14, ((155, 23, 0), 3)), (17, ((26, 3, 0), 1)), (18, ((21, 4, 0), 2)), (20, ((161, 25, 0), 3)), (23, ((2, 0, (-1)), 1)), (24, ((172, 0, 0), 1)), (25, ((42, 0, 0), 1)), (26, ((180, 46, 0), 3)), (29, ((2, 0, 0), 1)), (30, ((16, 0, 112), 2)), (32, ((79, 0, 0), 1)), (33, ((42, 0, 0), 1)), (34, ((180, 46, 0), 3)), (37, ((2, 0, 1), 1)), (38, ((26, 1, 0), 1)), (39, ((79, 0, 0), 1)), (40, ((42, 0, 0), 1)), (41, ((180, 46, 0), 3)), (44, ((2, 0, 2), 1)), (45, ((26, 3, 0), 1)), (46, ((79, 0, 0), 1)), (47, ((42, 0, 0), 1)), (48, ((180, 46, 0), 3)), (51, ((2, 0, 3), 1)), (52, ((21, 4, 0), 2)), (54, ((79, 0, 0), 1)), (55, ((42, 0, 0), 1)), (56, ((2, 0, 4), 1)), (57, ((181, 282, 0), 3)), (60, ((26, 2, 0), 1)), (61, ((26, 3, 0), 1)), (62, ((104, 0, 0), 1)), (63, ((54, 5, 0), 2)), (65, ((21, 5, 0), 2)), (67, ((26, 2, 0), 1)), (68, ((26, 3, 0), 1)), (69, ((2, 0, 1), 1)), (70, ((96, 0, 0), 1)), (71, ((104, 0, 0), 1)), (72, ((162, 124, 0), 3)), (75, ((21, 5, 0), 2)), (77, ((42, 0, 0), 1)), (78, ((180, 43, 0), 3)), (81, ((26, 1, 0), 1)), (82, ((46, 0, 0), 1)), (83, ((162, 124, 0), 3)), (86, ((42, 0, 0), 1)), (87, ((180, 46, 0), 3)), (90, ((42, 0, 0), 1)), (91, ((180, 282, 0), 3)), (94, ((42, 0, 0), 1)), (95, ((180, 40, 0), 3)), (98, ((17, 0, 700), 3)), (101, ((26, 1, 0), 1)), (102, ((104, 0, 0), 1)), (103, ((21, 5, 0), 2)), (105, ((96, 0, 0), 1)), (106, ((46, 0, 0), 1)), (107, ((79, 0, 0), 1)), (108, ((42, 0, 0), 1)), (109, ((89, 0, 0), 1)), (110, ((180, 282, 0), 3)), (113, ((2, 0, 1), 1)), (114, ((96, 0, 0), 1)), (115, ((181, 282, 0), 3)), (118, ((132, 5, 1), 3)), (121, ((167, 65, 0), 3)), (124, ((42, 0, 0), 1)), (125, ((42, 0, 0), 1)), (126, ((180, 282, 0), 3)), (129, ((182, 285, 0), 3)), (132, ((54, 5, 0), 2)), (134, ((16, 0, 24), 2)), (136, ((54, 6, 0), 2)), (138, ((21, 6, 0), 2)), (140, ((155, 177, 0), 3)), (143, ((42, 0, 0), 1)), (144, ((180, 46, 0), 3)), (147, ((42, 0, 0), 1)), (148, ((180, 282, 0), 3)), (151, ((21, 5, 0), 2)), (153, ((21, 6, 0), 2)), (155, ((124, 0, 0), 1)), (156, ((17, 0, 255), 3)), (159, ((126, 0, 0), 1)), (160, ((79, 0, 0), 1)), (161, ((42, 0, 0), 1)), (162, ((89, 0, 0), 1)), (163, ((180, 282, 0), 3)), (166, ((2, 0, 1), 1)), (167, ((96, 0, 0), 1)), (168, ((181, 282, 0), 3)), (171, ((132, 6, (-8)), 3)), (174, ((167, 138, 0), 3)), (177, ((42, 0, 0), 1)), (178, ((180, 282, 0), 3)), (181, ((172, 0, 0), 1))]
set_option maxRecDepth 20000 in
theorem tX9_load_ok : xtok cX9_load tX9_load := by unfold xtok; decide +kernel
abbrev mX9_load : xM := (yX9_load, cX9_load, 7, (some .int), tX9_load)
def tX9_tape : List (Nat × xE) := [(0, ((26, 1, 0), 1)), (1, ((155, 12, 0), 3)), (4, ((26, 1, 0), 1)), (5, ((42, 0, 0), 1)), (6, ((180, 282, 0), 3)), (9, ((161, 16, 0), 3)), (12, ((2, 0, (-1)), 1)), (13, ((167, 22, 0), 3)), (16, ((42, 0, 0), 1)), (17, ((180, 46, 0), 3)), (20, ((26, 1, 0), 1)), (21, ((46, 0, 0), 1)), (22, ((172, 0, 0), 1))]
set_option maxRecDepth 20000 in
theorem tX9_tape_ok : xtok cX9_tape tX9_tape := by unfold xtok; decide +kernel
abbrev mX9_tape : xM := (yX9_tape, cX9_tape, 2, (some .int), tX9_tape)
def tX9_bend : List (Nat × xE) := [(0, ((26, 1, 0), 1)), (1, ((155, 24, 0), 3)), (4, ((26, 1, 0), 1)), (5, ((42, 0, 0), 1)), (6, ((180, 282, 0), 3)), (9, ((162, 24, 0), 3)), (12, ((26, 2, 0), 1)), (13, ((2, 0, 1), 1)), (14, ((161, 24, 0), 3)), (17, ((26, 2, 0), 1)), (18, ((17, 0, 255), 3)), (21, ((164, 26, 0), 3)), (24, ((2, 0, (-1)), 1)), (25, ((172, 0, 0), 1)), (26, ((42, 0, 0), 1)), (27, ((180, 46, 0), 3)), (30, ((26, 1, 0), 1)), (31, ((42, 0, 0), 1)), (32, ((180, 46, 0), 3)), (35, ((26, 1, 0), 1)), (36, ((46, 0, 0), 1)), (37, ((26, 2, 0), 1)), (38, ((130, 0, 0), 1)), (39, ((79, 0, 0), 1)), (40, ((2, 0, 1), 1)), (41, ((172, 0, 0), 1))]
set_option maxRecDepth 20000 in
theorem tX9_bend_ok : xtok cX9_bend tX9_bend := by unfold xtok; decide +kernel
abbrev mX9_bend : xM := (yX9_bend, cX9_bend, 3, (some .int), tX9_bend)
end
section
def tX9_isSpoiled : List (Nat × xE) := [(0, ((42, 0, 0), 1)), (1, ((180, 282, 0), 3)), (4, ((16, 0, 9), 2)), (6, ((161, 67, 0), 3)), (9, ((42, 0, 0), 1)), (10, ((180, 46, 0), 3)), (13, ((2, 0, 0), 1)), (14, ((46, 0, 0), 1)), (15, ((16, 0, 112), 2)), (17, ((160, 67, 0), 3)), (20, ((42, 0, 0), 1)), (21, ((180, 46, 0), 3)), (24, ((2, 0, 1), 1)), (25, ((46, 0, 0), 1)), (26, ((16, 0, 15), 2)), (28, ((163, 67, 0), 3)), (31, ((42, 0, 0), 1)), (32, ((180, 46, 0), 3)), (35, ((2, 0, 3), 1)), (36, ((46, 0, 0), 1)), (37, ((2, 0, 1), 1)), (38, ((161, 67, 0), 3)), (41, ((42, 0, 0), 1)), (42, ((180, 46, 0), 3)), (45, ((2, 0, 3), 1)), (46, ((46, 0, 0), 1)), (47, ((16, 0, 88), 2)), (49, ((163, 67, 0), 3)), (52, ((42, 0, 0), 1)), (53, ((180, 46, 0), 3)), (56, ((2, 0, 2), 1)), (57, ((46, 0, 0), 1)), (58, ((42, 0, 0), 1)), (59, ((180, 46, 0), 3)), (62, ((2, 0, 3), 1)), (63, ((46, 0, 0), 1)), (64, ((161, 69, 0), 3)), (67, ((2, 0, 1), 1)), (68, ((172, 0, 0), 1)), (69, ((42, 0, 0), 1)), (70, ((42, 0, 0), 1)), (71, ((180, 282, 0), 3)), (74, ((2, 0, 4), 1)), (75, ((100, 0, 0), 1)), (76, ((182, 285, 0), 3)), (79, ((59, 1, 0), 1)), (80, ((2, 0, 1), 1)), (81, ((59, 2, 0), 1)), (82, ((2, 0, 0), 1)), (83, ((59, 3, 0), 1)), (84, ((26, 3, 0), 1)), (85, ((2, 0, 4), 1)), (86, ((162, 134, 0), 3)), (89, ((26, 2, 0), 1)), (90, ((153, 126, 0), 3)), (93, ((42, 0, 0), 1)), (94, ((180, 46, 0), 3)), (97, ((42, 0, 0), 1)), (98, ((180, 282, 0), 3)), (101, ((2, 0, 4), 1)), (102, ((100, 0, 0), 1)), (103, ((26, 3, 0), 1)), (104, ((96, 0, 0), 1)), (105, ((46, 0, 0), 1)), (106, ((26, 1, 0), 1)), (107, ((16, 0, 24), 2)), (109, ((16, 0, 8), 2)), (111, ((26, 3, 0), 1)), (112, ((104, 0, 0), 1)), (113, ((100, 0, 0), 1)), (114, ((124, 0, 0), 1)), (115, ((17, 0, 255), 3)), (118, ((126, 0, 0), 1)), (119, ((160, 126, 0), 3)), (122, ((2, 0, 1), 1)), (123, ((167, 127, 0), 3)), (126, ((2, 0, 0), 1)), (127, ((59, 2, 0), 1)), (128, ((132, 3, 1), 3)), (131, ((167, 84, 0), 3)), (134, ((26, 2, 0), 1)), (135, ((154, 142, 0), 3)), (138, ((2, 0, 1), 1)), (139, ((167, 143, 0), 3)), (142, ((2, 0, 0), 1)), (143, ((172, 0, 0), 1))]
set_option maxRecDepth 20000 in
theorem tX9_isSpoiled_ok : xtok cX9_isSpoiled tX9_isSpoiled := by unfold xtok; decide +kernel
abbrev mX9_isSpoiled : xM := (yX9_isSpoiled, cX9_isSpoiled, 4, (some .boolean), tX9_isSpoiled)
def tX9_bookLength : List (Nat × xE) := [(0, ((2, 0, 0), 1)), (1, ((59, 2, 0), 1)), (2, ((2, 0, 0), 1)), (3, ((59, 3, 0), 1)), (4, ((26, 3, 0), 1)), (5, ((42, 0, 0), 1)), (6, ((180, 57, 0), 3)), (9, ((26, 1, 0), 1)), (10, ((46, 0, 0), 1)), (11, ((162, 34, 0), 3)), (14, ((26, 2, 0), 1)), (15, ((42, 0, 0), 1)), (16, ((180, 54, 0), 3)), (19, ((16, 0, 88), 2)), (21, ((26, 1, 0), 1)), (22, ((104, 0, 0), 1)), (23, ((26, 3, 0), 1)), (24, ((96, 0, 0), 1)), (25, ((46, 0, 0), 1)), (26, ((96, 0, 0), 1)), (27, ((59, 2, 0), 1)), (28, ((132, 3, 1), 3)), (31, ((167, 4, 0), 3)), (34, ((26, 2, 0), 1)), (35, ((172, 0, 0), 1))]
set_option maxRecDepth 20000 in
theorem tX9_bookLength_ok : xtok cX9_bookLength tX9_bookLength := by unfold xtok; decide +kernel
abbrev mX9_bookLength : xM := (yX9_bookLength, cX9_bookLength, 4, (some .int), tX9_bookLength)
def tX9_emptyBook : List (Nat × xE) := [(0, ((42, 0, 0), 1)), (1, ((180, 57, 0), 3)), (4, ((26, 1, 0), 1)), (5, ((2, 0, 0), 1)), (6, ((79, 0, 0), 1)), (7, ((42, 0, 0), 1)), (8, ((180, 60, 0), 3)), (11, ((26, 1, 0), 1)), (12, ((2, 0, 0), 1)), (13, ((79, 0, 0), 1)), (14, ((2, 0, 0), 1)), (15, ((59, 2, 0), 1)), (16, ((26, 2, 0), 1)), (17, ((16, 0, 88), 2)), (19, ((162, 40, 0), 3)), (22, ((42, 0, 0), 1)), (23, ((180, 54, 0), 3)), (26, ((16, 0, 88), 2)), (28, ((26, 1, 0), 1)), (29, ((104, 0, 0), 1)), (30, ((26, 2, 0), 1)), (31, ((96, 0, 0), 1)), (32, ((2, 0, 0), 1)), (33, ((79, 0, 0), 1)), (34, ((132, 2, 1), 3)), (37, ((167, 16, 0), 3)), (40, ((177, 0, 0), 1))]
set_option maxRecDepth 20000 in
theorem tX9_emptyBook_ok : xtok cX9_emptyBook tX9_emptyBook := by unfold xtok; decide +kernel
abbrev mX9_emptyBook : xM := (yX9_emptyBook, cX9_emptyBook, 3, none, tX9_emptyBook)
def tX9_join : List (Nat × xE) := [(0, ((2, 0, 0), 1)), (1, ((59, 2, 0), 1)), (2, ((2, 0, 0), 1)), (3, ((59, 3, 0), 1)), (4, ((26, 3, 0), 1)), (5, ((42, 0, 0), 1)), (6, ((180, 57, 0), 3)), (9, ((26, 1, 0), 1)), (10, ((46, 0, 0), 1)), (11, ((162, 84, 0), 3)), (14, ((2, 0, 0), 1)), (15, ((54, 4, 0), 2)), (17, ((21, 4, 0), 2)), (19, ((42, 0, 0), 1)), (20, ((180, 54, 0), 3)), (23, ((16, 0, 88), 2)), (25, ((26, 1, 0), 1)), (26, ((104, 0, 0), 1)), (27, ((26, 3, 0), 1)), (28, ((96, 0, 0), 1)), (29, ((46, 0, 0), 1)), (30, ((162, 78, 0), 3)), (33, ((42, 0, 0), 1)), (34, ((180, 40, 0), 3)), (37, ((17, 0, 700), 3)), (40, ((42, 0, 0), 1)), (41, ((180, 208, 0), 3)), (44, ((104, 0, 0), 1)), (45, ((26, 2, 0), 1)), (46, ((96, 0, 0), 1)), (47, ((42, 0, 0), 1)), (48, ((180, 50, 0), 3)), (51, ((16, 0, 100), 2)), (53, ((16, 0, 88), 2)), (55, ((26, 1, 0), 1)), (56, ((104, 0, 0), 1)), (57, ((26, 3, 0), 1)), (58, ((96, 0, 0), 1)), (59, ((104, 0, 0), 1)), (60, ((21, 4, 0), 2)), (62, ((96, 0, 0), 1)), (63, ((51, 0, 0), 1)), (64, ((17, 0, 255), 3)), (67, ((126, 0, 0), 1)), (68, ((79, 0, 0), 1)), (69, ((132, 2, 1), 3)), (72, ((132, 4, 1), 3)), (75, ((167, 17, 0), 3)), (78, ((132, 3, 1), 3)), (81, ((167, 4, 0), 3)), (84, ((42, 0, 0), 1)), (85, ((180, 43, 0), 3)), (88, ((42, 0, 0), 1)), (89, ((180, 208, 0), 3)), (92, ((26, 2, 0), 1)), (93, ((79, 0, 0), 1)), (94, ((42, 0, 0), 1)), (95, ((89, 0, 0), 1)), (96, ((180, 208, 0), 3)), (99, ((2, 0, 1), 1)), (100, ((96, 0, 0), 1)), (101, ((181, 208, 0), 3)), (104, ((42, 0, 0), 1)), (105, ((26, 1, 0), 1)), (106, ((182, 288, 0), 3)), (109, ((16, 0, 99), 2)), (111, ((42, 0, 0), 1)), (112, ((180, 208, 0), 3)), (115, ((96, 0, 0), 1)), (116, ((172, 0, 0), 1))]
set_option maxRecDepth 20000 in
theorem tX9_join_ok : xtok cX9_join tX9_join := by unfold xtok; decide +kernel
abbrev mX9_join : xM := (yX9_join, cX9_join, 5, (some .int), tX9_join)
def tX9_take : List (Nat × xE) := [(0, ((42, 0, 0), 1)), (1, ((180, 282, 0), 3)), (4, ((154, 10, 0), 3)), (7, ((16, 0, (-2)), 2)), (9, ((172, 0, 0), 1)), (10, ((42, 0, 0), 1)), (11, ((182, 291, 0), 3)), (14, ((153, 20, 0), 3)), (17, ((16, 0, (-9)), 2)), (19, ((172, 0, 0), 1)), (20, ((42, 0, 0), 1)), (21, ((180, 46, 0), 3)), (24, ((2, 0, 1), 1)), (25, ((46, 0, 0), 1)), (26, ((59, 1, 0), 1)), (27, ((42, 0, 0), 1)), (28, ((180, 46, 0), 3)), (31, ((2, 0, 2), 1)), (32, ((46, 0, 0), 1)), (33, ((59, 2, 0), 1)), (34, ((42, 0, 0), 1)), (35, ((180, 57, 0), 3)), (38, ((26, 1, 0), 1)), (39, ((46, 0, 0), 1)), (40, ((158, 61, 0), 3)), (43, ((42, 0, 0), 1)), (44, ((180, 57, 0), 3)), (47, ((26, 1, 0), 1)), (48, ((46, 0, 0), 1)), (49, ((42, 0, 0), 1)), (50, ((180, 46, 0), 3)), (53, ((2, 0, 3), 1)), (54, ((46, 0, 0), 1)), (55, ((159, 61, 0), 3)), (58, ((16, 0, (-10)), 2)), (60, ((172, 0, 0), 1)), (61, ((42, 0, 0), 1)), (62, ((180, 54, 0), 3)), (65, ((16, 0, 88), 2)), (67, ((26, 1, 0), 1)), (68, ((104, 0, 0), 1)), (69, ((26, 2, 0), 1)), (70, ((96, 0, 0), 1)), (71, ((46, 0, 0), 1)), (72, ((158, 78, 0), 3)), (75, ((16, 0, (-4)), 2)), (77, ((172, 0, 0), 1)), (78, ((42, 0, 0), 1)), (79, ((180, 60, 0), 3)), (82, ((26, 1, 0), 1)), (83, ((46, 0, 0), 1)), (84, ((2, 0, 1), 1)), (85, ((96, 0, 0), 1)), (86, ((42, 0, 0), 1)), (87, ((180, 46, 0), 3)), (90, ((2, 0, 3), 1)), (91, ((46, 0, 0), 1)), (92, ((160, 99, 0), 3)), (95, ((2, 0, 1), 1)), (96, ((167, 100, 0), 3)), (99, ((2, 0, 0), 1)), (100, ((59, 3, 0), 1)), (101, ((26, 3, 0), 1)), (102, ((153, 136, 0), 3)), (105, ((42, 0, 0), 1)), (106, ((180, 208, 0), 3)), (109, ((16, 0, 16), 2)), (111, ((159, 133, 0), 3)), (114, ((42, 0, 0), 1)), (115, ((26, 1, 0), 1)), (116, ((182, 294, 0), 3)), (119, ((42, 0, 0), 1)), (120, ((180, 282, 0), 3)), (123, ((96, 0, 0), 1)), (124, ((16, 0, 8), 2)), (126, ((100, 0, 0), 1)), (127, ((17, 0, 700), 3)), (130, ((164, 136, 0), 3)), (133, ((16, 0, (-3)), 2)), (135, ((172, 0, 0), 1)), (136, ((42, 0, 0), 1)), (137, ((180, 57, 0), 3)), (140, ((26, 1, 0), 1)), (141, ((42, 0, 0), 1)), (142, ((180, 46, 0), 3)), (145, ((2, 0, 3), 1)), (146, ((46, 0, 0), 1)), (147, ((79, 0, 0), 1)), (148, ((42, 0, 0), 1)), (149, ((180, 60, 0), 3)), (152, ((26, 1, 0), 1)), (153, ((92, 0, 0), 1)), (154, ((46, 0, 0), 1)), (155, ((2, 0, 1), 1)), (156, ((96, 0, 0), 1)), (157, ((79, 0, 0), 1)), (158, ((42, 0, 0), 1)), (159, ((180, 54, 0), 3)), (162, ((16, 0, 88), 2)), (164, ((26, 1, 0), 1)), (165, ((104, 0, 0), 1)), (166, ((26, 2, 0), 1)), (167, ((96, 0, 0), 1)), (168, ((42, 0, 0), 1)), (169, ((180, 282, 0), 3)), (172, ((16, 0, 8), 2)), (174, ((100, 0, 0), 1)), (175, ((79, 0, 0), 1)), (176, ((2, 0, 0), 1)), (177, ((54, 4, 0), 2)), (179, ((21, 4, 0), 2)), (181, ((42, 0, 0), 1)), (182, ((180, 282, 0), 3)), (185, ((16, 0, 8), 2)), (187, ((100, 0, 0), 1)), (188, ((162, 224, 0), 3)), (191, ((42, 0, 0), 1)), (192, ((180, 50, 0), 3)), (195, ((16, 0, 100), 2)), (197, ((16, 0, 88), 2)), (199, ((26, 1, 0), 1)), (200, ((104, 0, 0), 1)), (201, ((26, 2, 0), 1)), (202, ((96, 0, 0), 1)), (203, ((104, 0, 0), 1)), (204, ((21, 4, 0), 2)), (206, ((96, 0, 0), 1)), (207, ((42, 0, 0), 1)), (208, ((180, 46, 0), 3)), (211, ((2, 0, 4), 1)), (212, ((21, 4, 0), 2)), (214, ((96, 0, 0), 1)), (215, ((46, 0, 0), 1)), (216, ((145, 0, 0), 1)), (217, ((84, 0, 0), 1)), (218, ((132, 4, 1), 3)), (221, ((167, 179, 0), 3)), (224, ((26, 3, 0), 1)), (225, ((153, 236, 0), 3)), (228, ((42, 0, 0), 1)), (229, ((26, 1, 0), 1)), (230, ((182, 297, 0), 3)), (233, ((167, 237, 0), 3)), (236, ((2, 0, 0), 1)), (237, ((172, 0, 0), 1))]
set_option maxRecDepth 20000 in
theorem tX9_take_ok : xtok cX9_take tX9_take := by unfold xtok; decide +kernel
abbrev mX9_take : xM := (yX9_take, cX9_take, 5, (some .int), tX9_take)
def tX9_book : List (Nat × xE) := [(0, ((26, 1, 0), 1)), (1, ((16, 0, 15), 2)), (3, ((184, 121, 0), 3)), (6, ((153, 13, 0), 3)), (9, ((26, 2, 0), 1)), (10, ((156, 15, 0), 3)), (13, ((2, 0, (-1)), 1)), (14, ((172, 0, 0), 1)), (15, ((26, 2, 0), 1)), (16, ((2, 0, 2), 1)), (17, ((162, 40, 0), 3)), (20, ((26, 2, 0), 1)), (21, ((154, 33, 0), 3)), (24, ((42, 0, 0), 1)), (25, ((180, 57, 0), 3)), (28, ((26, 1, 0), 1)), (29, ((46, 0, 0), 1)), (30, ((167, 39, 0), 3)), (33, ((42, 0, 0), 1)), (34, ((180, 60, 0), 3)), (37, ((26, 1, 0), 1)), (38, ((46, 0, 0), 1)), (39, ((172, 0, 0), 1)), (40, ((26, 2, 0), 1)), (41, ((16, 0, 90), 2)), (43, ((162, 66, 0), 3)), (46, ((42, 0, 0), 1)), (47, ((180, 54, 0), 3)), (50, ((16, 0, 88), 2)), (52, ((26, 1, 0), 1)), (53, ((104, 0, 0), 1)), (54, ((26, 2, 0), 1)), (55, ((96, 0, 0), 1)), (56, ((2, 0, 2), 1)), (57, ((100, 0, 0), 1)), (58, ((46, 0, 0), 1)), (59, ((158, 66, 0), 3)), (62, ((2, 0, 1), 1)), (63, ((167, 67, 0), 3)), (66, ((2, 0, 0), 1)), (67, ((172, 0, 0), 1))]
set_option maxRecDepth 20000 in
theorem tX9_book_ok : xtok cX9_book tX9_book := by unfold xtok; decide +kernel
abbrev mX9_book : xM := (yX9_book, cX9_book, 3, (some .int), tX9_book)
def tX9_drop : List (Nat × xE) := [(0, ((26, 1, 0), 1)), (1, ((16, 0, 15), 2)), (3, ((184, 121, 0), 3)), (6, ((154, 11, 0), 3)), (9, ((2, 0, (-1)), 1)), (10, ((172, 0, 0), 1)), (11, ((42, 0, 0), 1)), (12, ((180, 60, 0), 3)), (15, ((26, 1, 0), 1)), (16, ((46, 0, 0), 1)), (17, ((59, 2, 0), 1)), (18, ((42, 0, 0), 1)), (19, ((26, 1, 0), 1)), (20, ((182, 288, 0), 3)), (23, ((26, 2, 0), 1)), (24, ((172, 0, 0), 1))]
set_option maxRecDepth 20000 in
theorem tX9_drop_ok : xtok cX9_drop tX9_drop := by unfold xtok; decide +kernel
abbrev mX9_drop : xM := (yX9_drop, cX9_drop, 3, (some .int), tX9_drop)
def tX9_meeting : List (Nat × xE) := [(0, ((2, 0, (-1)), 1)), (1, ((54, 4, 0), 2)), (3, ((2, 0, 0), 1)), (4, ((54, 5, 0), 2)), (6, ((21, 5, 0), 2)), (8, ((42, 0, 0), 1)), (9, ((180, 300, 0), 3)), (12, ((162, 109, 0), 3)), (15, ((42, 0, 0), 1)), (16, ((180, 72, 0), 3)), (19, ((21, 5, 0), 2)), (21, ((51, 0, 0), 1)), (22, ((154, 69, 0), 3)), (25, ((42, 0, 0), 1)), (26, ((180, 63, 0), 3)), (29, ((21, 5, 0), 2)), (31, ((46, 0, 0), 1)), (32, ((26, 1, 0), 1)), (33, ((160, 69, 0), 3)), (36, ((26, 3, 0), 1)), (37, ((153, 54, 0), 3)), (40, ((42, 0, 0), 1)), (41, ((180, 66, 0), 3)), (44, ((21, 5, 0), 2)), (46, ((46, 0, 0), 1)), (47, ((26, 2, 0), 1)), (48, ((160, 69, 0), 3)), (51, ((167, 65, 0), 3)), (54, ((42, 0, 0), 1)), (55, ((180, 66, 0), 3)), (58, ((21, 5, 0), 2)), (60, ((46, 0, 0), 1)), (61, ((26, 2, 0), 1)), (62, ((163, 69, 0), 3)), (65, ((2, 0, 1), 1)), (66, ((167, 70, 0), 3)), (69, ((2, 0, 0), 1)), (70, ((54, 6, 0), 2)), (72, ((21, 6, 0), 2)), (74, ((153, 103, 0), 3)), (77, ((21, 4, 0), 2)), (79, ((155, 99, 0), 3)), (82, ((42, 0, 0), 1)), (83, ((180, 66, 0), 3)), (86, ((21, 5, 0), 2)), (88, ((46, 0, 0), 1)), (89, ((42, 0, 0), 1)), (90, ((180, 66, 0), 3)), (93, ((21, 4, 0), 2)), (95, ((46, 0, 0), 1)), (96, ((161, 103, 0), 3)), (99, ((21, 5, 0), 2)), (101, ((54, 4, 0), 2)), (103, ((132, 5, 1), 3)), (106, ((167, 6, 0), 3)), (109, ((21, 4, 0), 2)), (111, ((172, 0, 0), 1))]
set_option maxRecDepth 20000 in
theorem tX9_meeting_ok : xtok cX9_meeting tX9_meeting := by unfold xtok; decide +kernel
abbrev mX9_meeting : xM := (yX9_meeting, cX9_meeting, 7, (some .int), tX9_meeting)
def tX9_findSeen : List (Nat × xE) := [(0, ((2, 0, 0), 1)), (1, ((59, 2, 0), 1)), (2, ((26, 2, 0), 1)), (3, ((16, 0, 12), 2)), (5, ((162, 21, 0), 3)), (8, ((42, 0, 0), 1)), (9, ((180, 106, 0), 3)), (12, ((26, 2, 0), 1)), (13, ((2, 0, 0), 1)), (14, ((84, 0, 0), 1)), (15, ((132, 2, 1), 3)), (18, ((167, 2, 0), 3)), (21, ((2, 0, 0), 1)), (22, ((59, 2, 0), 1)), (23, ((26, 2, 0), 1)), (24, ((42, 0, 0), 1)), (25, ((180, 76, 0), 3)), (28, ((26, 1, 0), 1)), (29, ((46, 0, 0), 1)), (30, ((162, 55, 0), 3)), (33, ((42, 0, 0), 1)), (34, ((180, 106, 0), 3)), (37, ((42, 0, 0), 1)), (38, ((180, 79, 0), 3)), (41, ((2, 0, 4), 1)), (42, ((26, 1, 0), 1)), (43, ((104, 0, 0), 1)), (44, ((26, 2, 0), 1)), (45, ((96, 0, 0), 1)), (46, ((46, 0, 0), 1)), (47, ((2, 0, 1), 1)), (48, ((84, 0, 0), 1)), (49, ((132, 2, 1), 3)), (52, ((167, 23, 0), 3)), (55, ((16, 0, 11), 2)), (57, ((59, 2, 0), 1)), (58, ((26, 2, 0), 1)), (59, ((155, 111, 0), 3)), (62, ((2, 0, 0), 1)), (63, ((59, 3, 0), 1)), (64, ((42, 0, 0), 1)), (65, ((180, 106, 0), 3)), (68, ((26, 2, 0), 1)), (69, ((51, 0, 0), 1)), (70, ((153, 105, 0), 3)), (73, ((26, 3, 0), 1)), (74, ((42, 0, 0), 1)), (75, ((180, 76, 0), 3)), (78, ((26, 2, 0), 1)), (79, ((46, 0, 0), 1)), (80, ((162, 105, 0), 3)), (83, ((42, 0, 0), 1)), (84, ((180, 106, 0), 3)), (87, ((42, 0, 0), 1)), (88, ((180, 79, 0), 3)), (91, ((2, 0, 4), 1)), (92, ((26, 2, 0), 1)), (93, ((104, 0, 0), 1)), (94, ((26, 3, 0), 1)), (95, ((96, 0, 0), 1)), (96, ((46, 0, 0), 1)), (97, ((2, 0, 1), 1)), (98, ((84, 0, 0), 1)), (99, ((132, 3, 1), 3)), (102, ((167, 64, 0), 3)), (105, ((132, 2, (-1)), 3)), (108, ((167, 58, 0), 3)), (111, ((177, 0, 0), 1))]
set_option maxRecDepth 20000 in
theorem tX9_findSeen_ok : xtok cX9_findSeen tX9_findSeen := by unfold xtok; decide +kernel
abbrev mX9_findSeen : xM := (yX9_findSeen, cX9_findSeen, 4, none, tX9_findSeen)
def tX9_hasRowOf : List (Nat × xE) := [(0, ((2, 0, 0), 1)), (1, ((59, 3, 0), 1)), (2, ((2, 0, 0), 1)), (3, ((54, 4, 0), 2)), (5, ((21, 4, 0), 2)), (7, ((42, 0, 0), 1)), (8, ((180, 88, 0), 3)), (11, ((26, 1, 0), 1)), (12, ((46, 0, 0), 1)), (13, ((162, 51, 0), 3)), (16, ((26, 3, 0), 1)), (17, ((154, 39, 0), 3)), (20, ((42, 0, 0), 1)), (21, ((180, 91, 0), 3)), (24, ((16, 0, 8), 2)), (26, ((26, 1, 0), 1)), (27, ((104, 0, 0), 1)), (28, ((21, 4, 0), 2)), (30, ((96, 0, 0), 1)), (31, ((46, 0, 0), 1)), (32, ((16, 0, 16), 2)), (34, ((108, 0, 0), 1)), (35, ((26, 2, 0), 1)), (36, ((160, 43, 0), 3)), (39, ((2, 0, 1), 1)), (40, ((167, 44, 0), 3)), (43, ((2, 0, 0), 1)), (44, ((59, 3, 0), 1)), (45, ((132, 4, 1), 3)), (48, ((167, 5, 0), 3)), (51, ((26, 3, 0), 1)), (52, ((172, 0, 0), 1))]
set_option maxRecDepth 20000 in
theorem tX9_hasRowOf_ok : xtok cX9_hasRowOf tX9_hasRowOf := by unfold xtok; decide +kernel
abbrev mX9_hasRowOf : xM := (yX9_hasRowOf, cX9_hasRowOf, 5, (some .boolean), tX9_hasRowOf)
def tX9_seals : List (Nat × xE) := [(0, ((2, 0, 0), 1)), (1, ((59, 3, 0), 1)), (2, ((2, 0, 0), 1)), (3, ((54, 4, 0), 2)), (5, ((21, 4, 0), 2)), (7, ((42, 0, 0), 1)), (8, ((180, 82, 0), 3)), (11, ((26, 1, 0), 1)), (12, ((46, 0, 0), 1)), (13, ((162, 47, 0), 3)), (16, ((26, 3, 0), 1)), (17, ((154, 35, 0), 3)), (20, ((42, 0, 0), 1)), (21, ((180, 85, 0), 3)), (24, ((2, 0, 4), 1)), (25, ((26, 1, 0), 1)), (26, ((104, 0, 0), 1)), (27, ((21, 4, 0), 2)), (29, ((96, 0, 0), 1)), (30, ((46, 0, 0), 1)), (31, ((26, 2, 0), 1)), (32, ((160, 39, 0), 3)), (35, ((2, 0, 1), 1)), (36, ((167, 40, 0), 3)), (39, ((2, 0, 0), 1)), (40, ((59, 3, 0), 1)), (41, ((132, 4, 1), 3)), (44, ((167, 5, 0), 3)), (47, ((26, 3, 0), 1)), (48, ((172, 0, 0), 1))]
set_option maxRecDepth 20000 in
theorem tX9_seals_ok : xtok cX9_seals tX9_seals := by unfold xtok; decide +kernel
abbrev mX9_seals : xM := (yX9_seals, cX9_seals, 5, (some .boolean), tX9_seals)
def tX9_sealedGroup : List (Nat × xE) := [(0, ((42, 0, 0), 1)), (1, ((26, 1, 0), 1)), (2, ((182, 303, 0), 3)), (5, ((2, 0, 0), 1)), (6, ((59, 2, 0), 1)), (7, ((26, 2, 0), 1)), (8, ((16, 0, 16), 2)), (10, ((162, 82, 0), 3)), (13, ((2, 0, 0), 1)), (14, ((59, 3, 0), 1)), (15, ((26, 3, 0), 1)), (16, ((42, 0, 0), 1)), (17, ((180, 300, 0), 3)), (20, ((162, 76, 0), 3)), (23, ((42, 0, 0), 1)), (24, ((180, 106, 0), 3)), (27, ((26, 3, 0), 1)), (28, ((51, 0, 0), 1)), (29, ((153, 70, 0), 3)), (32, ((42, 0, 0), 1)), (33, ((26, 3, 0), 1)), (34, ((26, 2, 0), 1)), (35, ((182, 306, 0), 3)), (38, ((153, 50, 0), 3)), (41, ((42, 0, 0), 1)), (42, ((26, 1, 0), 1)), (43, ((26, 2, 0), 1)), (44, ((182, 308, 0), 3)), (47, ((154, 68, 0), 3)), (50, ((42, 0, 0), 1)), (51, ((26, 1, 0), 1)), (52, ((26, 2, 0), 1)), (53, ((182, 306, 0), 3)), (56, ((153, 70, 0), 3)), (59, ((42, 0, 0), 1)), (60, ((26, 3, 0), 1)), (61, ((26, 2, 0), 1)), (62, ((182, 308, 0), 3)), (65, ((153, 70, 0), 3)), (68, ((26, 2, 0), 1)), (69, ((172, 0, 0), 1)), (70, ((132, 3, 1), 3)), (73, ((167, 15, 0), 3)), (76, ((132, 2, 1), 3)), (79, ((167, 7, 0), 3)), (82, ((2, 0, (-1)), 1)), (83, ((172, 0, 0), 1))]
set_option maxRecDepth 20000 in
theorem tX9_sealedGroup_ok : xtok cX9_sealedGroup tX9_sealedGroup := by unfold xtok; decide +kernel
abbrev mX9_sealedGroup : xM := (yX9_sealedGroup, cX9_sealedGroup, 4, (some .int), tX9_sealedGroup)
def tX9_unpack : List (Nat × xE) := [(0, ((16, 0, 120), 2)), (2, ((16, 0, 8), 2)), (4, ((26, 1, 0), 1)), (5, ((104, 0, 0), 1)), (6, ((26, 2, 0), 1)), (7, ((96, 0, 0), 1)), (8, ((104, 0, 0), 1)), (9, ((54, 6, 0), 2)), (11, ((2, 0, 0), 1)), (12, ((54, 7, 0), 2)), (14, ((21, 5, 0), 2)), (16, ((54, 8, 0), 2)), (18, ((21, 7, 0), 2)), (20, ((21, 4, 0), 2)), (22, ((162, 237, 0), 3)), (25, ((26, 3, 0), 1)), (26, ((154, 54, 0), 3)), (29, ((42, 0, 0), 1)), (30, ((180, 97, 0), 3)), (33, ((21, 6, 0), 2)), (35, ((21, 7, 0), 2)), (37, ((96, 0, 0), 1)), (38, ((42, 0, 0), 1)), (39, ((21, 8, 0), 2)), (41, ((182, 227, 0), 3)), (44, ((79, 0, 0), 1)), (45, ((132, 7, 1), 3)), (48, ((132, 8, 1), 3)), (51, ((167, 18, 0), 3)), (54, ((26, 3, 0), 1)), (55, ((2, 0, 1), 1)), (56, ((160, 105, 0), 3)), (59, ((42, 0, 0), 1)), (60, ((21, 8, 0), 2)), (62, ((182, 227, 0), 3)), (65, ((54, 9, 0), 2)), (67, ((21, 9, 0), 2)), (69, ((158, 99, 0), 3)), (72, ((42, 0, 0), 1)), (73, ((180, 97, 0), 3)), (76, ((21, 6, 0), 2)), (78, ((21, 7, 0), 2)), (80, ((96, 0, 0), 1)), (81, ((42, 0, 0), 1)), (82, ((21, 8, 0), 2)), (84, ((2, 0, 1), 1)), (85, ((96, 0, 0), 1)), (86, ((182, 227, 0), 3)), (89, ((79, 0, 0), 1)), (90, ((132, 7, 1), 3)), (93, ((132, 9, (-1)), 3)), (96, ((167, 67, 0), 3)), (99, ((132, 8, 2), 3)), (102, ((167, 18, 0), 3)), (105, ((42, 0, 0), 1)), (106, ((21, 8, 0), 2)), (108, ((182, 227, 0), 3)), (111, ((17, 0, 128), 3)), (114, ((162, 177, 0), 3)), (117, ((2, 0, 0), 1)), (118, ((54, 9, 0), 2)), (120, ((21, 9, 0), 2)), (122, ((42, 0, 0), 1)), (123, ((21, 8, 0), 2)), (125, ((182, 227, 0), 3)), (128, ((163, 161, 0), 3)), (131, ((42, 0, 0), 1)), (132, ((180, 97, 0), 3)), (135, ((21, 6, 0), 2)), (137, ((21, 7, 0), 2)), (139, ((96, 0, 0), 1)), (140, ((42, 0, 0), 1)), (141, ((21, 8, 0), 2)), (143, ((2, 0, 1), 1)), (144, ((96, 0, 0), 1)), (145, ((21, 9, 0), 2)), (147, ((96, 0, 0), 1)), (148, ((182, 227, 0), 3)), (151, ((79, 0, 0), 1)), (152, ((132, 7, 1), 3)), (155, ((132, 9, 1), 3)), (158, ((167, 120, 0), 3)), (161, ((21, 8, 0), 2)), (163, ((42, 0, 0), 1)), (164, ((21, 8, 0), 2)), (166, ((182, 227, 0), 3)), (169, ((2, 0, 2), 1)), (170, ((96, 0, 0), 1)), (171, ((96, 0, 0), 1)), (172, ((54, 8, 0), 2)), (174, ((167, 18, 0), 3)), (177, ((42, 0, 0), 1)), (178, ((21, 8, 0), 2)), (180, ((182, 227, 0), 3)), (183, ((16, 0, 125), 2)), (185, ((100, 0, 0), 1)), (186, ((54, 9, 0), 2)), (188, ((21, 9, 0), 2)), (190, ((158, 231, 0), 3)), (193, ((42, 0, 0), 1)), (194, ((180, 97, 0), 3)), (197, ((21, 6, 0), 2)), (199, ((21, 7, 0), 2)), (201, ((96, 0, 0), 1)), (202, ((42, 0, 0), 1)), (203, ((180, 97, 0), 3)), (206, ((21, 6, 0), 2)), (208, ((21, 7, 0), 2)), (210, ((96, 0, 0), 1)), (211, ((42, 0, 0), 1)), (212, ((21, 8, 0), 2)), (214, ((2, 0, 1), 1)), (215, ((96, 0, 0), 1)), (216, ((182, 227, 0), 3)), (219, ((100, 0, 0), 1)), (220, ((46, 0, 0), 1)), (221, ((79, 0, 0), 1)), (222, ((132, 7, 1), 3)), (225, ((132, 9, (-1)), 3)), (228, ((167, 188, 0), 3)), (231, ((132, 8, 2), 3)), (234, ((167, 18, 0), 3)), (237, ((177, 0, 0), 1))]
set_option maxRecDepth 20000 in
theorem tX9_unpack_ok : xtok cX9_unpack tX9_unpack := by unfold xtok; decide +kernel
abbrev mX9_unpack : xM := (yX9_unpack, cX9_unpack, 10, none, tX9_unpack)
def tX9_layDown : List (Nat × xE) := [(0, ((42, 0, 0), 1)), (1, ((180, 63, 0), 3)), (4, ((26, 1, 0), 1)), (5, ((42, 0, 0), 1)), (6, ((2, 0, 2), 1)), (7, ((182, 227, 0), 3)), (10, ((79, 0, 0), 1)), (11, ((42, 0, 0), 1)), (12, ((180, 66, 0), 3)), (15, ((26, 1, 0), 1)), (16, ((42, 0, 0), 1)), (17, ((2, 0, 3), 1)), (18, ((182, 227, 0), 3)), (21, ((79, 0, 0), 1)), (22, ((42, 0, 0), 1)), (23, ((180, 69, 0), 3)), (26, ((26, 1, 0), 1)), (27, ((42, 0, 0), 1)), (28, ((2, 0, 4), 1)), (29, ((182, 227, 0), 3)), (32, ((2, 0, 2), 1)), (33, ((112, 0, 0), 1)), (34, ((79, 0, 0), 1)), (35, ((42, 0, 0), 1)), (36, ((180, 76, 0), 3)), (39, ((26, 1, 0), 1)), (40, ((42, 0, 0), 1)), (41, ((180, 239, 0), 3)), (44, ((79, 0, 0), 1)), (45, ((16, 0, 6), 2)), (47, ((2, 0, 3), 1)), (48, ((42, 0, 0), 1)), (49, ((180, 239, 0), 3)), (52, ((104, 0, 0), 1)), (53, ((96, 0, 0), 1)), (54, ((59, 2, 0), 1)), (55, ((42, 0, 0), 1)), (56, ((180, 82, 0), 3)), (59, ((26, 1, 0), 1)), (60, ((42, 0, 0), 1)), (61, ((180, 246, 0), 3)), (64, ((79, 0, 0), 1)), (65, ((2, 0, 0), 1)), (66, ((59, 3, 0), 1)), (67, ((26, 3, 0), 1)), (68, ((42, 0, 0), 1)), (69, ((180, 246, 0), 3)), (72, ((162, 100, 0), 3)), (75, ((42, 0, 0), 1)), (76, ((180, 85, 0), 3)), (79, ((2, 0, 4), 1)), (80, ((26, 1, 0), 1)), (81, ((104, 0, 0), 1)), (82, ((26, 3, 0), 1)), (83, ((96, 0, 0), 1)), (84, ((42, 0, 0), 1)), (85, ((26, 2, 0), 1)), (86, ((2, 0, 1), 1)), (87, ((96, 0, 0), 1)), (88, ((26, 3, 0), 1)), (89, ((96, 0, 0), 1)), (90, ((182, 227, 0), 3)), (93, ((79, 0, 0), 1)), (94, ((132, 3, 1), 3)), (97, ((167, 67, 0), 3)), (100, ((42, 0, 0), 1)), (101, ((180, 88, 0), 3)), (104, ((26, 1, 0), 1)), (105, ((42, 0, 0), 1)), (106, ((180, 249, 0), 3)), (109, ((79, 0, 0), 1)), (110, ((42, 0, 0), 1)), (111, ((180, 252, 0), 3)), (114, ((16, 0, 6), 2)), (116, ((42, 0, 0), 1)), (117, ((180, 249, 0), 3)), (120, ((104, 0, 0), 1)), (121, ((96, 0, 0), 1)), (122, ((59, 3, 0), 1)), (123, ((2, 0, 0), 1)), (124, ((54, 4, 0), 2)), (126, ((21, 4, 0), 2)), (128, ((42, 0, 0), 1)), (129, ((180, 249, 0), 3)), (132, ((162, 226, 0), 3)), (135, ((42, 0, 0), 1)), (136, ((180, 252, 0), 3)), (139, ((16, 0, 6), 2)), (141, ((21, 4, 0), 2)), (143, ((104, 0, 0), 1)), (144, ((96, 0, 0), 1)), (145, ((54, 5, 0), 2)), (147, ((42, 0, 0), 1)), (148, ((180, 91, 0), 3)), (151, ((16, 0, 8), 2)), (153, ((26, 1, 0), 1)), (154, ((104, 0, 0), 1)), (155, ((21, 4, 0), 2)), (157, ((96, 0, 0), 1)), (158, ((42, 0, 0), 1)), (159, ((21, 5, 0), 2)), (161, ((182, 227, 0), 3)), (164, ((79, 0, 0), 1)), (165, ((42, 0, 0), 1)), (166, ((180, 94, 0), 3)), (169, ((16, 0, 8), 2)), (171, ((26, 1, 0), 1)), (172, ((104, 0, 0), 1)), (173, ((21, 4, 0), 2)), (175, ((96, 0, 0), 1)), (176, ((42, 0, 0), 1)), (177, ((21, 5, 0), 2)), (179, ((2, 0, 3), 1)), (180, ((96, 0, 0), 1)), (181, ((182, 227, 0), 3)), (184, ((79, 0, 0), 1)), (185, ((42, 0, 0), 1)), (186, ((26, 1, 0), 1)), (187, ((21, 4, 0), 2)), (189, ((42, 0, 0), 1)), (190, ((21, 5, 0), 2)), (192, ((2, 0, 1), 1)), (193, ((96, 0, 0), 1)), (194, ((182, 227, 0), 3)), (197, ((42, 0, 0), 1)), (198, ((21, 5, 0), 2)), (200, ((2, 0, 3), 1)), (201, ((96, 0, 0), 1)), (202, ((182, 227, 0), 3)), (205, ((26, 3, 0), 1)), (206, ((182, 311, 0), 3)), (209, ((26, 3, 0), 1)), (210, ((42, 0, 0), 1)), (211, ((21, 5, 0), 2)), (213, ((2, 0, 5), 1)), (214, ((96, 0, 0), 1)), (215, ((182, 227, 0), 3)), (218, ((96, 0, 0), 1)), (219, ((59, 3, 0), 1)), (220, ((132, 4, 1), 3)), (223, ((167, 126, 0), 3)), (226, ((2, 0, 0), 1)), (227, ((54, 4, 0), 2)), (229, ((21, 4, 0), 2)), (231, ((42, 0, 0), 1)), (232, ((180, 239, 0), 3)), (235, ((162, 318, 0), 3)), (238, ((42, 0, 0), 1)), (239, ((42, 0, 0), 1)), (240, ((16, 0, 6), 2)), (242, ((2, 0, 3), 1)), (243, ((21, 4, 0), 2)), (245, ((104, 0, 0), 1)), (246, ((96, 0, 0), 1)), (247, ((182, 227, 0), 3)), (250, ((42, 0, 0), 1)), (251, ((16, 0, 7), 2)), (253, ((2, 0, 3), 1)), (254, ((21, 4, 0), 2)), (256, ((104, 0, 0), 1)), (257, ((96, 0, 0), 1)), (258, ((182, 227, 0), 3)), (261, ((42, 0, 0), 1)), (262, ((16, 0, 8), 2)), (264, ((2, 0, 3), 1)), (265, ((21, 4, 0), 2)), (267, ((104, 0, 0), 1)), (268, ((96, 0, 0), 1)), (269, ((182, 227, 0), 3)), (272, ((2, 0, 1), 1)), (273, ((160, 280, 0), 3)), (276, ((2, 0, 1), 1)), (277, ((167, 281, 0), 3)), (280, ((2, 0, 0), 1)), (281, ((182, 315, 0), 3)), (284, ((54, 5, 0), 2)), (286, ((21, 5, 0), 2)), (288, ((156, 299, 0), 3)), (291, ((42, 0, 0), 1)), (292, ((21, 4, 0), 2)), (294, ((181, 319, 0), 3)), (297, ((2, 0, 0), 1)), (298, ((172, 0, 0), 1)), (299, ((42, 0, 0), 1)), (300, ((180, 79, 0), 3)), (303, ((2, 0, 4), 1)), (304, ((26, 1, 0), 1)), (305, ((104, 0, 0), 1)), (306, ((21, 4, 0), 2)), (308, ((96, 0, 0), 1)), (309, ((21, 5, 0), 2)), (311, ((79, 0, 0), 1)), (312, ((132, 4, 1), 3)), (315, ((167, 229, 0), 3)), (318, ((2, 0, 1), 1)), (319, ((172, 0, 0), 1))]
set_option maxRecDepth 20000 in
theorem tX9_layDown_ok : xtok cX9_layDown tX9_layDown := by unfold xtok; decide +kernel
abbrev mX9_layDown : xM := (yX9_layDown, cX9_layDown, 6, (some .boolean), tX9_layDown)
def tX9_open : List (Nat × xE) := [(0, ((42, 0, 0), 1)), (1, ((26, 1, 0), 1)), (2, ((182, 211, 0), 3)), (5, ((154, 10, 0), 3)), (8, ((2, 0, (-1)), 1)), (9, ((172, 0, 0), 1)), (10, ((42, 0, 0), 1)), (11, ((180, 300, 0), 3)), (14, ((16, 0, 12), 2)), (16, ((160, 22, 0), 3)), (19, ((16, 0, (-3)), 2)), (21, ((172, 0, 0), 1)), (22, ((42, 0, 0), 1)), (23, ((26, 1, 0), 1)), (24, ((182, 277, 0), 3)), (27, ((59, 3, 0), 1)), (28, ((26, 3, 0), 1)), (29, ((155, 40, 0), 3)), (32, ((42, 0, 0), 1)), (33, ((26, 3, 0), 1)), (34, ((181, 319, 0), 3)), (37, ((16, 0, (-5)), 2)), (39, ((172, 0, 0), 1)), (40, ((26, 2, 0), 1)), (41, ((153, 57, 0), 3)), (44, ((42, 0, 0), 1)), (45, ((26, 1, 0), 1)), (46, ((26, 2, 0), 1)), (47, ((182, 322, 0), 3)), (50, ((2, 0, 1), 1)), (51, ((159, 57, 0), 3)), (54, ((16, 0, (-6)), 2)), (56, ((172, 0, 0), 1)), (57, ((42, 0, 0), 1)), (58, ((42, 0, 0), 1)), (59, ((180, 300, 0), 3)), (62, ((182, 325, 0), 3)), (65, ((154, 71, 0), 3)), (68, ((16, 0, (-7)), 2)), (70, ((172, 0, 0), 1)), (71, ((42, 0, 0), 1)), (72, ((42, 0, 0), 1)), (73, ((180, 300, 0), 3)), (76, ((182, 328, 0), 3)), (79, ((54, 4, 0), 2)), (81, ((21, 4, 0), 2)), (83, ((155, 95, 0), 3)), (86, ((42, 0, 0), 1)), (87, ((21, 4, 0), 2)), (89, ((181, 319, 0), 3)), (92, ((16, 0, (-8)), 2)), (94, ((172, 0, 0), 1)), (95, ((42, 0, 0), 1)), (96, ((180, 72, 0), 3)), (99, ((42, 0, 0), 1)), (100, ((180, 300, 0), 3)), (103, ((2, 0, 0), 1)), (104, ((84, 0, 0), 1)), (105, ((42, 0, 0), 1)), (106, ((180, 100, 0), 3)), (109, ((42, 0, 0), 1)), (110, ((180, 300, 0), 3)), (113, ((2, 0, 0), 1)), (114, ((79, 0, 0), 1)), (115, ((42, 0, 0), 1)), (116, ((89, 0, 0), 1)), (117, ((180, 300, 0), 3)), (120, ((2, 0, 1), 1)), (121, ((96, 0, 0), 1)), (122, ((181, 300, 0), 3)), (125, ((42, 0, 0), 1)), (126, ((180, 300, 0), 3)), (129, ((2, 0, 1), 1)), (130, ((100, 0, 0), 1)), (131, ((172, 0, 0), 1))]
set_option maxRecDepth 20000 in
theorem tX9_open_ok : xtok cX9_open tX9_open := by unfold xtok; decide +kernel
abbrev mX9_open : xM := (yX9_open, cX9_open, 5, (some .int), tX9_open)
def tX9_why : List (Nat × xE) := [(0, ((42, 0, 0), 1)), (1, ((180, 319, 0), 3)), (4, ((172, 0, 0), 1))]
set_option maxRecDepth 20000 in
theorem tX9_why_ok : xtok cX9_why tX9_why := by unfold xtok; decide +kernel
abbrev mX9_why : xM := (yX9_why, cX9_why, 1, (some .int), tX9_why)
def tX9_isEntry : List (Nat × xE) := [(0, ((26, 1, 0), 1)), (1, ((155, 16, 0), 3)), (4, ((26, 1, 0), 1)), (5, ((42, 0, 0), 1)), (6, ((180, 300, 0), 3)), (9, ((162, 16, 0), 3)), (12, ((2, 0, 1), 1)), (13, ((167, 17, 0), 3)), (16, ((2, 0, 0), 1)), (17, ((172, 0, 0), 1))]
set_option maxRecDepth 20000 in
theorem tX9_isEntry_ok : xtok cX9_isEntry tX9_isEntry := by unfold xtok; decide +kernel
abbrev mX9_isEntry : xM := (yX9_isEntry, cX9_isEntry, 2, (some .boolean), tX9_isEntry)
def tX9_entry : List (Nat × xE) := [(0, ((42, 0, 0), 1)), (1, ((26, 1, 0), 1)), (2, ((182, 331, 0), 3)), (5, ((153, 12, 0), 3)), (8, ((26, 2, 0), 1)), (9, ((156, 15, 0), 3)), (12, ((16, 0, (-2)), 2)), (14, ((172, 0, 0), 1)), (15, ((26, 2, 0), 1)), (64, ((42, 0, 0), 1)), (65, ((180, 63, 0), 3)), (68, ((26, 1, 0), 1)), (69, ((46, 0, 0), 1)), (70, ((172, 0, 0), 1)), (71, ((42, 0, 0), 1)), (72, ((180, 66, 0), 3)), (75, ((26, 1, 0), 1)), (76, ((46, 0, 0), 1)), (77, ((172, 0, 0), 1)), (78, ((42, 0, 0), 1)), (79, ((180, 69, 0), 3)), (82, ((26, 1, 0), 1)), (83, ((46, 0, 0), 1)), (84, ((172, 0, 0), 1)), (85, ((42, 0, 0), 1)), (86, ((180, 88, 0), 3)), (89, ((26, 1, 0), 1)), (90, ((46, 0, 0), 1)), (91, ((172, 0, 0), 1)), (92, ((42, 0, 0), 1)), (93, ((180, 76, 0), 3)), (96, ((26, 1, 0), 1)), (97, ((46, 0, 0), 1)), (98, ((172, 0, 0), 1)), (99, ((42, 0, 0), 1)), (100, ((180, 82, 0), 3)), (103, ((26, 1, 0), 1)), (104, ((46, 0, 0), 1)), (105, ((172, 0, 0), 1)), (106, ((42, 0, 0), 1)), (107, ((180, 72, 0), 3)), (110, ((26, 1, 0), 1)), (111, ((51, 0, 0), 1)), (112, ((153, 119, 0), 3)), (115, ((2, 0, 1), 1)), (116, ((167, 120, 0), 3)), (119, ((2, 0, 0), 1)), (120, ((172, 0, 0), 1)), (121, ((42, 0, 0), 1)), (122, ((180, 100, 0), 3)), (125, ((26, 1, 0), 1)), (126, ((46, 0, 0), 1)), (127, ((172, 0, 0), 1)), (128, ((26, 2, 0), 1)), (129, ((16, 0, 8), 2)), (131, ((100, 0, 0), 1)), (132, ((42, 0, 0), 1)), (133, ((180, 76, 0), 3)), (136, ((26, 1, 0), 1)), (137, ((46, 0, 0), 1)), (138, ((162, 157, 0), 3)), (141, ((42, 0, 0), 1)), (142, ((180, 79, 0), 3)), (145, ((2, 0, 4), 1)), (146, ((26, 1, 0), 1)), (147, ((104, 0, 0), 1)), (148, ((26, 2, 0), 1)), (149, ((96, 0, 0), 1)), (150, ((16, 0, 8), 2)), (152, ((100, 0, 0), 1)), (153, ((46, 0, 0), 1)), (154, ((167, 158, 0), 3)), (157, ((2, 0, (-1)), 1)), (158, ((172, 0, 0), 1))]
set_option maxRecDepth 20000 in
theorem tX9_entry_ok : xtok cX9_entry tX9_entry := by unfold xtok; decide +kernel
theorem dX9_entry_16 : decode cX9_entry 16 = .ok (.tableswitch 112 0 7 #[48, 55, 62, 69, 76, 83, 90, 105], 48) := by decide +kernel
abbrev mX9_entry : xM := (yX9_entry, cX9_entry, 3, (some .int), tX9_entry)
def tX9_close : List (Nat × xE) := [(0, ((42, 0, 0), 1)), (1, ((26, 1, 0), 1)), (2, ((182, 331, 0), 3)), (5, ((154, 10, 0), 3)), (8, ((2, 0, (-1)), 1)), (9, ((172, 0, 0), 1)), (10, ((42, 0, 0), 1)), (11, ((180, 72, 0), 3)), (14, ((26, 1, 0), 1)), (15, ((51, 0, 0), 1)), (16, ((153, 22, 0), 3)), (19, ((16, 0, (-2)), 2)), (21, ((172, 0, 0), 1)), (22, ((42, 0, 0), 1)), (23, ((180, 72, 0), 3)), (26, ((26, 1, 0), 1)), (27, ((2, 0, 1), 1)), (28, ((84, 0, 0), 1)), (29, ((2, 0, 1), 1)), (30, ((172, 0, 0), 1))]
set_option maxRecDepth 20000 in
theorem tX9_close_ok : xtok cX9_close tX9_close := by unfold xtok; decide +kernel
abbrev mX9_close : xM := (yX9_close, cX9_close, 2, (some .int), tX9_close)
def tX9_reopen : List (Nat × xE) := [(0, ((42, 0, 0), 1)), (1, ((26, 1, 0), 1)), (2, ((182, 331, 0), 3)), (5, ((154, 10, 0), 3)), (8, ((2, 0, (-1)), 1)), (9, ((172, 0, 0), 1)), (10, ((42, 0, 0), 1)), (11, ((180, 72, 0), 3)), (14, ((26, 1, 0), 1)), (15, ((51, 0, 0), 1)), (16, ((154, 22, 0), 3)), (19, ((16, 0, (-2)), 2)), (21, ((172, 0, 0), 1)), (22, ((42, 0, 0), 1)), (23, ((180, 72, 0), 3)), (26, ((26, 1, 0), 1)), (27, ((2, 0, 0), 1)), (28, ((84, 0, 0), 1)), (29, ((2, 0, 1), 1)), (30, ((172, 0, 0), 1))]
set_option maxRecDepth 20000 in
theorem tX9_reopen_ok : xtok cX9_reopen tX9_reopen := by unfold xtok; decide +kernel
abbrev mX9_reopen : xM := (yX9_reopen, cX9_reopen, 2, (some .int), tX9_reopen)
def tX9_overlay : List (Nat × xE) := [(0, ((42, 0, 0), 1)), (1, ((26, 1, 0), 1)), (2, ((182, 331, 0), 3)), (5, ((153, 16, 0), 3)), (8, ((42, 0, 0), 1)), (9, ((26, 2, 0), 1)), (10, ((182, 331, 0), 3)), (13, ((154, 18, 0), 3)), (16, ((2, 0, (-1)), 1)), (17, ((172, 0, 0), 1)), (18, ((26, 2, 0), 1)), (19, ((26, 1, 0), 1)), (20, ((160, 27, 0), 3)), (23, ((2, 0, 1), 1)), (24, ((167, 28, 0), 3)), (27, ((2, 0, 0), 1)), (28, ((59, 3, 0), 1)), (29, ((2, 0, 0), 1)), (30, ((54, 4, 0), 2)), (32, ((21, 4, 0), 2)), (34, ((42, 0, 0), 1)), (35, ((180, 100, 0), 3)), (38, ((26, 1, 0), 1)), (39, ((46, 0, 0), 1)), (40, ((162, 74, 0), 3)), (43, ((26, 3, 0), 1)), (44, ((154, 62, 0), 3)), (47, ((42, 0, 0), 1)), (48, ((180, 103, 0), 3)), (51, ((2, 0, 4), 1)), (52, ((26, 1, 0), 1)), (53, ((104, 0, 0), 1)), (54, ((21, 4, 0), 2)), (56, ((96, 0, 0), 1)), (57, ((46, 0, 0), 1)), (58, ((26, 2, 0), 1)), (59, ((160, 66, 0), 3)), (62, ((2, 0, 1), 1)), (63, ((167, 67, 0), 3)), (66, ((2, 0, 0), 1)), (67, ((59, 3, 0), 1)), (68, ((132, 4, 1), 3)), (71, ((167, 32, 0), 3)), (74, ((26, 3, 0), 1)), (75, ((153, 81, 0), 3)), (78, ((16, 0, (-4)), 2)), (80, ((172, 0, 0), 1)), (81, ((42, 0, 0), 1)), (82, ((180, 100, 0), 3)), (85, ((26, 1, 0), 1)), (86, ((46, 0, 0), 1)), (87, ((2, 0, 4), 1)), (88, ((160, 94, 0), 3)), (91, ((16, 0, (-3)), 2)), (93, ((172, 0, 0), 1)), (94, ((42, 0, 0), 1)), (95, ((180, 103, 0), 3)), (98, ((2, 0, 4), 1)), (99, ((26, 1, 0), 1)), (100, ((104, 0, 0), 1)), (101, ((42, 0, 0), 1)), (102, ((180, 100, 0), 3)), (105, ((26, 1, 0), 1)), (106, ((46, 0, 0), 1)), (107, ((96, 0, 0), 1)), (108, ((26, 2, 0), 1)), (109, ((79, 0, 0), 1)), (110, ((42, 0, 0), 1)), (111, ((180, 100, 0), 3)), (114, ((26, 1, 0), 1)), (115, ((92, 0, 0), 1)), (116, ((46, 0, 0), 1)), (117, ((2, 0, 1), 1)), (118, ((96, 0, 0), 1)), (119, ((79, 0, 0), 1)), (120, ((42, 0, 0), 1)), (121, ((180, 100, 0), 3)), (124, ((26, 1, 0), 1)), (125, ((46, 0, 0), 1)), (126, ((172, 0, 0), 1))]
set_option maxRecDepth 20000 in
theorem tX9_overlay_ok : xtok cX9_overlay tX9_overlay := by unfold xtok; decide +kernel
abbrev mX9_overlay : xM := (yX9_overlay, cX9_overlay, 5, (some .int), tX9_overlay)
def tX9_rowOf : List (Nat × xE) := [(0, ((2, 0, (-1)), 1)), (1, ((59, 3, 0), 1)), (2, ((2, 0, 0), 1)), (3, ((54, 4, 0), 2)), (5, ((21, 4, 0), 2)), (7, ((42, 0, 0), 1)), (8, ((180, 88, 0), 3)), (11, ((26, 1, 0), 1)), (12, ((46, 0, 0), 1)), (13, ((162, 45, 0), 3)), (16, ((42, 0, 0), 1)), (17, ((180, 91, 0), 3)), (20, ((16, 0, 8), 2)), (22, ((26, 1, 0), 1)), (23, ((104, 0, 0), 1)), (24, ((21, 4, 0), 2)), (26, ((96, 0, 0), 1)), (27, ((46, 0, 0), 1)), (28, ((26, 2, 0), 1)), (29, ((160, 37, 0), 3)), (32, ((21, 4, 0), 2)), (34, ((167, 38, 0), 3)), (37, ((26, 3, 0), 1)), (38, ((59, 3, 0), 1)), (39, ((132, 4, 1), 3)), (42, ((167, 5, 0), 3)), (45, ((26, 3, 0), 1)), (46, ((172, 0, 0), 1))]
set_option maxRecDepth 20000 in
theorem tX9_rowOf_ok : xtok cX9_rowOf tX9_rowOf := by unfold xtok; decide +kernel
abbrev mX9_rowOf : xM := (yX9_rowOf, cX9_rowOf, 5, (some .int), tX9_rowOf)
def tX9_looks : List (Nat × xE) := [(0, ((42, 0, 0), 1)), (1, ((180, 118, 0), 3)), (4, ((42, 0, 0), 1)), (5, ((180, 334, 0), 3)), (8, ((26, 1, 0), 1)), (9, ((79, 0, 0), 1)), (10, ((42, 0, 0), 1)), (11, ((89, 0, 0), 1)), (12, ((180, 334, 0), 3)), (15, ((2, 0, 1), 1)), (16, ((96, 0, 0), 1)), (17, ((181, 334, 0), 3)), (20, ((42, 0, 0), 1)), (21, ((26, 1, 0), 1)), (22, ((26, 2, 0), 1)), (23, ((182, 337, 0), 3)), (26, ((155, 33, 0), 3)), (29, ((2, 0, 1), 1)), (30, ((167, 34, 0), 3)), (33, ((2, 0, 0), 1)), (34, ((172, 0, 0), 1))]
set_option maxRecDepth 20000 in
theorem tX9_looks_ok : xtok cX9_looks tX9_looks := by unfold xtok; decide +kernel
abbrev mX9_looks : xM := (yX9_looks, cX9_looks, 3, (some .boolean), tX9_looks)
end
section
def tX9_ask : List (Nat × xE) := [(0, ((2, 0, 0), 1)), (1, ((59, 3, 0), 1)), (2, ((26, 3, 0), 1)), (3, ((16, 0, 12), 2)), (5, ((162, 21, 0), 3)), (8, ((42, 0, 0), 1)), (9, ((180, 109, 0), 3)), (12, ((26, 3, 0), 1)), (13, ((2, 0, 0), 1)), (14, ((84, 0, 0), 1)), (15, ((132, 3, 1), 3)), (18, ((167, 2, 0), 3)), (21, ((42, 0, 0), 1)), (22, ((2, 0, 0), 1)), (23, ((181, 334, 0), 3)), (26, ((2, 0, 1), 1)), (27, ((59, 3, 0), 1)), (28, ((42, 0, 0), 1)), (29, ((180, 112, 0), 3)), (32, ((2, 0, 0), 1)), (33, ((26, 1, 0), 1)), (34, ((79, 0, 0), 1)), (35, ((42, 0, 0), 1)), (36, ((180, 115, 0), 3)), (39, ((2, 0, 0), 1)), (40, ((2, 0, 0), 1)), (41, ((79, 0, 0), 1)), (42, ((42, 0, 0), 1)), (43, ((180, 109, 0), 3)), (46, ((26, 1, 0), 1)), (47, ((2, 0, 1), 1)), (48, ((84, 0, 0), 1)), (49, ((42, 0, 0), 1)), (50, ((180, 69, 0), 3)), (53, ((26, 1, 0), 1)), (54, ((46, 0, 0), 1)), (55, ((154, 69, 0), 3)), (58, ((42, 0, 0), 1)), (59, ((26, 1, 0), 1)), (60, ((26, 2, 0), 1)), (61, ((182, 340, 0), 3)), (64, ((153, 69, 0), 3)), (67, ((26, 1, 0), 1)), (68, ((172, 0, 0), 1)), (69, ((26, 3, 0), 1)), (70, ((158, 250, 0), 3)), (73, ((42, 0, 0), 1)), (74, ((180, 112, 0), 3)), (77, ((26, 3, 0), 1)), (78, ((2, 0, 1), 1)), (79, ((100, 0, 0), 1)), (80, ((46, 0, 0), 1)), (81, ((54, 4, 0), 2)), (83, ((42, 0, 0), 1)), (84, ((180, 115, 0), 3)), (87, ((26, 3, 0), 1)), (88, ((2, 0, 1), 1)), (89, ((100, 0, 0), 1)), (90, ((46, 0, 0), 1)), (91, ((54, 5, 0), 2)), (93, ((42, 0, 0), 1)), (94, ((180, 115, 0), 3)), (97, ((26, 3, 0), 1)), (98, ((2, 0, 1), 1)), (99, ((100, 0, 0), 1)), (100, ((92, 0, 0), 1)), (101, ((46, 0, 0), 1)), (102, ((2, 0, 1), 1)), (103, ((96, 0, 0), 1)), (104, ((79, 0, 0), 1)), (105, ((21, 5, 0), 2)), (107, ((42, 0, 0), 1)), (108, ((180, 76, 0), 3)), (111, ((21, 4, 0), 2)), (113, ((46, 0, 0), 1)), (114, ((161, 144, 0), 3)), (117, ((132, 3, (-1)), 3)), (120, ((42, 0, 0), 1)), (121, ((180, 69, 0), 3)), (124, ((21, 4, 0), 2)), (126, ((46, 0, 0), 1)), (127, ((2, 0, 1), 1)), (128, ((160, 247, 0), 3)), (131, ((42, 0, 0), 1)), (132, ((21, 4, 0), 2)), (134, ((26, 2, 0), 1)), (135, ((182, 340, 0), 3)), (138, ((153, 247, 0), 3)), (141, ((21, 4, 0), 2)), (143, ((172, 0, 0), 1)), (144, ((42, 0, 0), 1)), (145, ((180, 109, 0), 3)), (148, ((42, 0, 0), 1)), (149, ((180, 79, 0), 3)), (152, ((2, 0, 4), 1)), (153, ((21, 4, 0), 2)), (155, ((104, 0, 0), 1)), (156, ((21, 5, 0), 2)), (158, ((96, 0, 0), 1)), (159, ((46, 0, 0), 1)), (160, ((51, 0, 0), 1)), (161, ((154, 247, 0), 3)), (164, ((42, 0, 0), 1)), (165, ((180, 72, 0), 3)), (168, ((42, 0, 0), 1)), (169, ((180, 79, 0), 3)), (172, ((2, 0, 4), 1)), (173, ((21, 4, 0), 2)), (175, ((104, 0, 0), 1)), (176, ((21, 5, 0), 2)), (178, ((96, 0, 0), 1)), (179, ((46, 0, 0), 1)), (180, ((51, 0, 0), 1)), (181, ((154, 247, 0), 3)), (184, ((42, 0, 0), 1)), (185, ((180, 79, 0), 3)), (188, ((2, 0, 4), 1)), (189, ((21, 4, 0), 2)), (191, ((104, 0, 0), 1)), (192, ((21, 5, 0), 2)), (194, ((96, 0, 0), 1)), (195, ((46, 0, 0), 1)), (196, ((54, 6, 0), 2)), (198, ((42, 0, 0), 1)), (199, ((180, 109, 0), 3)), (202, ((21, 6, 0), 2)), (204, ((2, 0, 1), 1)), (205, ((84, 0, 0), 1)), (206, ((42, 0, 0), 1)), (207, ((180, 112, 0), 3)), (210, ((26, 3, 0), 1)), (211, ((21, 6, 0), 2)), (213, ((79, 0, 0), 1)), (214, ((42, 0, 0), 1)), (215, ((180, 115, 0), 3)), (218, ((26, 3, 0), 1)), (219, ((2, 0, 0), 1)), (220, ((79, 0, 0), 1)), (221, ((132, 3, 1), 3)), (224, ((42, 0, 0), 1)), (225, ((180, 69, 0), 3)), (228, ((21, 6, 0), 2)), (230, ((46, 0, 0), 1)), (231, ((154, 247, 0), 3)), (234, ((42, 0, 0), 1)), (235, ((21, 6, 0), 2)), (237, ((26, 2, 0), 1)), (238, ((182, 340, 0), 3)), (241, ((153, 247, 0), 3)), (244, ((21, 6, 0), 2)), (246, ((172, 0, 0), 1)), (247, ((167, 69, 0), 3)), (250, ((2, 0, (-1)), 1)), (251, ((172, 0, 0), 1))]
set_option maxRecDepth 20000 in
theorem tX9_ask_ok : xtok cX9_ask tX9_ask := by unfold xtok; decide +kernel
abbrev mX9_ask : xM := (yX9_ask, cX9_ask, 7, (some .int), tX9_ask)
def tX9_find : List (Nat × xE) := [(0, ((42, 0, 0), 1)), (1, ((26, 1, 0), 1)), (2, ((182, 331, 0), 3)), (5, ((153, 27, 0), 3)), (8, ((26, 2, 0), 1)), (9, ((17, 0, 255), 3)), (12, ((184, 121, 0), 3)), (15, ((153, 27, 0), 3)), (18, ((42, 0, 0), 1)), (19, ((26, 1, 0), 1)), (20, ((26, 2, 0), 1)), (21, ((182, 343, 0), 3)), (24, ((167, 29, 0), 3)), (27, ((16, 0, (-2)), 2)), (29, ((172, 0, 0), 1))]
set_option maxRecDepth 20000 in
theorem tX9_find_ok : xtok cX9_find tX9_find := by unfold xtok; decide +kernel
abbrev mX9_find : xM := (yX9_find, cX9_find, 3, (some .int), tX9_find)
def tX9_path : List (Nat × xE) := [(0, ((42, 0, 0), 1)), (1, ((26, 1, 0), 1)), (2, ((182, 331, 0), 3)), (5, ((153, 18, 0), 3)), (8, ((26, 2, 0), 1)), (9, ((17, 0, 255), 3)), (12, ((184, 121, 0), 3)), (15, ((154, 20, 0), 3)), (18, ((2, 0, (-1)), 1)), (19, ((172, 0, 0), 1)), (20, ((42, 0, 0), 1)), (21, ((26, 1, 0), 1)), (22, ((26, 2, 0), 1)), (23, ((182, 343, 0), 3)), (26, ((54, 4, 0), 2)), (28, ((26, 3, 0), 1)), (29, ((155, 40, 0), 3)), (32, ((26, 3, 0), 1)), (33, ((42, 0, 0), 1)), (34, ((180, 334, 0), 3)), (37, ((161, 44, 0), 3)), (40, ((2, 0, (-1)), 1)), (41, ((167, 50, 0), 3)), (44, ((42, 0, 0), 1)), (45, ((180, 118, 0), 3)), (48, ((26, 3, 0), 1)), (49, ((46, 0, 0), 1)), (50, ((172, 0, 0), 1))]
set_option maxRecDepth 20000 in
theorem tX9_path_ok : xtok cX9_path tX9_path := by unfold xtok; decide +kernel
abbrev mX9_path : xM := (yX9_path, cX9_path, 5, (some .int), tX9_path)
def tX9_page : List (Nat × xE) := [(0, ((42, 0, 0), 1)), (1, ((26, 1, 0), 1)), (2, ((182, 331, 0), 3)), (5, ((153, 18, 0), 3)), (8, ((26, 2, 0), 1)), (9, ((17, 0, 255), 3)), (12, ((184, 121, 0), 3)), (15, ((154, 21, 0), 3)), (18, ((16, 0, (-2)), 2)), (20, ((172, 0, 0), 1)), (21, ((42, 0, 0), 1)), (22, ((180, 100, 0), 3)), (25, ((26, 1, 0), 1)), (26, ((46, 0, 0), 1)), (27, ((2, 0, 1), 1)), (28, ((100, 0, 0), 1)), (29, ((59, 3, 0), 1)), (30, ((26, 3, 0), 1)), (31, ((155, 69, 0), 3)), (34, ((42, 0, 0), 1)), (35, ((42, 0, 0), 1)), (36, ((180, 103, 0), 3)), (39, ((2, 0, 4), 1)), (40, ((26, 1, 0), 1)), (41, ((104, 0, 0), 1)), (42, ((26, 3, 0), 1)), (43, ((96, 0, 0), 1)), (44, ((46, 0, 0), 1)), (45, ((26, 2, 0), 1)), (46, ((182, 337, 0), 3)), (49, ((155, 63, 0), 3)), (52, ((42, 0, 0), 1)), (53, ((180, 103, 0), 3)), (56, ((2, 0, 4), 1)), (57, ((26, 1, 0), 1)), (58, ((104, 0, 0), 1)), (59, ((26, 3, 0), 1)), (60, ((96, 0, 0), 1)), (61, ((46, 0, 0), 1)), (62, ((172, 0, 0), 1)), (63, ((132, 3, (-1)), 3)), (66, ((167, 30, 0), 3)), (69, ((42, 0, 0), 1)), (70, ((26, 1, 0), 1)), (71, ((26, 2, 0), 1)), (72, ((182, 343, 0), 3)), (75, ((172, 0, 0), 1))]
set_option maxRecDepth 20000 in
theorem tX9_page_ok : xtok cX9_page tX9_page := by unfold xtok; decide +kernel
abbrev mX9_page : xM := (yX9_page, cX9_page, 4, (some .int), tX9_page)
def tX9_read : List (Nat × xE) := [(0, ((42, 0, 0), 1)), (1, ((26, 1, 0), 1)), (2, ((26, 2, 0), 1)), (3, ((182, 346, 0), 3)), (6, ((54, 4, 0), 2)), (8, ((21, 4, 0), 2)), (10, ((156, 15, 0), 3)), (13, ((2, 0, (-1)), 1)), (14, ((172, 0, 0), 1)), (15, ((42, 0, 0), 1)), (16, ((21, 4, 0), 2)), (18, ((26, 2, 0), 1)), (19, ((182, 337, 0), 3)), (22, ((54, 5, 0), 2)), (24, ((26, 3, 0), 1)), (25, ((155, 45, 0), 3)), (28, ((26, 3, 0), 1)), (29, ((42, 0, 0), 1)), (30, ((180, 94, 0), 3)), (33, ((16, 0, 8), 2)), (35, ((21, 4, 0), 2)), (37, ((104, 0, 0), 1)), (38, ((21, 5, 0), 2)), (40, ((96, 0, 0), 1)), (41, ((46, 0, 0), 1)), (42, ((161, 49, 0), 3)), (45, ((2, 0, (-1)), 1)), (46, ((167, 67, 0), 3)), (49, ((42, 0, 0), 1)), (50, ((180, 97, 0), 3)), (53, ((16, 0, 120), 2)), (55, ((16, 0, 8), 2)), (57, ((21, 4, 0), 2)), (59, ((104, 0, 0), 1)), (60, ((21, 5, 0), 2)), (62, ((96, 0, 0), 1)), (63, ((104, 0, 0), 1)), (64, ((26, 3, 0), 1)), (65, ((96, 0, 0), 1)), (66, ((46, 0, 0), 1)), (67, ((172, 0, 0), 1))]
set_option maxRecDepth 20000 in
theorem tX9_read_ok : xtok cX9_read tX9_read := by unfold xtok; decide +kernel
abbrev mX9_read : xM := (yX9_read, cX9_read, 6, (some .int), tX9_read)
def tX9_edition : List (Nat × xE) := [(0, ((2, 0, 0), 1)), (1, ((59, 3, 0), 1)), (2, ((16, 0, 99), 2)), (4, ((54, 4, 0), 2)), (6, ((21, 4, 0), 2)), (8, ((155, 70, 0), 3)), (11, ((42, 0, 0), 1)), (12, ((180, 300, 0), 3)), (15, ((2, 0, 1), 1)), (16, ((100, 0, 0), 1)), (17, ((54, 5, 0), 2)), (19, ((21, 5, 0), 2)), (21, ((155, 64, 0), 3)), (24, ((42, 0, 0), 1)), (25, ((180, 63, 0), 3)), (28, ((21, 5, 0), 2)), (30, ((46, 0, 0), 1)), (31, ((26, 1, 0), 1)), (32, ((160, 58, 0), 3)), (35, ((42, 0, 0), 1)), (36, ((180, 66, 0), 3)), (39, ((21, 5, 0), 2)), (41, ((46, 0, 0), 1)), (42, ((21, 4, 0), 2)), (44, ((160, 58, 0), 3)), (47, ((26, 3, 0), 1)), (48, ((26, 2, 0), 1)), (49, ((160, 55, 0), 3)), (52, ((21, 5, 0), 2)), (54, ((172, 0, 0), 1)), (55, ((132, 3, 1), 3)), (58, ((132, 5, (-1)), 3)), (61, ((167, 19, 0), 3)), (64, ((132, 4, (-1)), 3)), (67, ((167, 6, 0), 3)), (70, ((2, 0, (-1)), 1)), (71, ((172, 0, 0), 1))]
set_option maxRecDepth 20000 in
theorem tX9_edition_ok : xtok cX9_edition tX9_edition := by unfold xtok; decide +kernel
abbrev mX9_edition : xM := (yX9_edition, cX9_edition, 6, (some .int), tX9_edition)
def tX9_needed : List (Nat × xE) := [(0, ((2, 0, 0), 1)), (1, ((59, 3, 0), 1)), (2, ((2, 0, 0), 1)), (3, ((54, 4, 0), 2)), (5, ((21, 4, 0), 2)), (7, ((42, 0, 0), 1)), (8, ((180, 300, 0), 3)), (11, ((162, 96, 0), 3)), (14, ((42, 0, 0), 1)), (15, ((26, 1, 0), 1)), (16, ((182, 331, 0), 3)), (19, ((153, 96, 0), 3)), (22, ((2, 0, 0), 1)), (23, ((54, 5, 0), 2)), (25, ((2, 0, 0), 1)), (26, ((54, 6, 0), 2)), (28, ((21, 6, 0), 2)), (30, ((42, 0, 0), 1)), (31, ((180, 76, 0), 3)), (34, ((21, 4, 0), 2)), (36, ((46, 0, 0), 1)), (37, ((162, 74, 0), 3)), (40, ((21, 5, 0), 2)), (42, ((154, 61, 0), 3)), (45, ((42, 0, 0), 1)), (46, ((180, 79, 0), 3)), (49, ((2, 0, 4), 1)), (50, ((21, 4, 0), 2)), (52, ((104, 0, 0), 1)), (53, ((21, 6, 0), 2)), (55, ((96, 0, 0), 1)), (56, ((46, 0, 0), 1)), (57, ((26, 1, 0), 1)), (58, ((160, 65, 0), 3)), (61, ((2, 0, 1), 1)), (62, ((167, 66, 0), 3)), (65, ((2, 0, 0), 1)), (66, ((54, 5, 0), 2)), (68, ((132, 6, 1), 3)), (71, ((167, 28, 0), 3)), (74, ((21, 5, 0), 2)), (76, ((153, 90, 0), 3)), (79, ((26, 3, 0), 1)), (80, ((26, 2, 0), 1)), (81, ((160, 87, 0), 3)), (84, ((21, 4, 0), 2)), (86, ((172, 0, 0), 1)), (87, ((132, 3, 1), 3)), (90, ((132, 4, 1), 3)), (93, ((167, 5, 0), 3)), (96, ((2, 0, (-1)), 1)), (97, ((172, 0, 0), 1))]
set_option maxRecDepth 20000 in
theorem tX9_needed_ok : xtok cX9_needed tX9_needed := by unfold xtok; decide +kernel
abbrev mX9_needed : xM := (yX9_needed, cX9_needed, 7, (some .int), tX9_needed)
def tJ9_max_7cf53 : List (Nat × xE) := [(0, ((26, 0, 0), 1)), (1, ((26, 1, 0), 1)), (2, ((161, 9, 0), 3)), (5, ((26, 0, 0), 1)), (6, ((167, 10, 0), 3)), (9, ((26, 1, 0), 1)), (10, ((172, 0, 0), 1))]
set_option maxRecDepth 20000 in
theorem tJ9_max_7cf53_ok : xtok cJ9_max_7cf53 tJ9_max_7cf53 := by unfold xtok; decide +kernel
abbrev mJ9_max_7cf53 : xM := (yJ9_max_7cf53, cJ9_max_7cf53, 2, (some .int), tJ9_max_7cf53)
def tJ9_min_7cf53 : List (Nat × xE) := [(0, ((26, 0, 0), 1)), (1, ((26, 1, 0), 1)), (2, ((163, 9, 0), 3)), (5, ((26, 0, 0), 1)), (6, ((167, 10, 0), 3)), (9, ((26, 1, 0), 1)), (10, ((172, 0, 0), 1))]
set_option maxRecDepth 20000 in
theorem tJ9_min_7cf53_ok : xtok cJ9_min_7cf53 tJ9_min_7cf53 := by unfold xtok; decide +kernel
abbrev mJ9_min_7cf53 : xM := (yJ9_min_7cf53, cJ9_min_7cf53, 2, (some .int), tJ9_min_7cf53)
end
section
def tL_law_0 : List (Nat × xE) := [(0, ((187, 7, 0), 3)), (3, ((89, 0, 0), 1)), (4, ((183, 9, 0), 3)), (7, ((75, 1, 0), 1)), (8, ((187, 10, 0), 3)), (11, ((89, 0, 0), 1)), (12, ((183, 12, 0), 3)), (15, ((75, 2, 0), 1)), (16, ((2, 0, 0), 1)), (17, ((59, 3, 0), 1)), (18, ((26, 3, 0), 1)), (19, ((42, 0, 0), 1)), (20, ((190, 0, 0), 1)), (21, ((16, 0, 6), 2)), (23, ((100, 0, 0), 1)), (24, ((163, 1224, 0), 3)), (27, ((42, 0, 0), 1)), (28, ((26, 3, 0), 1)), (29, ((46, 0, 0), 1)), (30, ((16, 0, 31), 2)), (32, ((126, 0, 0), 1)), (176, ((42, 1, 0), 1)), (177, ((42, 0, 0), 1)), (178, ((26, 3, 0), 1)), (179, ((2, 0, 1), 1)), (180, ((96, 0, 0), 1)), (181, ((46, 0, 0), 1)), (182, ((42, 0, 0), 1)), (183, ((26, 3, 0), 1)), (184, ((2, 0, 2), 1)), (185, ((96, 0, 0), 1)), (186, ((46, 0, 0), 1)), (187, ((42, 0, 0), 1)), (188, ((26, 3, 0), 1)), (189, ((2, 0, 3), 1)), (190, ((96, 0, 0), 1))]
set_option maxRecDepth 20000 in
theorem tL_law_0_ok : xtok cL_law tL_law_0 := by unfold xtok; decide +kernel
def tL_law_1 : List (Nat × xE) := [(191, ((46, 0, 0), 1)), (192, ((182, 13, 0), 3)), (195, ((42, 2, 0), 1)), (196, ((42, 0, 0), 1)), (197, ((26, 3, 0), 1)), (198, ((2, 0, 1), 1)), (199, ((96, 0, 0), 1)), (200, ((46, 0, 0), 1)), (201, ((42, 0, 0), 1)), (202, ((26, 3, 0), 1)), (203, ((2, 0, 2), 1)), (204, ((96, 0, 0), 1)), (205, ((46, 0, 0), 1)), (206, ((42, 0, 0), 1)), (207, ((26, 3, 0), 1)), (208, ((2, 0, 3), 1)), (209, ((96, 0, 0), 1)), (210, ((46, 0, 0), 1)), (211, ((182, 17, 0), 3)), (214, ((159, 1218, 0), 3)), (217, ((2, 0, 0), 1)), (218, ((172, 0, 0), 1)), (219, ((42, 1, 0), 1)), (220, ((42, 0, 0), 1)), (221, ((26, 3, 0), 1)), (222, ((2, 0, 1), 1)), (223, ((96, 0, 0), 1)), (224, ((46, 0, 0), 1)), (225, ((42, 0, 0), 1)), (226, ((26, 3, 0), 1)), (227, ((2, 0, 2), 1)), (228, ((96, 0, 0), 1)), (229, ((46, 0, 0), 1)), (230, ((42, 0, 0), 1)), (231, ((26, 3, 0), 1)), (232, ((2, 0, 3), 1))]
set_option maxRecDepth 20000 in
theorem tL_law_1_ok : xtok cL_law tL_law_1 := by unfold xtok; decide +kernel
def tL_law_2 : List (Nat × xE) := [(233, ((96, 0, 0), 1)), (234, ((46, 0, 0), 1)), (235, ((153, 242, 0), 3)), (238, ((2, 0, 1), 1)), (239, ((167, 243, 0), 3)), (242, ((2, 0, 0), 1)), (243, ((182, 18, 0), 3)), (246, ((42, 2, 0), 1)), (247, ((42, 0, 0), 1)), (248, ((26, 3, 0), 1)), (249, ((2, 0, 1), 1)), (250, ((96, 0, 0), 1)), (251, ((46, 0, 0), 1)), (252, ((42, 0, 0), 1)), (253, ((26, 3, 0), 1)), (254, ((2, 0, 2), 1)), (255, ((96, 0, 0), 1)), (256, ((46, 0, 0), 1)), (257, ((42, 0, 0), 1)), (258, ((26, 3, 0), 1)), (259, ((2, 0, 3), 1)), (260, ((96, 0, 0), 1)), (261, ((46, 0, 0), 1)), (262, ((153, 269, 0), 3)), (265, ((2, 0, 1), 1)), (266, ((167, 270, 0), 3)), (269, ((2, 0, 0), 1)), (270, ((182, 22, 0), 3)), (273, ((159, 1218, 0), 3)), (276, ((2, 0, 0), 1)), (277, ((172, 0, 0), 1)), (278, ((42, 1, 0), 1)), (279, ((42, 0, 0), 1)), (280, ((26, 3, 0), 1)), (281, ((2, 0, 1), 1)), (282, ((96, 0, 0), 1))]
set_option maxRecDepth 20000 in
theorem tL_law_2_ok : xtok cL_law tL_law_2 := by unfold xtok; decide +kernel
def tL_law_3 : List (Nat × xE) := [(283, ((46, 0, 0), 1)), (284, ((182, 23, 0), 3)), (287, ((42, 2, 0), 1)), (288, ((42, 0, 0), 1)), (289, ((26, 3, 0), 1)), (290, ((2, 0, 1), 1)), (291, ((96, 0, 0), 1)), (292, ((46, 0, 0), 1)), (293, ((182, 27, 0), 3)), (296, ((159, 1218, 0), 3)), (299, ((2, 0, 0), 1)), (300, ((172, 0, 0), 1)), (301, ((42, 1, 0), 1)), (302, ((42, 0, 0), 1)), (303, ((26, 3, 0), 1)), (304, ((2, 0, 1), 1)), (305, ((96, 0, 0), 1)), (306, ((46, 0, 0), 1)), (307, ((42, 0, 0), 1)), (308, ((26, 3, 0), 1)), (309, ((2, 0, 2), 1)), (310, ((96, 0, 0), 1)), (311, ((46, 0, 0), 1)), (312, ((182, 28, 0), 3)), (315, ((42, 2, 0), 1)), (316, ((42, 0, 0), 1)), (317, ((26, 3, 0), 1)), (318, ((2, 0, 1), 1)), (319, ((96, 0, 0), 1)), (320, ((46, 0, 0), 1)), (321, ((42, 0, 0), 1)), (322, ((26, 3, 0), 1)), (323, ((2, 0, 2), 1)), (324, ((96, 0, 0), 1)), (325, ((46, 0, 0), 1)), (326, ((182, 32, 0), 3))]
set_option maxRecDepth 20000 in
theorem tL_law_3_ok : xtok cL_law tL_law_3 := by unfold xtok; decide +kernel
def tL_law_4 : List (Nat × xE) := [(329, ((159, 1218, 0), 3)), (332, ((2, 0, 0), 1)), (333, ((172, 0, 0), 1)), (334, ((42, 1, 0), 1)), (335, ((42, 0, 0), 1)), (336, ((26, 3, 0), 1)), (337, ((2, 0, 1), 1)), (338, ((96, 0, 0), 1)), (339, ((46, 0, 0), 1)), (340, ((42, 0, 0), 1)), (341, ((26, 3, 0), 1)), (342, ((2, 0, 2), 1)), (343, ((96, 0, 0), 1)), (344, ((46, 0, 0), 1)), (345, ((42, 0, 0), 1)), (346, ((26, 3, 0), 1)), (347, ((2, 0, 3), 1)), (348, ((96, 0, 0), 1)), (349, ((46, 0, 0), 1)), (350, ((42, 0, 0), 1)), (351, ((26, 3, 0), 1)), (352, ((2, 0, 4), 1)), (353, ((96, 0, 0), 1)), (354, ((46, 0, 0), 1)), (355, ((42, 0, 0), 1)), (356, ((26, 3, 0), 1)), (357, ((2, 0, 5), 1)), (358, ((96, 0, 0), 1)), (359, ((46, 0, 0), 1)), (360, ((182, 33, 0), 3)), (363, ((42, 2, 0), 1)), (364, ((42, 0, 0), 1)), (365, ((26, 3, 0), 1)), (366, ((2, 0, 1), 1)), (367, ((96, 0, 0), 1)), (368, ((46, 0, 0), 1))]
set_option maxRecDepth 20000 in
theorem tL_law_4_ok : xtok cL_law tL_law_4 := by unfold xtok; decide +kernel
def tL_law_5 : List (Nat × xE) := [(369, ((42, 0, 0), 1)), (370, ((26, 3, 0), 1)), (371, ((2, 0, 2), 1)), (372, ((96, 0, 0), 1)), (373, ((46, 0, 0), 1)), (374, ((42, 0, 0), 1)), (375, ((26, 3, 0), 1)), (376, ((2, 0, 3), 1)), (377, ((96, 0, 0), 1)), (378, ((46, 0, 0), 1)), (379, ((42, 0, 0), 1)), (380, ((26, 3, 0), 1)), (381, ((2, 0, 4), 1)), (382, ((96, 0, 0), 1)), (383, ((46, 0, 0), 1)), (384, ((42, 0, 0), 1)), (385, ((26, 3, 0), 1)), (386, ((2, 0, 5), 1)), (387, ((96, 0, 0), 1)), (388, ((46, 0, 0), 1)), (389, ((182, 37, 0), 3)), (392, ((159, 1218, 0), 3)), (395, ((2, 0, 0), 1)), (396, ((172, 0, 0), 1)), (397, ((42, 1, 0), 1)), (398, ((42, 0, 0), 1)), (399, ((26, 3, 0), 1)), (400, ((2, 0, 1), 1)), (401, ((96, 0, 0), 1)), (402, ((46, 0, 0), 1)), (403, ((42, 0, 0), 1)), (404, ((26, 3, 0), 1)), (405, ((2, 0, 2), 1)), (406, ((96, 0, 0), 1)), (407, ((46, 0, 0), 1)), (408, ((182, 38, 0), 3))]
set_option maxRecDepth 20000 in
theorem tL_law_5_ok : xtok cL_law tL_law_5 := by unfold xtok; decide +kernel
def tL_law_6 : List (Nat × xE) := [(411, ((42, 2, 0), 1)), (412, ((42, 0, 0), 1)), (413, ((26, 3, 0), 1)), (414, ((2, 0, 1), 1)), (415, ((96, 0, 0), 1)), (416, ((46, 0, 0), 1)), (417, ((42, 0, 0), 1)), (418, ((26, 3, 0), 1)), (419, ((2, 0, 2), 1)), (420, ((96, 0, 0), 1)), (421, ((46, 0, 0), 1)), (422, ((182, 41, 0), 3)), (425, ((159, 1218, 0), 3)), (428, ((2, 0, 0), 1)), (429, ((172, 0, 0), 1)), (430, ((42, 1, 0), 1)), (431, ((42, 0, 0), 1)), (432, ((26, 3, 0), 1)), (433, ((2, 0, 1), 1)), (434, ((96, 0, 0), 1)), (435, ((46, 0, 0), 1)), (436, ((182, 42, 0), 3)), (439, ((42, 2, 0), 1)), (440, ((42, 0, 0), 1)), (441, ((26, 3, 0), 1)), (442, ((2, 0, 1), 1)), (443, ((96, 0, 0), 1)), (444, ((46, 0, 0), 1)), (445, ((182, 45, 0), 3)), (448, ((159, 1218, 0), 3)), (451, ((2, 0, 0), 1)), (452, ((172, 0, 0), 1)), (453, ((42, 1, 0), 1)), (454, ((42, 0, 0), 1)), (455, ((26, 3, 0), 1)), (456, ((2, 0, 1), 1))]
set_option maxRecDepth 20000 in
theorem tL_law_6_ok : xtok cL_law tL_law_6 := by unfold xtok; decide +kernel
def tL_law_7 : List (Nat × xE) := [(457, ((96, 0, 0), 1)), (458, ((46, 0, 0), 1)), (459, ((182, 46, 0), 3)), (462, ((42, 2, 0), 1)), (463, ((42, 0, 0), 1)), (464, ((26, 3, 0), 1)), (465, ((2, 0, 1), 1)), (466, ((96, 0, 0), 1)), (467, ((46, 0, 0), 1)), (468, ((182, 49, 0), 3)), (471, ((159, 1218, 0), 3)), (474, ((2, 0, 0), 1)), (475, ((172, 0, 0), 1)), (476, ((42, 1, 0), 1)), (477, ((42, 0, 0), 1)), (478, ((26, 3, 0), 1)), (479, ((2, 0, 1), 1)), (480, ((96, 0, 0), 1)), (481, ((46, 0, 0), 1)), (482, ((42, 0, 0), 1)), (483, ((26, 3, 0), 1)), (484, ((2, 0, 2), 1)), (485, ((96, 0, 0), 1)), (486, ((46, 0, 0), 1)), (487, ((182, 50, 0), 3)), (490, ((42, 2, 0), 1)), (491, ((42, 0, 0), 1)), (492, ((26, 3, 0), 1)), (493, ((2, 0, 1), 1)), (494, ((96, 0, 0), 1)), (495, ((46, 0, 0), 1)), (496, ((42, 0, 0), 1)), (497, ((26, 3, 0), 1)), (498, ((2, 0, 2), 1)), (499, ((96, 0, 0), 1)), (500, ((46, 0, 0), 1))]
set_option maxRecDepth 20000 in
theorem tL_law_7_ok : xtok cL_law tL_law_7 := by unfold xtok; decide +kernel
def tL_law_8 : List (Nat × xE) := [(501, ((182, 53, 0), 3)), (504, ((159, 1218, 0), 3)), (507, ((2, 0, 0), 1)), (508, ((172, 0, 0), 1)), (509, ((42, 1, 0), 1)), (510, ((42, 0, 0), 1)), (511, ((26, 3, 0), 1)), (512, ((2, 0, 1), 1)), (513, ((96, 0, 0), 1)), (514, ((46, 0, 0), 1)), (515, ((42, 0, 0), 1)), (516, ((26, 3, 0), 1)), (517, ((2, 0, 2), 1)), (518, ((96, 0, 0), 1)), (519, ((46, 0, 0), 1)), (520, ((42, 0, 0), 1)), (521, ((26, 3, 0), 1)), (522, ((2, 0, 3), 1)), (523, ((96, 0, 0), 1)), (524, ((46, 0, 0), 1)), (525, ((182, 54, 0), 3)), (528, ((42, 2, 0), 1)), (529, ((42, 0, 0), 1)), (530, ((26, 3, 0), 1)), (531, ((2, 0, 1), 1)), (532, ((96, 0, 0), 1)), (533, ((46, 0, 0), 1)), (534, ((42, 0, 0), 1)), (535, ((26, 3, 0), 1)), (536, ((2, 0, 2), 1)), (537, ((96, 0, 0), 1)), (538, ((46, 0, 0), 1)), (539, ((42, 0, 0), 1)), (540, ((26, 3, 0), 1)), (541, ((2, 0, 3), 1)), (542, ((96, 0, 0), 1))]
set_option maxRecDepth 20000 in
theorem tL_law_8_ok : xtok cL_law tL_law_8 := by unfold xtok; decide +kernel
end
section
def tL_law_9 : List (Nat × xE) := [(543, ((46, 0, 0), 1)), (544, ((182, 57, 0), 3)), (547, ((159, 1218, 0), 3)), (550, ((2, 0, 0), 1)), (551, ((172, 0, 0), 1)), (552, ((42, 1, 0), 1)), (553, ((42, 0, 0), 1)), (554, ((26, 3, 0), 1)), (555, ((2, 0, 1), 1)), (556, ((96, 0, 0), 1)), (557, ((46, 0, 0), 1)), (558, ((42, 0, 0), 1)), (559, ((26, 3, 0), 1)), (560, ((2, 0, 2), 1)), (561, ((96, 0, 0), 1)), (562, ((46, 0, 0), 1)), (563, ((182, 58, 0), 3)), (566, ((42, 2, 0), 1)), (567, ((42, 0, 0), 1)), (568, ((26, 3, 0), 1)), (569, ((2, 0, 1), 1)), (570, ((96, 0, 0), 1)), (571, ((46, 0, 0), 1)), (572, ((42, 0, 0), 1)), (573, ((26, 3, 0), 1)), (574, ((2, 0, 2), 1)), (575, ((96, 0, 0), 1)), (576, ((46, 0, 0), 1)), (577, ((182, 61, 0), 3)), (580, ((159, 1218, 0), 3)), (583, ((2, 0, 0), 1)), (584, ((172, 0, 0), 1)), (585, ((42, 1, 0), 1)), (586, ((42, 0, 0), 1)), (587, ((26, 3, 0), 1)), (588, ((2, 0, 1), 1))]
set_option maxRecDepth 20000 in
theorem tL_law_9_ok : xtok cL_law tL_law_9 := by unfold xtok; decide +kernel
def tL_law_10 : List (Nat × xE) := [(589, ((96, 0, 0), 1)), (590, ((46, 0, 0), 1)), (591, ((182, 62, 0), 3)), (594, ((42, 2, 0), 1)), (595, ((42, 0, 0), 1)), (596, ((26, 3, 0), 1)), (597, ((2, 0, 1), 1)), (598, ((96, 0, 0), 1)), (599, ((46, 0, 0), 1)), (600, ((182, 65, 0), 3)), (603, ((159, 1218, 0), 3)), (606, ((2, 0, 0), 1)), (607, ((172, 0, 0), 1)), (608, ((42, 1, 0), 1)), (609, ((42, 0, 0), 1)), (610, ((26, 3, 0), 1)), (611, ((2, 0, 1), 1)), (612, ((96, 0, 0), 1)), (613, ((46, 0, 0), 1)), (614, ((42, 0, 0), 1)), (615, ((26, 3, 0), 1)), (616, ((2, 0, 2), 1)), (617, ((96, 0, 0), 1)), (618, ((46, 0, 0), 1)), (619, ((182, 66, 0), 3)), (622, ((42, 2, 0), 1)), (623, ((42, 0, 0), 1)), (624, ((26, 3, 0), 1)), (625, ((2, 0, 1), 1)), (626, ((96, 0, 0), 1)), (627, ((46, 0, 0), 1)), (628, ((42, 0, 0), 1)), (629, ((26, 3, 0), 1)), (630, ((2, 0, 2), 1)), (631, ((96, 0, 0), 1)), (632, ((46, 0, 0), 1))]
set_option maxRecDepth 20000 in
theorem tL_law_10_ok : xtok cL_law tL_law_10 := by unfold xtok; decide +kernel
def tL_law_11 : List (Nat × xE) := [(633, ((182, 69, 0), 3)), (636, ((159, 1218, 0), 3)), (639, ((2, 0, 0), 1)), (640, ((172, 0, 0), 1)), (641, ((42, 1, 0), 1)), (642, ((42, 0, 0), 1)), (643, ((26, 3, 0), 1)), (644, ((2, 0, 1), 1)), (645, ((96, 0, 0), 1)), (646, ((46, 0, 0), 1)), (647, ((42, 0, 0), 1)), (648, ((26, 3, 0), 1)), (649, ((2, 0, 2), 1)), (650, ((96, 0, 0), 1)), (651, ((46, 0, 0), 1)), (652, ((182, 70, 0), 3)), (655, ((42, 2, 0), 1)), (656, ((42, 0, 0), 1)), (657, ((26, 3, 0), 1)), (658, ((2, 0, 1), 1)), (659, ((96, 0, 0), 1)), (660, ((46, 0, 0), 1)), (661, ((42, 0, 0), 1)), (662, ((26, 3, 0), 1)), (663, ((2, 0, 2), 1)), (664, ((96, 0, 0), 1)), (665, ((46, 0, 0), 1)), (666, ((182, 73, 0), 3)), (669, ((159, 1218, 0), 3)), (672, ((2, 0, 0), 1)), (673, ((172, 0, 0), 1)), (674, ((42, 1, 0), 1)), (675, ((42, 0, 0), 1)), (676, ((26, 3, 0), 1)), (677, ((2, 0, 1), 1)), (678, ((96, 0, 0), 1))]
set_option maxRecDepth 20000 in
theorem tL_law_11_ok : xtok cL_law tL_law_11 := by unfold xtok; decide +kernel
def tL_law_12 : List (Nat × xE) := [(679, ((46, 0, 0), 1)), (680, ((42, 0, 0), 1)), (681, ((26, 3, 0), 1)), (682, ((2, 0, 2), 1)), (683, ((96, 0, 0), 1)), (684, ((46, 0, 0), 1)), (685, ((42, 0, 0), 1)), (686, ((26, 3, 0), 1)), (687, ((2, 0, 3), 1)), (688, ((96, 0, 0), 1)), (689, ((46, 0, 0), 1)), (690, ((182, 74, 0), 3)), (693, ((42, 2, 0), 1)), (694, ((42, 0, 0), 1)), (695, ((26, 3, 0), 1)), (696, ((2, 0, 1), 1)), (697, ((96, 0, 0), 1)), (698, ((46, 0, 0), 1)), (699, ((42, 0, 0), 1)), (700, ((26, 3, 0), 1)), (701, ((2, 0, 2), 1)), (702, ((96, 0, 0), 1)), (703, ((46, 0, 0), 1)), (704, ((42, 0, 0), 1)), (705, ((26, 3, 0), 1)), (706, ((2, 0, 3), 1)), (707, ((96, 0, 0), 1)), (708, ((46, 0, 0), 1)), (709, ((182, 77, 0), 3)), (712, ((159, 1218, 0), 3)), (715, ((2, 0, 0), 1)), (716, ((172, 0, 0), 1)), (717, ((42, 1, 0), 1)), (718, ((42, 0, 0), 1)), (719, ((26, 3, 0), 1)), (720, ((2, 0, 1), 1))]
set_option maxRecDepth 20000 in
theorem tL_law_12_ok : xtok cL_law tL_law_12 := by unfold xtok; decide +kernel
def tL_law_13 : List (Nat × xE) := [(721, ((96, 0, 0), 1)), (722, ((46, 0, 0), 1)), (723, ((182, 78, 0), 3)), (726, ((42, 2, 0), 1)), (727, ((42, 0, 0), 1)), (728, ((26, 3, 0), 1)), (729, ((2, 0, 1), 1)), (730, ((96, 0, 0), 1)), (731, ((46, 0, 0), 1)), (732, ((182, 81, 0), 3)), (735, ((159, 1218, 0), 3)), (738, ((2, 0, 0), 1)), (739, ((172, 0, 0), 1)), (740, ((42, 1, 0), 1)), (741, ((42, 0, 0), 1)), (742, ((26, 3, 0), 1)), (743, ((2, 0, 1), 1)), (744, ((96, 0, 0), 1)), (745, ((46, 0, 0), 1)), (746, ((42, 0, 0), 1)), (747, ((26, 3, 0), 1)), (748, ((2, 0, 2), 1)), (749, ((96, 0, 0), 1)), (750, ((46, 0, 0), 1)), (751, ((182, 82, 0), 3)), (754, ((42, 2, 0), 1)), (755, ((42, 0, 0), 1)), (756, ((26, 3, 0), 1)), (757, ((2, 0, 1), 1)), (758, ((96, 0, 0), 1)), (759, ((46, 0, 0), 1)), (760, ((42, 0, 0), 1)), (761, ((26, 3, 0), 1)), (762, ((2, 0, 2), 1)), (763, ((96, 0, 0), 1)), (764, ((46, 0, 0), 1))]
set_option maxRecDepth 20000 in
theorem tL_law_13_ok : xtok cL_law tL_law_13 := by unfold xtok; decide +kernel
def tL_law_14 : List (Nat × xE) := [(765, ((182, 85, 0), 3)), (768, ((159, 1218, 0), 3)), (771, ((2, 0, 0), 1)), (772, ((172, 0, 0), 1)), (773, ((42, 1, 0), 1)), (774, ((182, 86, 0), 3)), (777, ((42, 2, 0), 1)), (778, ((182, 90, 0), 3)), (781, ((159, 1218, 0), 3)), (784, ((2, 0, 0), 1)), (785, ((172, 0, 0), 1)), (786, ((42, 1, 0), 1)), (787, ((42, 0, 0), 1)), (788, ((26, 3, 0), 1)), (789, ((2, 0, 1), 1)), (790, ((96, 0, 0), 1)), (791, ((46, 0, 0), 1)), (792, ((42, 0, 0), 1)), (793, ((26, 3, 0), 1)), (794, ((2, 0, 2), 1)), (795, ((96, 0, 0), 1)), (796, ((46, 0, 0), 1)), (797, ((182, 91, 0), 3)), (800, ((42, 2, 0), 1)), (801, ((42, 0, 0), 1)), (802, ((26, 3, 0), 1)), (803, ((2, 0, 1), 1)), (804, ((96, 0, 0), 1)), (805, ((46, 0, 0), 1)), (806, ((42, 0, 0), 1)), (807, ((26, 3, 0), 1)), (808, ((2, 0, 2), 1)), (809, ((96, 0, 0), 1)), (810, ((46, 0, 0), 1)), (811, ((182, 94, 0), 3)), (814, ((159, 1218, 0), 3))]
set_option maxRecDepth 20000 in
theorem tL_law_14_ok : xtok cL_law tL_law_14 := by unfold xtok; decide +kernel
def tL_law_15 : List (Nat × xE) := [(817, ((2, 0, 0), 1)), (818, ((172, 0, 0), 1)), (819, ((42, 1, 0), 1)), (820, ((42, 0, 0), 1)), (821, ((26, 3, 0), 1)), (822, ((2, 0, 1), 1)), (823, ((96, 0, 0), 1)), (824, ((46, 0, 0), 1)), (825, ((182, 95, 0), 3)), (828, ((42, 2, 0), 1)), (829, ((42, 0, 0), 1)), (830, ((26, 3, 0), 1)), (831, ((2, 0, 1), 1)), (832, ((96, 0, 0), 1)), (833, ((46, 0, 0), 1)), (834, ((182, 98, 0), 3)), (837, ((159, 1218, 0), 3)), (840, ((2, 0, 0), 1)), (841, ((172, 0, 0), 1)), (842, ((42, 1, 0), 1)), (843, ((42, 0, 0), 1)), (844, ((26, 3, 0), 1)), (845, ((2, 0, 1), 1)), (846, ((96, 0, 0), 1)), (847, ((46, 0, 0), 1)), (848, ((42, 0, 0), 1)), (849, ((26, 3, 0), 1)), (850, ((2, 0, 2), 1)), (851, ((96, 0, 0), 1)), (852, ((46, 0, 0), 1)), (853, ((182, 99, 0), 3)), (856, ((42, 2, 0), 1)), (857, ((42, 0, 0), 1)), (858, ((26, 3, 0), 1)), (859, ((2, 0, 1), 1)), (860, ((96, 0, 0), 1))]
set_option maxRecDepth 20000 in
theorem tL_law_15_ok : xtok cL_law tL_law_15 := by unfold xtok; decide +kernel
def tL_law_16 : List (Nat × xE) := [(861, ((46, 0, 0), 1)), (862, ((42, 0, 0), 1)), (863, ((26, 3, 0), 1)), (864, ((2, 0, 2), 1)), (865, ((96, 0, 0), 1)), (866, ((46, 0, 0), 1)), (867, ((182, 102, 0), 3)), (870, ((159, 1218, 0), 3)), (873, ((2, 0, 0), 1)), (874, ((172, 0, 0), 1)), (875, ((42, 1, 0), 1)), (876, ((182, 103, 0), 3)), (879, ((42, 2, 0), 1)), (880, ((182, 106, 0), 3)), (883, ((159, 1218, 0), 3)), (886, ((2, 0, 0), 1)), (887, ((172, 0, 0), 1)), (888, ((42, 1, 0), 1)), (889, ((42, 0, 0), 1)), (890, ((26, 3, 0), 1)), (891, ((2, 0, 1), 1)), (892, ((96, 0, 0), 1)), (893, ((46, 0, 0), 1)), (894, ((42, 0, 0), 1)), (895, ((26, 3, 0), 1)), (896, ((2, 0, 2), 1)), (897, ((96, 0, 0), 1)), (898, ((46, 0, 0), 1)), (899, ((182, 107, 0), 3)), (902, ((42, 2, 0), 1)), (903, ((42, 0, 0), 1)), (904, ((26, 3, 0), 1)), (905, ((2, 0, 1), 1)), (906, ((96, 0, 0), 1)), (907, ((46, 0, 0), 1)), (908, ((42, 0, 0), 1))]
set_option maxRecDepth 20000 in
theorem tL_law_16_ok : xtok cL_law tL_law_16 := by unfold xtok; decide +kernel
def tL_law_17 : List (Nat × xE) := [(909, ((26, 3, 0), 1)), (910, ((2, 0, 2), 1)), (911, ((96, 0, 0), 1)), (912, ((46, 0, 0), 1)), (913, ((182, 110, 0), 3)), (916, ((159, 1218, 0), 3)), (919, ((2, 0, 0), 1)), (920, ((172, 0, 0), 1)), (921, ((42, 1, 0), 1)), (922, ((42, 0, 0), 1)), (923, ((26, 3, 0), 1)), (924, ((2, 0, 1), 1)), (925, ((96, 0, 0), 1)), (926, ((46, 0, 0), 1)), (927, ((182, 111, 0), 3)), (930, ((42, 2, 0), 1)), (931, ((42, 0, 0), 1)), (932, ((26, 3, 0), 1)), (933, ((2, 0, 1), 1)), (934, ((96, 0, 0), 1)), (935, ((46, 0, 0), 1)), (936, ((182, 114, 0), 3)), (939, ((159, 1218, 0), 3)), (942, ((2, 0, 0), 1)), (943, ((172, 0, 0), 1)), (944, ((42, 1, 0), 1)), (945, ((42, 0, 0), 1)), (946, ((26, 3, 0), 1)), (947, ((2, 0, 1), 1)), (948, ((96, 0, 0), 1)), (949, ((46, 0, 0), 1)), (950, ((182, 115, 0), 3)), (953, ((42, 2, 0), 1)), (954, ((42, 0, 0), 1)), (955, ((26, 3, 0), 1)), (956, ((2, 0, 1), 1))]
set_option maxRecDepth 20000 in
theorem tL_law_17_ok : xtok cL_law tL_law_17 := by unfold xtok; decide +kernel
end
section
def tL_law_18 : List (Nat × xE) := [(957, ((96, 0, 0), 1)), (958, ((46, 0, 0), 1)), (959, ((182, 118, 0), 3)), (962, ((159, 1218, 0), 3)), (965, ((2, 0, 0), 1)), (966, ((172, 0, 0), 1)), (967, ((42, 1, 0), 1)), (968, ((42, 0, 0), 1)), (969, ((26, 3, 0), 1)), (970, ((2, 0, 1), 1)), (971, ((96, 0, 0), 1)), (972, ((46, 0, 0), 1)), (973, ((42, 0, 0), 1)), (974, ((26, 3, 0), 1)), (975, ((2, 0, 2), 1)), (976, ((96, 0, 0), 1)), (977, ((46, 0, 0), 1)), (978, ((182, 119, 0), 3)), (981, ((42, 2, 0), 1)), (982, ((42, 0, 0), 1)), (983, ((26, 3, 0), 1)), (984, ((2, 0, 1), 1)), (985, ((96, 0, 0), 1)), (986, ((46, 0, 0), 1)), (987, ((42, 0, 0), 1)), (988, ((26, 3, 0), 1)), (989, ((2, 0, 2), 1)), (990, ((96, 0, 0), 1)), (991, ((46, 0, 0), 1)), (992, ((182, 122, 0), 3)), (995, ((159, 1218, 0), 3)), (998, ((2, 0, 0), 1)), (999, ((172, 0, 0), 1)), (1000, ((42, 1, 0), 1)), (1001, ((42, 0, 0), 1)), (1002, ((26, 3, 0), 1))]
set_option maxRecDepth 20000 in
theorem tL_law_18_ok : xtok cL_law tL_law_18 := by unfold xtok; decide +kernel
def tL_law_19 : List (Nat × xE) := [(1003, ((2, 0, 1), 1)), (1004, ((96, 0, 0), 1)), (1005, ((46, 0, 0), 1)), (1006, ((42, 0, 0), 1)), (1007, ((26, 3, 0), 1)), (1008, ((2, 0, 2), 1)), (1009, ((96, 0, 0), 1)), (1010, ((46, 0, 0), 1)), (1011, ((182, 123, 0), 3)), (1014, ((42, 2, 0), 1)), (1015, ((42, 0, 0), 1)), (1016, ((26, 3, 0), 1)), (1017, ((2, 0, 1), 1)), (1018, ((96, 0, 0), 1)), (1019, ((46, 0, 0), 1)), (1020, ((42, 0, 0), 1)), (1021, ((26, 3, 0), 1)), (1022, ((2, 0, 2), 1)), (1023, ((96, 0, 0), 1)), (1024, ((46, 0, 0), 1)), (1025, ((182, 126, 0), 3)), (1028, ((159, 1218, 0), 3)), (1031, ((2, 0, 0), 1)), (1032, ((172, 0, 0), 1)), (1033, ((42, 1, 0), 1)), (1034, ((42, 0, 0), 1)), (1035, ((26, 3, 0), 1)), (1036, ((2, 0, 1), 1)), (1037, ((96, 0, 0), 1)), (1038, ((46, 0, 0), 1)), (1039, ((42, 0, 0), 1)), (1040, ((26, 3, 0), 1)), (1041, ((2, 0, 2), 1)), (1042, ((96, 0, 0), 1)), (1043, ((46, 0, 0), 1)), (1044, ((42, 0, 0), 1))]
set_option maxRecDepth 20000 in
theorem tL_law_19_ok : xtok cL_law tL_law_19 := by unfold xtok; decide +kernel
def tL_law_20 : List (Nat × xE) := [(1045, ((26, 3, 0), 1)), (1046, ((2, 0, 3), 1)), (1047, ((96, 0, 0), 1)), (1048, ((46, 0, 0), 1)), (1049, ((182, 127, 0), 3)), (1052, ((42, 2, 0), 1)), (1053, ((42, 0, 0), 1)), (1054, ((26, 3, 0), 1)), (1055, ((2, 0, 1), 1)), (1056, ((96, 0, 0), 1)), (1057, ((46, 0, 0), 1)), (1058, ((42, 0, 0), 1)), (1059, ((26, 3, 0), 1)), (1060, ((2, 0, 2), 1)), (1061, ((96, 0, 0), 1)), (1062, ((46, 0, 0), 1)), (1063, ((42, 0, 0), 1)), (1064, ((26, 3, 0), 1)), (1065, ((2, 0, 3), 1)), (1066, ((96, 0, 0), 1)), (1067, ((46, 0, 0), 1)), (1068, ((182, 130, 0), 3)), (1071, ((159, 1218, 0), 3)), (1074, ((2, 0, 0), 1)), (1075, ((172, 0, 0), 1)), (1076, ((42, 1, 0), 1)), (1077, ((42, 0, 0), 1)), (1078, ((26, 3, 0), 1)), (1079, ((2, 0, 1), 1)), (1080, ((96, 0, 0), 1)), (1081, ((46, 0, 0), 1)), (1082, ((42, 0, 0), 1)), (1083, ((26, 3, 0), 1)), (1084, ((2, 0, 2), 1)), (1085, ((96, 0, 0), 1)), (1086, ((46, 0, 0), 1))]
set_option maxRecDepth 20000 in
theorem tL_law_20_ok : xtok cL_law tL_law_20 := by unfold xtok; decide +kernel
def tL_law_21 : List (Nat × xE) := [(1087, ((182, 131, 0), 3)), (1090, ((42, 2, 0), 1)), (1091, ((42, 0, 0), 1)), (1092, ((26, 3, 0), 1)), (1093, ((2, 0, 1), 1)), (1094, ((96, 0, 0), 1)), (1095, ((46, 0, 0), 1)), (1096, ((42, 0, 0), 1)), (1097, ((26, 3, 0), 1)), (1098, ((2, 0, 2), 1)), (1099, ((96, 0, 0), 1)), (1100, ((46, 0, 0), 1)), (1101, ((182, 134, 0), 3)), (1104, ((159, 1218, 0), 3)), (1107, ((2, 0, 0), 1)), (1108, ((172, 0, 0), 1)), (1109, ((42, 1, 0), 1)), (1110, ((42, 0, 0), 1)), (1111, ((26, 3, 0), 1)), (1112, ((2, 0, 1), 1)), (1113, ((96, 0, 0), 1)), (1114, ((46, 0, 0), 1)), (1115, ((42, 0, 0), 1)), (1116, ((26, 3, 0), 1)), (1117, ((2, 0, 2), 1)), (1118, ((96, 0, 0), 1)), (1119, ((46, 0, 0), 1)), (1120, ((42, 0, 0), 1)), (1121, ((26, 3, 0), 1)), (1122, ((2, 0, 3), 1)), (1123, ((96, 0, 0), 1)), (1124, ((46, 0, 0), 1)), (1125, ((182, 135, 0), 3)), (1128, ((42, 2, 0), 1)), (1129, ((42, 0, 0), 1)), (1130, ((26, 3, 0), 1))]
set_option maxRecDepth 20000 in
theorem tL_law_21_ok : xtok cL_law tL_law_21 := by unfold xtok; decide +kernel
def tL_law_22 : List (Nat × xE) := [(1131, ((2, 0, 1), 1)), (1132, ((96, 0, 0), 1)), (1133, ((46, 0, 0), 1)), (1134, ((42, 0, 0), 1)), (1135, ((26, 3, 0), 1)), (1136, ((2, 0, 2), 1)), (1137, ((96, 0, 0), 1)), (1138, ((46, 0, 0), 1)), (1139, ((42, 0, 0), 1)), (1140, ((26, 3, 0), 1)), (1141, ((2, 0, 3), 1)), (1142, ((96, 0, 0), 1)), (1143, ((46, 0, 0), 1)), (1144, ((182, 138, 0), 3)), (1147, ((159, 1218, 0), 3)), (1150, ((2, 0, 0), 1)), (1151, ((172, 0, 0), 1)), (1152, ((42, 1, 0), 1)), (1153, ((42, 0, 0), 1)), (1154, ((26, 3, 0), 1)), (1155, ((2, 0, 1), 1)), (1156, ((96, 0, 0), 1)), (1157, ((46, 0, 0), 1)), (1158, ((42, 0, 0), 1)), (1159, ((26, 3, 0), 1)), (1160, ((2, 0, 2), 1)), (1161, ((96, 0, 0), 1)), (1162, ((46, 0, 0), 1)), (1163, ((182, 139, 0), 3)), (1166, ((42, 2, 0), 1)), (1167, ((42, 0, 0), 1)), (1168, ((26, 3, 0), 1)), (1169, ((2, 0, 1), 1)), (1170, ((96, 0, 0), 1)), (1171, ((46, 0, 0), 1)), (1172, ((42, 0, 0), 1))]
set_option maxRecDepth 20000 in
theorem tL_law_22_ok : xtok cL_law tL_law_22 := by unfold xtok; decide +kernel
def tL_law_23 : List (Nat × xE) := [(1173, ((26, 3, 0), 1)), (1174, ((2, 0, 2), 1)), (1175, ((96, 0, 0), 1)), (1176, ((46, 0, 0), 1)), (1177, ((182, 142, 0), 3)), (1180, ((159, 1218, 0), 3)), (1183, ((2, 0, 0), 1)), (1184, ((172, 0, 0), 1)), (1185, ((42, 1, 0), 1)), (1186, ((42, 0, 0), 1)), (1187, ((26, 3, 0), 1)), (1188, ((2, 0, 1), 1)), (1189, ((96, 0, 0), 1)), (1190, ((46, 0, 0), 1)), (1191, ((42, 0, 0), 1)), (1192, ((26, 3, 0), 1)), (1193, ((2, 0, 2), 1)), (1194, ((96, 0, 0), 1)), (1195, ((46, 0, 0), 1)), (1196, ((182, 143, 0), 3)), (1199, ((42, 2, 0), 1)), (1200, ((42, 0, 0), 1)), (1201, ((26, 3, 0), 1)), (1202, ((2, 0, 1), 1)), (1203, ((96, 0, 0), 1)), (1204, ((46, 0, 0), 1)), (1205, ((42, 0, 0), 1)), (1206, ((26, 3, 0), 1)), (1207, ((2, 0, 2), 1)), (1208, ((96, 0, 0), 1)), (1209, ((46, 0, 0), 1)), (1210, ((182, 146, 0), 3)), (1213, ((159, 1218, 0), 3)), (1216, ((2, 0, 0), 1)), (1217, ((172, 0, 0), 1)), (1218, ((132, 3, 6), 3))]
set_option maxRecDepth 20000 in
theorem tL_law_23_ok : xtok cL_law tL_law_23 := by unfold xtok; decide +kernel
def tL_law_24 : List (Nat × xE) := [(1221, ((167, 18, 0), 3)), (1224, ((2, 0, 1), 1)), (1225, ((172, 0, 0), 1))]
set_option maxRecDepth 20000 in
theorem tL_law_24_ok : xtok cL_law tL_law_24 := by unfold xtok; decide +kernel
theorem dL_law_33 : decode cL_law 33 = .ok (.tableswitch 1185 0 31 #[143, 186, 245, 268, 301, 364, 397, 420, 443, 476, 519, 552, 575, 608, 641, 684, 707, 740, 753, 786, 809, 842, 855, 888, 911, 934, 967, 1000, 1043, 1076, 1119, 1152], 143) := by decide +kernel
theorem xtok.app {cc : ByteArray} {a b : List (Nat × xE)} (ha : xtok cc a) (hb : xtok cc b) : xtok cc (a ++ b) := fun q h => (List.mem_append.mp h).elim (ha q) (hb q)
def tL_law : List (Nat × xE) := tL_law_0 ++ (tL_law_1 ++ (tL_law_2 ++ (tL_law_3 ++ (tL_law_4 ++ (tL_law_5 ++ (tL_law_6 ++ (tL_law_7 ++ (tL_law_8 ++ (tL_law_9 ++ (tL_law_10 ++ (tL_law_11 ++ (tL_law_12 ++ (tL_law_13 ++ (tL_law_14 ++ (tL_law_15 ++ (tL_law_16 ++ (tL_law_17 ++ (tL_law_18 ++ (tL_law_19 ++ (tL_law_20 ++ (tL_law_21 ++ (tL_law_22 ++ (tL_law_23 ++ (tL_law_24))))))))))))))))))))))))
theorem tL_law_ok : xtok cL_law tL_law := xtok.app tL_law_0_ok (xtok.app tL_law_1_ok (xtok.app tL_law_2_ok (xtok.app tL_law_3_ok (xtok.app tL_law_4_ok (xtok.app tL_law_5_ok (xtok.app tL_law_6_ok (xtok.app tL_law_7_ok (xtok.app tL_law_8_ok (xtok.app tL_law_9_ok (xtok.app tL_law_10_ok (xtok.app tL_law_11_ok (xtok.app tL_law_12_ok (xtok.app tL_law_13_ok (xtok.app tL_law_14_ok (xtok.app tL_law_15_ok (xtok.app tL_law_16_ok (xtok.app tL_law_17_ok (xtok.app tL_law_18_ok (xtok.app tL_law_19_ok (xtok.app tL_law_20_ok (xtok.app tL_law_21_ok (xtok.app tL_law_22_ok (xtok.app tL_law_23_ok (tL_law_24_ok))))))))))))))))))))))))
abbrev mL_law : xM := (yL_law, cL_law, 4, (some .boolean), tL_law)
end
section
theorem cL_7 : Cond.classLink RL 7 "PackPost" ∈ xGw := xGw_in (List.mem_of_getElem? (i := 92) (by decide +kernel)) rfl
theorem nL_7 : xnl RL 7 8 := ⟨(RX8, TX8, 12), rfl, cL_7, xGw_in (List.mem_of_getElem? (i := 93) (by decide +kernel)) rfl, xGw_in (List.mem_of_getElem? (i := 81) (by decide +kernel)) rfl⟩
theorem lL_9 : xlk RL 9 mX8_init := Or.inl (xGw_in (List.mem_of_getElem? (i := 94) (by decide +kernel)) rfl)
theorem oX8 : ∀ w ∈ [Cond.methodLink RX8 3 objectInit, Cond.instanceMethod objectInit, Cond.code objectInit ⟨#[0xb1]⟩ 1 none], w ∈ xGw := xwords _ [97, 98, 99] (by decide +kernel) (by decide +kernel)
theorem cX8_9 : Cond.classLink RX8 9 "PackPost$Content" ∈ xGw := xGw_in (List.mem_of_getElem? (i := 100) (by decide +kernel)) rfl
theorem nX8_9 : xnl RX8 9 2 := ⟨(RX2, TX2, 15), rfl, cX8_9, xGw_in (List.mem_of_getElem? (i := 101) (by decide +kernel)) rfl, xGw_in (List.mem_of_getElem? (i := 82) (by decide +kernel)) rfl⟩
theorem lX8_11 : xlk RX8 11 mX2_init := Or.inr ⟨"PackPost", xNw_in (List.mem_of_getElem? (i := 102) (by decide +kernel)) rfl⟩
theorem oX2 : ∀ w ∈ [Cond.methodLink RX2 3 objectInit, Cond.instanceMethod objectInit, Cond.code objectInit ⟨#[0xb1]⟩ 1 none], w ∈ xGw := xwords _ [105, 98, 99] (by decide +kernel) (by decide +kernel)
theorem cX2_34 : Cond.classLink RX2 34 "[[I" ∈ xGw := xGw_in (List.mem_of_getElem? (i := 106) (by decide +kernel)) rfl
theorem fX2_53 : xfl RX2 53 2 0 := ⟨(RX2, TX2, 15), rfl, by decide, Or.inl (xGw_in (List.mem_of_getElem? (i := 108) (by decide +kernel)) rfl)⟩
theorem fX6_53 : xfl RX6 53 2 0 := ⟨(RX2, TX2, 15), rfl, by decide, Or.inr ⟨"PackPost", xNw_in (List.mem_of_getElem? (i := 109) (by decide +kernel)) rfl⟩⟩
theorem fX7_60 : xfl RX7 60 2 0 := ⟨(RX2, TX2, 15), rfl, by decide, Or.inr ⟨"PackPost", xNw_in (List.mem_of_getElem? (i := 110) (by decide +kernel)) rfl⟩⟩
theorem fX8_248 : xfl RX8 248 2 0 := ⟨(RX2, TX2, 15), rfl, by decide, Or.inr ⟨"PackPost", xNw_in (List.mem_of_getElem? (i := 111) (by decide +kernel)) rfl⟩⟩
theorem fX2_56 : xfl RX2 56 2 1 := ⟨(RX2, TX2, 15), rfl, by decide, Or.inl (xGw_in (List.mem_of_getElem? (i := 112) (by decide +kernel)) rfl)⟩
theorem fX6_58 : xfl RX6 58 2 1 := ⟨(RX2, TX2, 15), rfl, by decide, Or.inr ⟨"PackPost", xNw_in (List.mem_of_getElem? (i := 113) (by decide +kernel)) rfl⟩⟩
theorem fX7_77 : xfl RX7 77 2 1 := ⟨(RX2, TX2, 15), rfl, by decide, Or.inr ⟨"PackPost", xNw_in (List.mem_of_getElem? (i := 114) (by decide +kernel)) rfl⟩⟩
theorem fX8_251 : xfl RX8 251 2 1 := ⟨(RX2, TX2, 15), rfl, by decide, Or.inr ⟨"PackPost", xNw_in (List.mem_of_getElem? (i := 115) (by decide +kernel)) rfl⟩⟩
theorem fX2_59 : xfl RX2 59 2 2 := ⟨(RX2, TX2, 15), rfl, by decide, Or.inl (xGw_in (List.mem_of_getElem? (i := 116) (by decide +kernel)) rfl)⟩
theorem fX6_61 : xfl RX6 61 2 2 := ⟨(RX2, TX2, 15), rfl, by decide, Or.inr ⟨"PackPost", xNw_in (List.mem_of_getElem? (i := 117) (by decide +kernel)) rfl⟩⟩
theorem fX4_47 : xfl RX4 47 2 2 := ⟨(RX2, TX2, 15), rfl, by decide, Or.inr ⟨"PackPost", xNw_in (List.mem_of_getElem? (i := 118) (by decide +kernel)) rfl⟩⟩
theorem fX8_254 : xfl RX8 254 2 2 := ⟨(RX2, TX2, 15), rfl, by decide, Or.inr ⟨"PackPost", xNw_in (List.mem_of_getElem? (i := 119) (by decide +kernel)) rfl⟩⟩
theorem fX2_39 : xfl RX2 39 2 3 := ⟨(RX2, TX2, 15), rfl, by decide, Or.inl (xGw_in (List.mem_of_getElem? (i := 120) (by decide +kernel)) rfl)⟩
theorem fX5_65 : xfl RX5 65 2 3 := ⟨(RX2, TX2, 15), rfl, by decide, Or.inr ⟨"PackPost", xNw_in (List.mem_of_getElem? (i := 121) (by decide +kernel)) rfl⟩⟩
theorem fX2_9 : xfl RX2 9 2 4 := ⟨(RX2, TX2, 15), rfl, by decide, Or.inl (xGw_in (List.mem_of_getElem? (i := 122) (by decide +kernel)) rfl)⟩
theorem fX2_9F : ∃ r : vw_C, vwCl[2]? = some r ∧ 4 < r.2.2 ∧ (r.2.1 4).1 = RX2 ∧ Cond.fieldLink RX2 9 (r.2.1 4).1 (r.2.1 4).2.1 (r.2.1 4).2.2.1 ∈ xGw := ⟨(RX2, TX2, 15), rfl, by decide, rfl, xGw_in (List.mem_of_getElem? (i := 122) (by decide +kernel)) rfl⟩
theorem fX6_67 : xfl RX6 67 2 4 := ⟨(RX2, TX2, 15), rfl, by decide, Or.inr ⟨"PackPost", xNw_in (List.mem_of_getElem? (i := 123) (by decide +kernel)) rfl⟩⟩
theorem fX7_84 : xfl RX7 84 2 4 := ⟨(RX2, TX2, 15), rfl, by decide, Or.inr ⟨"PackPost", xNw_in (List.mem_of_getElem? (i := 124) (by decide +kernel)) rfl⟩⟩
theorem fX2_15 : xfl RX2 15 2 5 := ⟨(RX2, TX2, 15), rfl, by decide, Or.inl (xGw_in (List.mem_of_getElem? (i := 125) (by decide +kernel)) rfl)⟩
theorem fX2_15F : ∃ r : vw_C, vwCl[2]? = some r ∧ 5 < r.2.2 ∧ (r.2.1 5).1 = RX2 ∧ Cond.fieldLink RX2 15 (r.2.1 5).1 (r.2.1 5).2.1 (r.2.1 5).2.2.1 ∈ xGw := ⟨(RX2, TX2, 15), rfl, by decide, rfl, xGw_in (List.mem_of_getElem? (i := 125) (by decide +kernel)) rfl⟩
theorem fX6_70 : xfl RX6 70 2 5 := ⟨(RX2, TX2, 15), rfl, by decide, Or.inr ⟨"PackPost", xNw_in (List.mem_of_getElem? (i := 126) (by decide +kernel)) rfl⟩⟩
theorem fX7_87 : xfl RX7 87 2 5 := ⟨(RX2, TX2, 15), rfl, by decide, Or.inr ⟨"PackPost", xNw_in (List.mem_of_getElem? (i := 127) (by decide +kernel)) rfl⟩⟩
theorem fX2_18 : xfl RX2 18 2 6 := ⟨(RX2, TX2, 15), rfl, by decide, Or.inl (xGw_in (List.mem_of_getElem? (i := 128) (by decide +kernel)) rfl)⟩
theorem fX2_18F : ∃ r : vw_C, vwCl[2]? = some r ∧ 6 < r.2.2 ∧ (r.2.1 6).1 = RX2 ∧ Cond.fieldLink RX2 18 (r.2.1 6).1 (r.2.1 6).2.1 (r.2.1 6).2.2.1 ∈ xGw := ⟨(RX2, TX2, 15), rfl, by decide, rfl, xGw_in (List.mem_of_getElem? (i := 128) (by decide +kernel)) rfl⟩
theorem fX6_73 : xfl RX6 73 2 6 := ⟨(RX2, TX2, 15), rfl, by decide, Or.inr ⟨"PackPost", xNw_in (List.mem_of_getElem? (i := 129) (by decide +kernel)) rfl⟩⟩
theorem fX7_90 : xfl RX7 90 2 6 := ⟨(RX2, TX2, 15), rfl, by decide, Or.inr ⟨"PackPost", xNw_in (List.mem_of_getElem? (i := 130) (by decide +kernel)) rfl⟩⟩
theorem fX2_43 : xfl RX2 43 2 7 := ⟨(RX2, TX2, 15), rfl, by decide, Or.inl (xGw_in (List.mem_of_getElem? (i := 131) (by decide +kernel)) rfl)⟩
theorem fX3_26 : xfl RX3 26 2 7 := ⟨(RX2, TX2, 15), rfl, by decide, Or.inr ⟨"PackPost", xNw_in (List.mem_of_getElem? (i := 132) (by decide +kernel)) rfl⟩⟩
theorem fX7_21 : xfl RX7 21 2 7 := ⟨(RX2, TX2, 15), rfl, by decide, Or.inr ⟨"PackPost", xNw_in (List.mem_of_getElem? (i := 133) (by decide +kernel)) rfl⟩⟩
theorem fX8_86 : xfl RX8 86 2 7 := ⟨(RX2, TX2, 15), rfl, by decide, Or.inr ⟨"PackPost", xNw_in (List.mem_of_getElem? (i := 134) (by decide +kernel)) rfl⟩⟩
theorem fX6_64 : xfl RX6 64 2 7 := ⟨(RX2, TX2, 15), rfl, by decide, Or.inr ⟨"PackPost", xNw_in (List.mem_of_getElem? (i := 135) (by decide +kernel)) rfl⟩⟩
theorem fX4_56 : xfl RX4 56 2 7 := ⟨(RX2, TX2, 15), rfl, by decide, Or.inr ⟨"PackPost", xNw_in (List.mem_of_getElem? (i := 136) (by decide +kernel)) rfl⟩⟩
theorem fX2_22 : xfl RX2 22 2 8 := ⟨(RX2, TX2, 15), rfl, by decide, Or.inl (xGw_in (List.mem_of_getElem? (i := 137) (by decide +kernel)) rfl)⟩
theorem fX2_22F : ∃ r : vw_C, vwCl[2]? = some r ∧ 8 < r.2.2 ∧ (r.2.1 8).1 = RX2 ∧ Cond.fieldLink RX2 22 (r.2.1 8).1 (r.2.1 8).2.1 (r.2.1 8).2.2.1 ∈ xGw := ⟨(RX2, TX2, 15), rfl, by decide, rfl, xGw_in (List.mem_of_getElem? (i := 137) (by decide +kernel)) rfl⟩
theorem fX6_80 : xfl RX6 80 2 8 := ⟨(RX2, TX2, 15), rfl, by decide, Or.inr ⟨"PackPost", xNw_in (List.mem_of_getElem? (i := 138) (by decide +kernel)) rfl⟩⟩
theorem fX2_47 : xfl RX2 47 2 9 := ⟨(RX2, TX2, 15), rfl, by decide, Or.inl (xGw_in (List.mem_of_getElem? (i := 139) (by decide +kernel)) rfl)⟩
theorem fX6_77 : xfl RX6 77 2 9 := ⟨(RX2, TX2, 15), rfl, by decide, Or.inr ⟨"PackPost", xNw_in (List.mem_of_getElem? (i := 140) (by decide +kernel)) rfl⟩⟩
theorem fX8_97 : xfl RX8 97 2 9 := ⟨(RX2, TX2, 15), rfl, by decide, Or.inr ⟨"PackPost", xNw_in (List.mem_of_getElem? (i := 141) (by decide +kernel)) rfl⟩⟩
theorem fX2_25 : xfl RX2 25 2 10 := ⟨(RX2, TX2, 15), rfl, by decide, Or.inl (xGw_in (List.mem_of_getElem? (i := 142) (by decide +kernel)) rfl)⟩
theorem fX2_25F : ∃ r : vw_C, vwCl[2]? = some r ∧ 10 < r.2.2 ∧ (r.2.1 10).1 = RX2 ∧ Cond.fieldLink RX2 25 (r.2.1 10).1 (r.2.1 10).2.1 (r.2.1 10).2.2.1 ∈ xGw := ⟨(RX2, TX2, 15), rfl, by decide, rfl, xGw_in (List.mem_of_getElem? (i := 142) (by decide +kernel)) rfl⟩
theorem fX6_86 : xfl RX6 86 2 10 := ⟨(RX2, TX2, 15), rfl, by decide, Or.inr ⟨"PackPost", xNw_in (List.mem_of_getElem? (i := 143) (by decide +kernel)) rfl⟩⟩
theorem fX2_28 : xfl RX2 28 2 11 := ⟨(RX2, TX2, 15), rfl, by decide, Or.inl (xGw_in (List.mem_of_getElem? (i := 144) (by decide +kernel)) rfl)⟩
theorem fX2_28F : ∃ r : vw_C, vwCl[2]? = some r ∧ 11 < r.2.2 ∧ (r.2.1 11).1 = RX2 ∧ Cond.fieldLink RX2 28 (r.2.1 11).1 (r.2.1 11).2.1 (r.2.1 11).2.2.1 ∈ xGw := ⟨(RX2, TX2, 15), rfl, by decide, rfl, xGw_in (List.mem_of_getElem? (i := 144) (by decide +kernel)) rfl⟩
theorem fX6_89 : xfl RX6 89 2 11 := ⟨(RX2, TX2, 15), rfl, by decide, Or.inr ⟨"PackPost", xNw_in (List.mem_of_getElem? (i := 145) (by decide +kernel)) rfl⟩⟩
theorem fX5_121 : xfl RX5 121 2 11 := ⟨(RX2, TX2, 15), rfl, by decide, Or.inr ⟨"PackPost", xNw_in (List.mem_of_getElem? (i := 146) (by decide +kernel)) rfl⟩⟩
theorem fX2_31 : xfl RX2 31 2 12 := ⟨(RX2, TX2, 15), rfl, by decide, Or.inl (xGw_in (List.mem_of_getElem? (i := 147) (by decide +kernel)) rfl)⟩
theorem fX2_31F : ∃ r : vw_C, vwCl[2]? = some r ∧ 12 < r.2.2 ∧ (r.2.1 12).1 = RX2 ∧ Cond.fieldLink RX2 31 (r.2.1 12).1 (r.2.1 12).2.1 (r.2.1 12).2.2.1 ∈ xGw := ⟨(RX2, TX2, 15), rfl, by decide, rfl, xGw_in (List.mem_of_getElem? (i := 147) (by decide +kernel)) rfl⟩
theorem fX6_92 : xfl RX6 92 2 12 := ⟨(RX2, TX2, 15), rfl, by decide, Or.inr ⟨"PackPost", xNw_in (List.mem_of_getElem? (i := 148) (by decide +kernel)) rfl⟩⟩
theorem fX2_36 : xfl RX2 36 2 13 := ⟨(RX2, TX2, 15), rfl, by decide, Or.inl (xGw_in (List.mem_of_getElem? (i := 149) (by decide +kernel)) rfl)⟩
theorem fX2_36F : ∃ r : vw_C, vwCl[2]? = some r ∧ 13 < r.2.2 ∧ (r.2.1 13).1 = RX2 ∧ Cond.fieldLink RX2 36 (r.2.1 13).1 (r.2.1 13).2.1 (r.2.1 13).2.2.1 ∈ xGw := ⟨(RX2, TX2, 15), rfl, by decide, rfl, xGw_in (List.mem_of_getElem? (i := 149) (by decide +kernel)) rfl⟩
theorem fX2_50 : xfl RX2 50 2 14 := ⟨(RX2, TX2, 15), rfl, by decide, Or.inl (xGw_in (List.mem_of_getElem? (i := 150) (by decide +kernel)) rfl)⟩
theorem fX6_83 : xfl RX6 83 2 14 := ⟨(RX2, TX2, 15), rfl, by decide, Or.inr ⟨"PackPost", xNw_in (List.mem_of_getElem? (i := 151) (by decide +kernel)) rfl⟩⟩
theorem fX8_107 : xfl RX8 107 2 14 := ⟨(RX2, TX2, 15), rfl, by decide, Or.inr ⟨"PackPost", xNw_in (List.mem_of_getElem? (i := 152) (by decide +kernel)) rfl⟩⟩
theorem fX5_118 : xfl RX5 118 2 14 := ⟨(RX2, TX2, 15), rfl, by decide, Or.inr ⟨"PackPost", xNw_in (List.mem_of_getElem? (i := 153) (by decide +kernel)) rfl⟩⟩
theorem a_11 : Cond.arrayClass (xtag 11) ∈ xGw := xGw_in (List.mem_of_getElem? (i := 185) (by decide +kernel)) rfl
theorem a_12 : Cond.arrayClass (xtag 12) ∈ xGw := xGw_in (List.mem_of_getElem? (i := 186) (by decide +kernel)) rfl
theorem cX8_16 : Cond.classLink RX8 16 "PackPost$ByteRow" ∈ xGw := xGw_in (List.mem_of_getElem? (i := 187) (by decide +kernel)) rfl
theorem nX8_16 : xnl RX8 16 1 := ⟨(RX1, TX1, 2), rfl, cX8_16, xGw_in (List.mem_of_getElem? (i := 189) (by decide +kernel)) rfl, xGw_in (List.mem_of_getElem? (i := 83) (by decide +kernel)) rfl⟩
theorem lX8_22 : xlk RX8 22 mX1_init := Or.inl (xGw_in (List.mem_of_getElem? (i := 190) (by decide +kernel)) rfl)
theorem oX1 : ∀ w ∈ [Cond.methodLink RX1 3 objectInit, Cond.instanceMethod objectInit, Cond.code objectInit ⟨#[0xb1]⟩ 1 none], w ∈ xGw := xwords _ [193, 98, 99] (by decide +kernel) (by decide +kernel)
theorem lX1_9 : xlk RX1 9 mJ9_max_7cf53 := Or.inl (xGw_in (List.mem_of_getElem? (i := 194) (by decide +kernel)) rfl)
theorem fX1_15 : xfl RX1 15 1 0 := ⟨(RX1, TX1, 2), rfl, by decide, Or.inl (xGw_in (List.mem_of_getElem? (i := 197) (by decide +kernel)) rfl)⟩
theorem fX1_15F : ∃ r : vw_C, vwCl[1]? = some r ∧ 0 < r.2.2 ∧ (r.2.1 0).1 = RX1 ∧ Cond.fieldLink RX1 15 (r.2.1 0).1 (r.2.1 0).2.1 (r.2.1 0).2.2.1 ∈ xGw := ⟨(RX1, TX1, 2), rfl, by decide, rfl, xGw_in (List.mem_of_getElem? (i := 197) (by decide +kernel)) rfl⟩
theorem fX1_21 : xfl RX1 21 1 1 := ⟨(RX1, TX1, 2), rfl, by decide, Or.inl (xGw_in (List.mem_of_getElem? (i := 198) (by decide +kernel)) rfl)⟩
theorem fX6_35 : xfl RX6 35 1 1 := ⟨(RX1, TX1, 2), rfl, by decide, Or.inr ⟨"PackPost", xNw_in (List.mem_of_getElem? (i := 199) (by decide +kernel)) rfl⟩⟩
theorem fX5_62 : xfl RX5 62 1 1 := ⟨(RX1, TX1, 2), rfl, by decide, Or.inr ⟨"PackPost", xNw_in (List.mem_of_getElem? (i := 200) (by decide +kernel)) rfl⟩⟩
theorem fX0_21 : xfl RX0 21 1 1 := ⟨(RX1, TX1, 2), rfl, by decide, Or.inr ⟨"PackPost", xNw_in (List.mem_of_getElem? (i := 201) (by decide +kernel)) rfl⟩⟩
theorem fX8_142 : xfl RX8 142 1 1 := ⟨(RX1, TX1, 2), rfl, by decide, Or.inr ⟨"PackPost", xNw_in (List.mem_of_getElem? (i := 202) (by decide +kernel)) rfl⟩⟩
theorem cX8_32 : Cond.classLink RX8 32 "PackPost$Book" ∈ xGw := xGw_in (List.mem_of_getElem? (i := 208) (by decide +kernel)) rfl
theorem nX8_32 : xnl RX8 32 0 := ⟨(RX0, TX0, 4), rfl, cX8_32, xGw_in (List.mem_of_getElem? (i := 210) (by decide +kernel)) rfl, xGw_in (List.mem_of_getElem? (i := 85) (by decide +kernel)) rfl⟩
theorem lX8_38 : xlk RX8 38 mX0_init := Or.inr ⟨"PackPost", xNw_in (List.mem_of_getElem? (i := 211) (by decide +kernel)) rfl⟩
theorem oX0 : ∀ w ∈ [Cond.methodLink RX0 3 objectInit, Cond.instanceMethod objectInit, Cond.code objectInit ⟨#[0xb1]⟩ 1 none], w ∈ xGw := xwords _ [214, 98, 99] (by decide +kernel) (by decide +kernel)
theorem cX0_9 : Cond.classLink RX0 9 "PackPost$ByteRow" ∈ xGw := xGw_in (List.mem_of_getElem? (i := 215) (by decide +kernel)) rfl
theorem nX0_9 : xnl RX0 9 1 := ⟨(RX1, TX1, 2), rfl, cX0_9, xGw_in (List.mem_of_getElem? (i := 189) (by decide +kernel)) rfl, xGw_in (List.mem_of_getElem? (i := 83) (by decide +kernel)) rfl⟩
theorem fX0_11 : xfl RX0 11 0 0 := ⟨(RX0, TX0, 4), rfl, by decide, Or.inl (xGw_in (List.mem_of_getElem? (i := 216) (by decide +kernel)) rfl)⟩
theorem fX0_11F : ∃ r : vw_C, vwCl[0]? = some r ∧ 0 < r.2.2 ∧ (r.2.1 0).1 = RX0 ∧ Cond.fieldLink RX0 11 (r.2.1 0).1 (r.2.1 0).2.1 (r.2.1 0).2.2.1 ∈ xGw := ⟨(RX0, TX0, 4), rfl, by decide, rfl, xGw_in (List.mem_of_getElem? (i := 216) (by decide +kernel)) rfl⟩
theorem fX0_29 : xfl RX0 29 0 1 := ⟨(RX0, TX0, 4), rfl, by decide, Or.inl (xGw_in (List.mem_of_getElem? (i := 217) (by decide +kernel)) rfl)⟩
theorem fX8_197 : xfl RX8 197 0 1 := ⟨(RX0, TX0, 4), rfl, by decide, Or.inr ⟨"PackPost", xNw_in (List.mem_of_getElem? (i := 218) (by decide +kernel)) rfl⟩⟩
theorem fX0_32 : xfl RX0 32 0 2 := ⟨(RX0, TX0, 4), rfl, by decide, Or.inl (xGw_in (List.mem_of_getElem? (i := 219) (by decide +kernel)) rfl)⟩
theorem fX8_203 : xfl RX8 203 0 2 := ⟨(RX0, TX0, 4), rfl, by decide, Or.inr ⟨"PackPost", xNw_in (List.mem_of_getElem? (i := 220) (by decide +kernel)) rfl⟩⟩
theorem fX0_35 : xfl RX0 35 0 3 := ⟨(RX0, TX0, 4), rfl, by decide, Or.inl (xGw_in (List.mem_of_getElem? (i := 221) (by decide +kernel)) rfl)⟩
theorem fX8_210 : xfl RX8 210 0 3 := ⟨(RX0, TX0, 4), rfl, by decide, Or.inr ⟨"PackPost", xNw_in (List.mem_of_getElem? (i := 222) (by decide +kernel)) rfl⟩⟩
theorem cX8_39 : Cond.classLink RX8 39 "PackPost$PackWriter" ∈ xGw := xGw_in (List.mem_of_getElem? (i := 232) (by decide +kernel)) rfl
theorem nX8_39 : xnl RX8 39 6 := ⟨(RX6, TX6, 4), rfl, cX8_39, xGw_in (List.mem_of_getElem? (i := 233) (by decide +kernel)) rfl, xGw_in (List.mem_of_getElem? (i := 86) (by decide +kernel)) rfl⟩
theorem lX8_41 : xlk RX8 41 mX6_init := Or.inr ⟨"PackPost", xNw_in (List.mem_of_getElem? (i := 234) (by decide +kernel)) rfl⟩
theorem oX6 : ∀ w ∈ [Cond.methodLink RX6 3 objectInit, Cond.instanceMethod objectInit, Cond.code objectInit ⟨#[0xb1]⟩ 1 none], w ∈ xGw := xwords _ [237, 98, 99] (by decide +kernel) (by decide +kernel)
theorem cX6_9 : Cond.classLink RX6 9 "PackPost$ByteRow" ∈ xGw := xGw_in (List.mem_of_getElem? (i := 238) (by decide +kernel)) rfl
theorem nX6_9 : xnl RX6 9 1 := ⟨(RX1, TX1, 2), rfl, cX6_9, xGw_in (List.mem_of_getElem? (i := 189) (by decide +kernel)) rfl, xGw_in (List.mem_of_getElem? (i := 83) (by decide +kernel)) rfl⟩
theorem lX6_11 : xlk RX6 11 mX1_init := Or.inl (xGw_in (List.mem_of_getElem? (i := 239) (by decide +kernel)) rfl)
theorem fX6_14 : xfl RX6 14 6 0 := ⟨(RX6, TX6, 4), rfl, by decide, Or.inl (xGw_in (List.mem_of_getElem? (i := 240) (by decide +kernel)) rfl)⟩
theorem fX6_14F : ∃ r : vw_C, vwCl[6]? = some r ∧ 0 < r.2.2 ∧ (r.2.1 0).1 = RX6 ∧ Cond.fieldLink RX6 14 (r.2.1 0).1 (r.2.1 0).2.1 (r.2.1 0).2.2.1 ∈ xGw := ⟨(RX6, TX6, 4), rfl, by decide, rfl, xGw_in (List.mem_of_getElem? (i := 240) (by decide +kernel)) rfl⟩
theorem fX6_20 : xfl RX6 20 6 1 := ⟨(RX6, TX6, 4), rfl, by decide, Or.inl (xGw_in (List.mem_of_getElem? (i := 241) (by decide +kernel)) rfl)⟩
theorem fX6_20F : ∃ r : vw_C, vwCl[6]? = some r ∧ 1 < r.2.2 ∧ (r.2.1 1).1 = RX6 ∧ Cond.fieldLink RX6 20 (r.2.1 1).1 (r.2.1 1).2.1 (r.2.1 1).2.2.1 ∈ xGw := ⟨(RX6, TX6, 4), rfl, by decide, rfl, xGw_in (List.mem_of_getElem? (i := 241) (by decide +kernel)) rfl⟩
theorem fX6_127 : xfl RX6 127 6 2 := ⟨(RX6, TX6, 4), rfl, by decide, Or.inl (xGw_in (List.mem_of_getElem? (i := 242) (by decide +kernel)) rfl)⟩
theorem fX6_121 : xfl RX6 121 6 3 := ⟨(RX6, TX6, 4), rfl, by decide, Or.inl (xGw_in (List.mem_of_getElem? (i := 243) (by decide +kernel)) rfl)⟩
theorem cX8_46 : Cond.classLink RX8 46 "PackPost$PackReader" ∈ xGw := xGw_in (List.mem_of_getElem? (i := 253) (by decide +kernel)) rfl
theorem nX8_46 : xnl RX8 46 5 := ⟨(RX5, TX5, 6), rfl, cX8_46, xGw_in (List.mem_of_getElem? (i := 254) (by decide +kernel)) rfl, xGw_in (List.mem_of_getElem? (i := 87) (by decide +kernel)) rfl⟩
theorem lX8_48 : xlk RX8 48 mX5_init := Or.inl (xGw_in (List.mem_of_getElem? (i := 255) (by decide +kernel)) rfl)
theorem oX5 : ∀ w ∈ [Cond.methodLink RX5 3 objectInit, Cond.instanceMethod objectInit, Cond.code objectInit ⟨#[0xb1]⟩ 1 none], w ∈ xGw := xwords _ [258, 98, 99] (by decide +kernel) (by decide +kernel)
theorem cX5_18 : Cond.classLink RX5 18 "PackPost$ByteRow" ∈ xGw := xGw_in (List.mem_of_getElem? (i := 259) (by decide +kernel)) rfl
theorem nX5_18 : xnl RX5 18 1 := ⟨(RX1, TX1, 2), rfl, cX5_18, xGw_in (List.mem_of_getElem? (i := 189) (by decide +kernel)) rfl, xGw_in (List.mem_of_getElem? (i := 83) (by decide +kernel)) rfl⟩
theorem lX5_20 : xlk RX5 20 mX1_init := Or.inl (xGw_in (List.mem_of_getElem? (i := 260) (by decide +kernel)) rfl)
theorem cX5_27 : Cond.classLink RX5 27 "PackPost$Content" ∈ xGw := xGw_in (List.mem_of_getElem? (i := 261) (by decide +kernel)) rfl
theorem nX5_27 : xnl RX5 27 2 := ⟨(RX2, TX2, 15), rfl, cX5_27, xGw_in (List.mem_of_getElem? (i := 101) (by decide +kernel)) rfl, xGw_in (List.mem_of_getElem? (i := 82) (by decide +kernel)) rfl⟩
theorem lX5_29 : xlk RX5 29 mX2_init := Or.inr ⟨"PackPost", xNw_in (List.mem_of_getElem? (i := 262) (by decide +kernel)) rfl⟩
theorem fX5_23 : xfl RX5 23 5 0 := ⟨(RX5, TX5, 6), rfl, by decide, Or.inl (xGw_in (List.mem_of_getElem? (i := 263) (by decide +kernel)) rfl)⟩
theorem fX5_30 : xfl RX5 30 5 1 := ⟨(RX5, TX5, 6), rfl, by decide, Or.inl (xGw_in (List.mem_of_getElem? (i := 264) (by decide +kernel)) rfl)⟩
theorem fX8_222 : xfl RX8 222 5 1 := ⟨(RX5, TX5, 6), rfl, by decide, Or.inr ⟨"PackPost", xNw_in (List.mem_of_getElem? (i := 265) (by decide +kernel)) rfl⟩⟩
theorem fX5_34 : xfl RX5 34 5 2 := ⟨(RX5, TX5, 6), rfl, by decide, Or.inl (xGw_in (List.mem_of_getElem? (i := 266) (by decide +kernel)) rfl)⟩
theorem fX5_38 : xfl RX5 38 5 3 := ⟨(RX5, TX5, 6), rfl, by decide, Or.inl (xGw_in (List.mem_of_getElem? (i := 267) (by decide +kernel)) rfl)⟩
theorem fX5_9 : xfl RX5 9 5 4 := ⟨(RX5, TX5, 6), rfl, by decide, Or.inl (xGw_in (List.mem_of_getElem? (i := 268) (by decide +kernel)) rfl)⟩
theorem fX5_9F : ∃ r : vw_C, vwCl[5]? = some r ∧ 4 < r.2.2 ∧ (r.2.1 4).1 = RX5 ∧ Cond.fieldLink RX5 9 (r.2.1 4).1 (r.2.1 4).2.1 (r.2.1 4).2.2.1 ∈ xGw := ⟨(RX5, TX5, 6), rfl, by decide, rfl, xGw_in (List.mem_of_getElem? (i := 268) (by decide +kernel)) rfl⟩
theorem fX5_15 : xfl RX5 15 5 5 := ⟨(RX5, TX5, 6), rfl, by decide, Or.inl (xGw_in (List.mem_of_getElem? (i := 269) (by decide +kernel)) rfl)⟩
theorem fX5_15F : ∃ r : vw_C, vwCl[5]? = some r ∧ 5 < r.2.2 ∧ (r.2.1 5).1 = RX5 ∧ Cond.fieldLink RX5 15 (r.2.1 5).1 (r.2.1 5).2.1 (r.2.1 5).2.2.1 ∈ xGw := ⟨(RX5, TX5, 6), rfl, by decide, rfl, xGw_in (List.mem_of_getElem? (i := 269) (by decide +kernel)) rfl⟩
theorem cX8_53 : Cond.classLink RX8 53 "PackPost$Shelf" ∈ xGw := xGw_in (List.mem_of_getElem? (i := 283) (by decide +kernel)) rfl
theorem nX8_53 : xnl RX8 53 7 := ⟨(RX7, TX7, 2), rfl, cX8_53, xGw_in (List.mem_of_getElem? (i := 284) (by decide +kernel)) rfl, xGw_in (List.mem_of_getElem? (i := 88) (by decide +kernel)) rfl⟩
theorem lX8_55 : xlk RX8 55 mX7_init := Or.inr ⟨"PackPost", xNw_in (List.mem_of_getElem? (i := 285) (by decide +kernel)) rfl⟩
theorem oX7 : ∀ w ∈ [Cond.methodLink RX7 3 objectInit, Cond.instanceMethod objectInit, Cond.code objectInit ⟨#[0xb1]⟩ 1 none], w ∈ xGw := xwords _ [288, 98, 99] (by decide +kernel) (by decide +kernel)
theorem cX7_9 : Cond.classLink RX7 9 "PackPost$Entry" ∈ xGw := xGw_in (List.mem_of_getElem? (i := 289) (by decide +kernel)) rfl
theorem nX7_9 : xnl RX7 9 3 := ⟨(RX3, TX3, 6), rfl, cX7_9, xGw_in (List.mem_of_getElem? (i := 774) (by decide +kernel)) rfl, xGw_in (List.mem_of_getElem? (i := 91) (by decide +kernel)) rfl⟩
theorem fX7_11 : xfl RX7 11 7 0 := ⟨(RX7, TX7, 2), rfl, by decide, Or.inl (xGw_in (List.mem_of_getElem? (i := 291) (by decide +kernel)) rfl)⟩
theorem fX7_11F : ∃ r : vw_C, vwCl[7]? = some r ∧ 0 < r.2.2 ∧ (r.2.1 0).1 = RX7 ∧ Cond.fieldLink RX7 11 (r.2.1 0).1 (r.2.1 0).2.1 (r.2.1 0).2.2.1 ∈ xGw := ⟨(RX7, TX7, 2), rfl, by decide, rfl, xGw_in (List.mem_of_getElem? (i := 291) (by decide +kernel)) rfl⟩
theorem fX7_17 : xfl RX7 17 7 1 := ⟨(RX7, TX7, 2), rfl, by decide, Or.inl (xGw_in (List.mem_of_getElem? (i := 292) (by decide +kernel)) rfl)⟩
theorem fX8_218 : xfl RX8 218 7 1 := ⟨(RX7, TX7, 2), rfl, by decide, Or.inr ⟨"PackPost", xNw_in (List.mem_of_getElem? (i := 293) (by decide +kernel)) rfl⟩⟩
theorem cX8_60 : Cond.classLink RX8 60 "PackPost$Finding" ∈ xGw := xGw_in (List.mem_of_getElem? (i := 299) (by decide +kernel)) rfl
theorem nX8_60 : xnl RX8 60 4 := ⟨(RX4, TX4, 3), rfl, cX8_60, xGw_in (List.mem_of_getElem? (i := 300) (by decide +kernel)) rfl, xGw_in (List.mem_of_getElem? (i := 89) (by decide +kernel)) rfl⟩
theorem lX8_62 : xlk RX8 62 mX4_init := Or.inr ⟨"PackPost", xNw_in (List.mem_of_getElem? (i := 301) (by decide +kernel)) rfl⟩
theorem oX4 : ∀ w ∈ [Cond.methodLink RX4 3 objectInit, Cond.instanceMethod objectInit, Cond.code objectInit ⟨#[0xb1]⟩ 1 none], w ∈ xGw := xwords _ [304, 98, 99] (by decide +kernel) (by decide +kernel)
theorem fX4_9 : xfl RX4 9 4 0 := ⟨(RX4, TX4, 3), rfl, by decide, Or.inl (xGw_in (List.mem_of_getElem? (i := 305) (by decide +kernel)) rfl)⟩
theorem fX4_9F : ∃ r : vw_C, vwCl[4]? = some r ∧ 0 < r.2.2 ∧ (r.2.1 0).1 = RX4 ∧ Cond.fieldLink RX4 9 (r.2.1 0).1 (r.2.1 0).2.1 (r.2.1 0).2.2.1 ∈ xGw := ⟨(RX4, TX4, 3), rfl, by decide, rfl, xGw_in (List.mem_of_getElem? (i := 305) (by decide +kernel)) rfl⟩
theorem fX4_15 : xfl RX4 15 4 1 := ⟨(RX4, TX4, 3), rfl, by decide, Or.inl (xGw_in (List.mem_of_getElem? (i := 306) (by decide +kernel)) rfl)⟩
theorem fX4_15F : ∃ r : vw_C, vwCl[4]? = some r ∧ 1 < r.2.2 ∧ (r.2.1 1).1 = RX4 ∧ Cond.fieldLink RX4 15 (r.2.1 1).1 (r.2.1 1).2.1 (r.2.1 1).2.2.1 ∈ xGw := ⟨(RX4, TX4, 3), rfl, by decide, rfl, xGw_in (List.mem_of_getElem? (i := 306) (by decide +kernel)) rfl⟩
theorem fX4_19 : xfl RX4 19 4 2 := ⟨(RX4, TX4, 3), rfl, by decide, Or.inl (xGw_in (List.mem_of_getElem? (i := 307) (by decide +kernel)) rfl)⟩
theorem fX8_12 : xfl RX8 12 8 0 := ⟨(RX8, TX8, 12), rfl, by decide, Or.inl (xGw_in (List.mem_of_getElem? (i := 315) (by decide +kernel)) rfl)⟩
theorem fX8_12F : ∃ r : vw_C, vwCl[8]? = some r ∧ 0 < r.2.2 ∧ (r.2.1 0).1 = RX8 ∧ Cond.fieldLink RX8 12 (r.2.1 0).1 (r.2.1 0).2.1 (r.2.1 0).2.2.1 ∈ xGw := ⟨(RX8, TX8, 12), rfl, by decide, rfl, xGw_in (List.mem_of_getElem? (i := 315) (by decide +kernel)) rfl⟩
theorem fX8_78 : xfl RX8 78 8 1 := ⟨(RX8, TX8, 12), rfl, by decide, Or.inl (xGw_in (List.mem_of_getElem? (i := 316) (by decide +kernel)) rfl)⟩
theorem fX8_18 : xfl RX8 18 8 2 := ⟨(RX8, TX8, 12), rfl, by decide, Or.inl (xGw_in (List.mem_of_getElem? (i := 317) (by decide +kernel)) rfl)⟩
theorem fX8_18F : ∃ r : vw_C, vwCl[8]? = some r ∧ 2 < r.2.2 ∧ (r.2.1 2).1 = RX8 ∧ Cond.fieldLink RX8 18 (r.2.1 2).1 (r.2.1 2).2.1 (r.2.1 2).2.2.1 ∈ xGw := ⟨(RX8, TX8, 12), rfl, by decide, rfl, xGw_in (List.mem_of_getElem? (i := 317) (by decide +kernel)) rfl⟩
theorem fX8_127 : xfl RX8 127 8 3 := ⟨(RX8, TX8, 12), rfl, by decide, Or.inl (xGw_in (List.mem_of_getElem? (i := 318) (by decide +kernel)) rfl)⟩
theorem fX8_25 : xfl RX8 25 8 4 := ⟨(RX8, TX8, 12), rfl, by decide, Or.inl (xGw_in (List.mem_of_getElem? (i := 319) (by decide +kernel)) rfl)⟩
theorem fX8_25F : ∃ r : vw_C, vwCl[8]? = some r ∧ 4 < r.2.2 ∧ (r.2.1 4).1 = RX8 ∧ Cond.fieldLink RX8 25 (r.2.1 4).1 (r.2.1 4).2.1 (r.2.1 4).2.2.1 ∈ xGw := ⟨(RX8, TX8, 12), rfl, by decide, rfl, xGw_in (List.mem_of_getElem? (i := 319) (by decide +kernel)) rfl⟩
theorem fX8_29 : xfl RX8 29 8 5 := ⟨(RX8, TX8, 12), rfl, by decide, Or.inl (xGw_in (List.mem_of_getElem? (i := 320) (by decide +kernel)) rfl)⟩
theorem fX8_29F : ∃ r : vw_C, vwCl[8]? = some r ∧ 5 < r.2.2 ∧ (r.2.1 5).1 = RX8 ∧ Cond.fieldLink RX8 29 (r.2.1 5).1 (r.2.1 5).2.1 (r.2.1 5).2.2.1 ∈ xGw := ⟨(RX8, TX8, 12), rfl, by decide, rfl, xGw_in (List.mem_of_getElem? (i := 320) (by decide +kernel)) rfl⟩
theorem fX8_34 : xfl RX8 34 8 6 := ⟨(RX8, TX8, 12), rfl, by decide, Or.inl (xGw_in (List.mem_of_getElem? (i := 321) (by decide +kernel)) rfl)⟩
theorem fX8_34F : ∃ r : vw_C, vwCl[8]? = some r ∧ 6 < r.2.2 ∧ (r.2.1 6).1 = RX8 ∧ Cond.fieldLink RX8 34 (r.2.1 6).1 (r.2.1 6).2.1 (r.2.1 6).2.2.1 ∈ xGw := ⟨(RX8, TX8, 12), rfl, by decide, rfl, xGw_in (List.mem_of_getElem? (i := 321) (by decide +kernel)) rfl⟩
theorem fX8_42 : xfl RX8 42 8 7 := ⟨(RX8, TX8, 12), rfl, by decide, Or.inl (xGw_in (List.mem_of_getElem? (i := 322) (by decide +kernel)) rfl)⟩
theorem fX8_42F : ∃ r : vw_C, vwCl[8]? = some r ∧ 7 < r.2.2 ∧ (r.2.1 7).1 = RX8 ∧ Cond.fieldLink RX8 42 (r.2.1 7).1 (r.2.1 7).2.1 (r.2.1 7).2.2.1 ∈ xGw := ⟨(RX8, TX8, 12), rfl, by decide, rfl, xGw_in (List.mem_of_getElem? (i := 322) (by decide +kernel)) rfl⟩
theorem fX8_49 : xfl RX8 49 8 8 := ⟨(RX8, TX8, 12), rfl, by decide, Or.inl (xGw_in (List.mem_of_getElem? (i := 323) (by decide +kernel)) rfl)⟩
theorem fX8_49F : ∃ r : vw_C, vwCl[8]? = some r ∧ 8 < r.2.2 ∧ (r.2.1 8).1 = RX8 ∧ Cond.fieldLink RX8 49 (r.2.1 8).1 (r.2.1 8).2.1 (r.2.1 8).2.2.1 ∈ xGw := ⟨(RX8, TX8, 12), rfl, by decide, rfl, xGw_in (List.mem_of_getElem? (i := 323) (by decide +kernel)) rfl⟩
theorem fX8_56 : xfl RX8 56 8 9 := ⟨(RX8, TX8, 12), rfl, by decide, Or.inl (xGw_in (List.mem_of_getElem? (i := 324) (by decide +kernel)) rfl)⟩
theorem fX8_56F : ∃ r : vw_C, vwCl[8]? = some r ∧ 9 < r.2.2 ∧ (r.2.1 9).1 = RX8 ∧ Cond.fieldLink RX8 56 (r.2.1 9).1 (r.2.1 9).2.1 (r.2.1 9).2.2.1 ∈ xGw := ⟨(RX8, TX8, 12), rfl, by decide, rfl, xGw_in (List.mem_of_getElem? (i := 324) (by decide +kernel)) rfl⟩
theorem fX8_63 : xfl RX8 63 8 10 := ⟨(RX8, TX8, 12), rfl, by decide, Or.inl (xGw_in (List.mem_of_getElem? (i := 325) (by decide +kernel)) rfl)⟩
theorem fX8_63F : ∃ r : vw_C, vwCl[8]? = some r ∧ 10 < r.2.2 ∧ (r.2.1 10).1 = RX8 ∧ Cond.fieldLink RX8 63 (r.2.1 10).1 (r.2.1 10).2.1 (r.2.1 10).2.2.1 ∈ xGw := ⟨(RX8, TX8, 12), rfl, by decide, rfl, xGw_in (List.mem_of_getElem? (i := 325) (by decide +kernel)) rfl⟩
theorem fX8_239 : xfl RX8 239 8 11 := ⟨(RX8, TX8, 12), rfl, by decide, Or.inl (xGw_in (List.mem_of_getElem? (i := 326) (by decide +kernel)) rfl)⟩
theorem lL_13 : xlk RL 13 mX8_draft := Or.inl (xGw_in (List.mem_of_getElem? (i := 352) (by decide +kernel)) rfl)
theorem lX8_67 : xlk RX8 67 mX8_isBelow := Or.inl (xGw_in (List.mem_of_getElem? (i := 356) (by decide +kernel)) rfl)
theorem lX8_71 : xlk RX8 71 mX2_begin := Or.inl (xGw_in (List.mem_of_getElem? (i := 359) (by decide +kernel)) rfl)
theorem lX8_74 : xlk RX8 74 mX2_title := Or.inl (xGw_in (List.mem_of_getElem? (i := 363) (by decide +kernel)) rfl)
theorem lL_18 : xlk RL 18 mX8_need := Or.inl (xGw_in (List.mem_of_getElem? (i := 367) (by decide +kernel)) rfl)
theorem lX8_82 : xlk RX8 82 mX2_needsName := Or.inl (xGw_in (List.mem_of_getElem? (i := 371) (by decide +kernel)) rfl)
theorem lX8_90 : xlk RX8 90 mX2_putNeed := Or.inl (xGw_in (List.mem_of_getElem? (i := 375) (by decide +kernel)) rfl)
theorem lL_23 : xlk RL 23 mX8_seal := Or.inl (xGw_in (List.mem_of_getElem? (i := 379) (by decide +kernel)) rfl)
theorem lX8_94 : xlk RX8 94 mX2_sealsGroup := Or.inl (xGw_in (List.mem_of_getElem? (i := 383) (by decide +kernel)) rfl)
theorem lX8_100 : xlk RX8 100 mX2_putSeal := Or.inl (xGw_in (List.mem_of_getElem? (i := 387) (by decide +kernel)) rfl)
theorem lL_28 : xlk RL 28 mX8_row := Or.inl (xGw_in (List.mem_of_getElem? (i := 391) (by decide +kernel)) rfl)
theorem lX8_103 : xlk RX8 103 mX2_rowOf := Or.inl (xGw_in (List.mem_of_getElem? (i := 395) (by decide +kernel)) rfl)
theorem lX8_110 : xlk RX8 110 mX2_putRow := Or.inl (xGw_in (List.mem_of_getElem? (i := 399) (by decide +kernel)) rfl)
theorem lL_33 : xlk RL 33 mX8_add := Or.inl (xGw_in (List.mem_of_getElem? (i := 403) (by decide +kernel)) rfl)
theorem lX8_114 : xlk RX8 114 mX8_hasRowInDraft := Or.inl (xGw_in (List.mem_of_getElem? (i := 407) (by decide +kernel)) rfl)
theorem lX8_118 : xlk RX8 118 mX2_pageLength := Or.inl (xGw_in (List.mem_of_getElem? (i := 411) (by decide +kernel)) rfl)
theorem lX2_62 : xlk RX2 62 mX8_isBelow := Or.inr ⟨"PackPost", xNw_in (List.mem_of_getElem? (i := 415) (by decide +kernel)) rfl⟩
theorem lX8_121 : xlk RX8 121 mX2_putByte := Or.inl (xGw_in (List.mem_of_getElem? (i := 416) (by decide +kernel)) rfl)
theorem lL_38 : xlk RL 38 mX8_again := Or.inl (xGw_in (List.mem_of_getElem? (i := 420) (by decide +kernel)) rfl)
theorem lX8_124 : xlk RX8 124 mX2_putCopies := Or.inl (xGw_in (List.mem_of_getElem? (i := 424) (by decide +kernel)) rfl)
theorem lX2_66 : xlk RX2 66 mX2_pageLength := Or.inl (xGw_in (List.mem_of_getElem? (i := 428) (by decide +kernel)) rfl)
theorem lX2_70 : xlk RX2 70 mX2_byteAt := Or.inl (xGw_in (List.mem_of_getElem? (i := 429) (by decide +kernel)) rfl)
theorem lX2_74 : xlk RX2 74 mX2_putByte := Or.inl (xGw_in (List.mem_of_getElem? (i := 433) (by decide +kernel)) rfl)
theorem lL_42 : xlk RL 42 mX8_pack := Or.inl (xGw_in (List.mem_of_getElem? (i := 434) (by decide +kernel)) rfl)
theorem lX8_130 : xlk RX8 130 mX6_write := Or.inl (xGw_in (List.mem_of_getElem? (i := 438) (by decide +kernel)) rfl)
theorem lX6_24 : xlk RX6 24 mX6_writeBody := Or.inl (xGw_in (List.mem_of_getElem? (i := 442) (by decide +kernel)) rfl)
theorem lX6_28 : xlk RX6 28 mX1_clear := Or.inl (xGw_in (List.mem_of_getElem? (i := 446) (by decide +kernel)) rfl)
theorem lX6_99 : xlk RX6 99 mX6_writePairs := Or.inl (xGw_in (List.mem_of_getElem? (i := 450) (by decide +kernel)) rfl)
theorem lX6_106 : xlk RX6 106 mX2_pageLength := Or.inl (xGw_in (List.mem_of_getElem? (i := 454) (by decide +kernel)) rfl)
theorem lX6_114 : xlk RX6 114 mX2_byteAt := Or.inl (xGw_in (List.mem_of_getElem? (i := 455) (by decide +kernel)) rfl)
theorem lX6_50 : xlk RX6 50 mX1_push := Or.inl (xGw_in (List.mem_of_getElem? (i := 456) (by decide +kernel)) rfl)
theorem lX6_103 : xlk RX6 103 mX6_writeOps := Or.inl (xGw_in (List.mem_of_getElem? (i := 460) (by decide +kernel)) rfl)
theorem lX6_117 : xlk RX6 117 mX6_searchMatch := Or.inl (xGw_in (List.mem_of_getElem? (i := 464) (by decide +kernel)) rfl)
theorem lX6_130 : xlk RX6 130 mJ9_min_7cf53 := Or.inl (xGw_in (List.mem_of_getElem? (i := 468) (by decide +kernel)) rfl)
theorem lX6_124 : xlk RX6 124 mX6_writePlainOps := Or.inl (xGw_in (List.mem_of_getElem? (i := 471) (by decide +kernel)) rfl)
theorem lX6_110 : xlk RX6 110 mX6_writePlain := Or.inl (xGw_in (List.mem_of_getElem? (i := 475) (by decide +kernel)) rfl)
theorem lX6_31 : xlk RX6 31 mX6_writeHead := Or.inl (xGw_in (List.mem_of_getElem? (i := 479) (by decide +kernel)) rfl)
theorem lX6_95 : xlk RX6 95 mX6_pushPair := Or.inl (xGw_in (List.mem_of_getElem? (i := 483) (by decide +kernel)) rfl)
theorem lX6_39 : xlk RX6 39 mX1_pushRange := Or.inl (xGw_in (List.mem_of_getElem? (i := 486) (by decide +kernel)) rfl)
theorem lX1_25 : xlk RX1 25 mX1_at := Or.inl (xGw_in (List.mem_of_getElem? (i := 490) (by decide +kernel)) rfl)
theorem lX1_29 : xlk RX1 29 mX1_push := Or.inl (xGw_in (List.mem_of_getElem? (i := 494) (by decide +kernel)) rfl)
theorem lX6_43 : xlk RX6 43 mX1_sum := Or.inl (xGw_in (List.mem_of_getElem? (i := 495) (by decide +kernel)) rfl)
theorem qX1_33 : Cond.constant RX1 33 16777619 ∈ xGw := xGw_in (List.mem_of_getElem? (i := 499) (by decide +kernel)) rfl
theorem lX6_47 : xlk RX6 47 mX1_pushNumber := Or.inl (xGw_in (List.mem_of_getElem? (i := 500) (by decide +kernel)) rfl)
theorem lX8_134 : xlk RX8 134 mX8_keepDesk := Or.inl (xGw_in (List.mem_of_getElem? (i := 504) (by decide +kernel)) rfl)
theorem lX8_301 : xlk RX8 301 mX1_part := Or.inl (xGw_in (List.mem_of_getElem? (i := 508) (by decide +kernel)) rfl)
theorem cX1_16 : Cond.classLink RX1 16 "PackPost$ByteRow" ∈ xGw := xGw_in (List.mem_of_getElem? (i := 512) (by decide +kernel)) rfl
theorem nX1_16 : xnl RX1 16 1 := ⟨(RX1, TX1, 2), rfl, cX1_16, xGw_in (List.mem_of_getElem? (i := 189) (by decide +kernel)) rfl, xGw_in (List.mem_of_getElem? (i := 83) (by decide +kernel)) rfl⟩
theorem lX1_38 : xlk RX1 38 mX1_init := Or.inl (xGw_in (List.mem_of_getElem? (i := 513) (by decide +kernel)) rfl)
theorem lX1_40 : xlk RX1 40 mX1_pushRange := Or.inl (xGw_in (List.mem_of_getElem? (i := 514) (by decide +kernel)) rfl)
theorem lL_46 : xlk RL 46 mX8_length := Or.inl (xGw_in (List.mem_of_getElem? (i := 515) (by decide +kernel)) rfl)
theorem lX8_138 : xlk RX8 138 mX8_packAt := Or.inl (xGw_in (List.mem_of_getElem? (i := 519) (by decide +kernel)) rfl)
theorem lL_50 : xlk RL 50 mX8_octet := Or.inl (xGw_in (List.mem_of_getElem? (i := 523) (by decide +kernel)) rfl)
theorem lX8_145 : xlk RX8 145 mX1_at := Or.inl (xGw_in (List.mem_of_getElem? (i := 527) (by decide +kernel)) rfl)
theorem lL_54 : xlk RL 54 mX8_spoil := Or.inl (xGw_in (List.mem_of_getElem? (i := 528) (by decide +kernel)) rfl)
theorem lX8_148 : xlk RX8 148 mX8_xorByte := Or.inl (xGw_in (List.mem_of_getElem? (i := 532) (by decide +kernel)) rfl)
theorem lX8_295 : xlk RX8 295 mX1_has := Or.inl (xGw_in (List.mem_of_getElem? (i := 535) (by decide +kernel)) rfl)
theorem lX8_298 : xlk RX8 298 mX1_xor := Or.inl (xGw_in (List.mem_of_getElem? (i := 539) (by decide +kernel)) rfl)
theorem lX1_34 : xlk RX1 34 mX1_has := Or.inl (xGw_in (List.mem_of_getElem? (i := 543) (by decide +kernel)) rfl)
theorem lL_58 : xlk RL 58 mX8_trim := Or.inl (xGw_in (List.mem_of_getElem? (i := 544) (by decide +kernel)) rfl)
theorem lX8_152 : xlk RX8 152 mX1_keepFirst := Or.inl (xGw_in (List.mem_of_getElem? (i := 548) (by decide +kernel)) rfl)
theorem lL_62 : xlk RL 62 mX8_check := Or.inl (xGw_in (List.mem_of_getElem? (i := 552) (by decide +kernel)) rfl)
theorem lX8_155 : xlk RX8 155 mX5_wrongPlace := Or.inl (xGw_in (List.mem_of_getElem? (i := 556) (by decide +kernel)) rfl)
theorem lX5_41 : xlk RX5 41 mX2_begin := Or.inl (xGw_in (List.mem_of_getElem? (i := 560) (by decide +kernel)) rfl)
theorem lX5_44 : xlk RX5 44 mX5_hearTitle := Or.inl (xGw_in (List.mem_of_getElem? (i := 561) (by decide +kernel)) rfl)
theorem lX5_84 : xlk RX5 84 mX5_next := Or.inl (xGw_in (List.mem_of_getElem? (i := 565) (by decide +kernel)) rfl)
theorem lX5_77 : xlk RX5 77 mX1_at := Or.inl (xGw_in (List.mem_of_getElem? (i := 569) (by decide +kernel)) rfl)
theorem lX5_87 : xlk RX5 87 mX2_title := Or.inl (xGw_in (List.mem_of_getElem? (i := 570) (by decide +kernel)) rfl)
theorem lX5_47 : xlk RX5 47 mX5_hearNeeds := Or.inl (xGw_in (List.mem_of_getElem? (i := 571) (by decide +kernel)) rfl)
theorem lX5_80 : xlk RX5 80 mX5_isFine := Or.inl (xGw_in (List.mem_of_getElem? (i := 575) (by decide +kernel)) rfl)
theorem lX5_91 : xlk RX5 91 mX2_needsName := Or.inl (xGw_in (List.mem_of_getElem? (i := 579) (by decide +kernel)) rfl)
theorem lX5_95 : xlk RX5 95 mX5_refuseAt := Or.inl (xGw_in (List.mem_of_getElem? (i := 580) (by decide +kernel)) rfl)
theorem lX5_98 : xlk RX5 98 mX2_putNeed := Or.inl (xGw_in (List.mem_of_getElem? (i := 584) (by decide +kernel)) rfl)
theorem lX5_50 : xlk RX5 50 mX5_hearSeals := Or.inl (xGw_in (List.mem_of_getElem? (i := 585) (by decide +kernel)) rfl)
theorem lX5_102 : xlk RX5 102 mX2_sealsGroup := Or.inl (xGw_in (List.mem_of_getElem? (i := 589) (by decide +kernel)) rfl)
theorem lX5_105 : xlk RX5 105 mX2_putSeal := Or.inl (xGw_in (List.mem_of_getElem? (i := 590) (by decide +kernel)) rfl)
theorem lX5_53 : xlk RX5 53 mX5_hearRows := Or.inl (xGw_in (List.mem_of_getElem? (i := 591) (by decide +kernel)) rfl)
theorem lX5_108 : xlk RX5 108 mX2_rowOf := Or.inl (xGw_in (List.mem_of_getElem? (i := 595) (by decide +kernel)) rfl)
theorem lX5_111 : xlk RX5 111 mX2_putRow := Or.inl (xGw_in (List.mem_of_getElem? (i := 596) (by decide +kernel)) rfl)
theorem lX5_115 : xlk RX5 115 mX5_hearPair := Or.inl (xGw_in (List.mem_of_getElem? (i := 597) (by decide +kernel)) rfl)
theorem lX5_56 : xlk RX5 56 mX5_hearPages := Or.inl (xGw_in (List.mem_of_getElem? (i := 601) (by decide +kernel)) rfl)
theorem lX5_124 : xlk RX5 124 mX5_hearPairs := Or.inl (xGw_in (List.mem_of_getElem? (i := 605) (by decide +kernel)) rfl)
theorem lX5_142 : xlk RX5 142 mX5_lacking := Or.inl (xGw_in (List.mem_of_getElem? (i := 609) (by decide +kernel)) rfl)
theorem lX5_133 : xlk RX5 133 mX2_pageLength := Or.inl (xGw_in (List.mem_of_getElem? (i := 613) (by decide +kernel)) rfl)
theorem lX5_145 : xlk RX5 145 mX2_putLike := Or.inl (xGw_in (List.mem_of_getElem? (i := 614) (by decide +kernel)) rfl)
theorem lX5_148 : xlk RX5 148 mX5_refuseIfLacking := Or.inl (xGw_in (List.mem_of_getElem? (i := 618) (by decide +kernel)) rfl)
theorem lX5_127 : xlk RX5 127 mX5_hearOps := Or.inl (xGw_in (List.mem_of_getElem? (i := 622) (by decide +kernel)) rfl)
theorem lX5_151 : xlk RX5 151 mX5_hearCopy := Or.inl (xGw_in (List.mem_of_getElem? (i := 626) (by decide +kernel)) rfl)
theorem lX5_154 : xlk RX5 154 mX2_putCopies := Or.inl (xGw_in (List.mem_of_getElem? (i := 630) (by decide +kernel)) rfl)
theorem lX5_136 : xlk RX5 136 mX5_hearPlain := Or.inl (xGw_in (List.mem_of_getElem? (i := 631) (by decide +kernel)) rfl)
theorem lX5_139 : xlk RX5 139 mX2_putByte := Or.inl (xGw_in (List.mem_of_getElem? (i := 635) (by decide +kernel)) rfl)
theorem lX5_130 : xlk RX5 130 mX5_hearPlainPage := Or.inl (xGw_in (List.mem_of_getElem? (i := 636) (by decide +kernel)) rfl)
theorem lX5_59 : xlk RX5 59 mX5_hearEnd := Or.inl (xGw_in (List.mem_of_getElem? (i := 640) (by decide +kernel)) rfl)
theorem lX5_73 : xlk RX5 73 mX1_sum := Or.inl (xGw_in (List.mem_of_getElem? (i := 644) (by decide +kernel)) rfl)
theorem lL_66 : xlk RL 66 mX8_signer := Or.inl (xGw_in (List.mem_of_getElem? (i := 645) (by decide +kernel)) rfl)
theorem lX8_159 : xlk RX8 159 mX5_isSignedBy := Or.inl (xGw_in (List.mem_of_getElem? (i := 649) (by decide +kernel)) rfl)
theorem lX5_69 : xlk RX5 69 mX1_number := Or.inl (xGw_in (List.mem_of_getElem? (i := 653) (by decide +kernel)) rfl)
theorem lL_70 : xlk RL 70 mX8_parts := Or.inl (xGw_in (List.mem_of_getElem? (i := 657) (by decide +kernel)) rfl)
theorem lX8_162 : xlk RX8 162 mX8_isPartSize := Or.inl (xGw_in (List.mem_of_getElem? (i := 661) (by decide +kernel)) rfl)
theorem lX8_165 : xlk RX8 165 mX8_partCount := Or.inl (xGw_in (List.mem_of_getElem? (i := 664) (by decide +kernel)) rfl)
theorem lL_74 : xlk RL 74 mX8_load := Or.inl (xGw_in (List.mem_of_getElem? (i := 667) (by decide +kernel)) rfl)
theorem lX8_169 : xlk RX8 169 mX1_clear := Or.inl (xGw_in (List.mem_of_getElem? (i := 671) (by decide +kernel)) rfl)
theorem lX8_172 : xlk RX8 172 mX1_push := Or.inl (xGw_in (List.mem_of_getElem? (i := 672) (by decide +kernel)) rfl)
theorem lX8_175 : xlk RX8 175 mJ9_min_7cf53 := Or.inl (xGw_in (List.mem_of_getElem? (i := 673) (by decide +kernel)) rfl)
theorem lX8_180 : xlk RX8 180 mX1_pushRange := Or.inl (xGw_in (List.mem_of_getElem? (i := 674) (by decide +kernel)) rfl)
theorem lX8_184 : xlk RX8 184 mX1_sum := Or.inl (xGw_in (List.mem_of_getElem? (i := 675) (by decide +kernel)) rfl)
theorem lX8_187 : xlk RX8 187 mX1_pushNumber := Or.inl (xGw_in (List.mem_of_getElem? (i := 676) (by decide +kernel)) rfl)
theorem lL_78 : xlk RL 78 mX8_tape := Or.inl (xGw_in (List.mem_of_getElem? (i := 677) (by decide +kernel)) rfl)
theorem lL_82 : xlk RL 82 mX8_bend := Or.inl (xGw_in (List.mem_of_getElem? (i := 681) (by decide +kernel)) rfl)
theorem lL_86 : xlk RL 86 mX8_take := Or.inl (xGw_in (List.mem_of_getElem? (i := 685) (by decide +kernel)) rfl)
theorem lX8_190 : xlk RX8 190 mX8_bookAt := Or.inl (xGw_in (List.mem_of_getElem? (i := 689) (by decide +kernel)) rfl)
theorem lX8_194 : xlk RX8 194 mX8_isReelSpoiled := Or.inl (xGw_in (List.mem_of_getElem? (i := 693) (by decide +kernel)) rfl)
theorem lX8_305 : xlk RX8 305 mX1_number := Or.inl (xGw_in (List.mem_of_getElem? (i := 697) (by decide +kernel)) rfl)
theorem lX8_200 : xlk RX8 200 mX0_hasPart := Or.inl (xGw_in (List.mem_of_getElem? (i := 698) (by decide +kernel)) rfl)
theorem lX0_17 : xlk RX0 17 mX8_isBelow := Or.inr ⟨"PackPost", xNw_in (List.mem_of_getElem? (i := 702) (by decide +kernel)) rfl⟩
theorem lX8_206 : xlk RX8 206 mX0_putPart := Or.inl (xGw_in (List.mem_of_getElem? (i := 703) (by decide +kernel)) rfl)
theorem lX0_25 : xlk RX0 25 mX1_part := Or.inl (xGw_in (List.mem_of_getElem? (i := 707) (by decide +kernel)) rfl)
theorem lX8_213 : xlk RX8 213 mX0_joinOnto := Or.inl (xGw_in (List.mem_of_getElem? (i := 708) (by decide +kernel)) rfl)
theorem lX0_38 : xlk RX0 38 mX1_clear := Or.inl (xGw_in (List.mem_of_getElem? (i := 712) (by decide +kernel)) rfl)
theorem lX0_41 : xlk RX0 41 mX1_pushRange := Or.inl (xGw_in (List.mem_of_getElem? (i := 713) (by decide +kernel)) rfl)
theorem lX8_217 : xlk RX8 217 mX0_clear := Or.inl (xGw_in (List.mem_of_getElem? (i := 714) (by decide +kernel)) rfl)
theorem lL_91 : xlk RL 91 mX8_book := Or.inl (xGw_in (List.mem_of_getElem? (i := 718) (by decide +kernel)) rfl)
theorem lL_95 : xlk RL 95 mX8_drop := Or.inl (xGw_in (List.mem_of_getElem? (i := 722) (by decide +kernel)) rfl)
theorem lL_99 : xlk RL 99 mX8_open := Or.inl (xGw_in (List.mem_of_getElem? (i := 726) (by decide +kernel)) rfl)
theorem lX8_219 : xlk RX8 219 mX8_refuse := Or.inl (xGw_in (List.mem_of_getElem? (i := 730) (by decide +kernel)) rfl)
theorem lX8_225 : xlk RX8 225 mX7_firstUnmet := Or.inl (xGw_in (List.mem_of_getElem? (i := 734) (by decide +kernel)) rfl)
theorem lX7_26 : xlk RX7 26 mX7_meeting := Or.inl (xGw_in (List.mem_of_getElem? (i := 738) (by decide +kernel)) rfl)
theorem lX7_34 : xlk RX7 34 mX7_at := Or.inl (xGw_in (List.mem_of_getElem? (i := 742) (by decide +kernel)) rfl)
theorem lX7_73 : xlk RX7 73 mX7_suits := Or.inl (xGw_in (List.mem_of_getElem? (i := 746) (by decide +kernel)) rfl)
theorem lX7_80 : xlk RX7 80 mX8_isBelow := Or.inr ⟨"PackPost", xNw_in (List.mem_of_getElem? (i := 749) (by decide +kernel)) rfl⟩
theorem lX8_229 : xlk RX8 229 mX7_leastSealed := Or.inl (xGw_in (List.mem_of_getElem? (i := 750) (by decide +kernel)) rfl)
theorem lX7_30 : xlk RX7 30 mX7_seenBy := Or.inl (xGw_in (List.mem_of_getElem? (i := 754) (by decide +kernel)) rfl)
theorem lX7_38 : xlk RX7 38 mX7_isBetween := Or.inl (xGw_in (List.mem_of_getElem? (i := 758) (by decide +kernel)) rfl)
theorem lX7_97 : xlk RX7 97 mX2_sealsGroup := Or.inl (xGw_in (List.mem_of_getElem? (i := 761) (by decide +kernel)) rfl)
theorem lX7_100 : xlk RX7 100 mX2_hasRowOfGroup := Or.inl (xGw_in (List.mem_of_getElem? (i := 762) (by decide +kernel)) rfl)
theorem lX8_232 : xlk RX8 232 mX5_handOver := Or.inl (xGw_in (List.mem_of_getElem? (i := 766) (by decide +kernel)) rfl)
theorem lX8_236 : xlk RX8 236 mX7_put := Or.inl (xGw_in (List.mem_of_getElem? (i := 770) (by decide +kernel)) rfl)
theorem lX7_42 : xlk RX7 42 mX3_init := Or.inl (xGw_in (List.mem_of_getElem? (i := 775) (by decide +kernel)) rfl)
theorem oX3 : ∀ w ∈ [Cond.methodLink RX3 3 objectInit, Cond.instanceMethod objectInit, Cond.code objectInit ⟨#[0xb1]⟩ 1 none], w ∈ xGw := xwords _ [778, 98, 99] (by decide +kernel) (by decide +kernel)
theorem fX3_15 : xfl RX3 15 3 0 := ⟨(RX3, TX3, 6), rfl, by decide, Or.inl (xGw_in (List.mem_of_getElem? (i := 779) (by decide +kernel)) rfl)⟩
theorem fX3_15F : ∃ r : vw_C, vwCl[3]? = some r ∧ 0 < r.2.2 ∧ (r.2.1 0).1 = RX3 ∧ Cond.fieldLink RX3 15 (r.2.1 0).1 (r.2.1 0).2.1 (r.2.1 0).2.2.1 ∈ xGw := ⟨(RX3, TX3, 6), rfl, by decide, rfl, xGw_in (List.mem_of_getElem? (i := 779) (by decide +kernel)) rfl⟩
theorem fX4_43 : xfl RX4 43 3 0 := ⟨(RX3, TX3, 6), rfl, by decide, Or.inr ⟨"PackPost", xNw_in (List.mem_of_getElem? (i := 780) (by decide +kernel)) rfl⟩⟩
theorem fX7_56 : xfl RX7 56 3 0 := ⟨(RX3, TX3, 6), rfl, by decide, Or.inr ⟨"PackPost", xNw_in (List.mem_of_getElem? (i := 781) (by decide +kernel)) rfl⟩⟩
theorem fX8_245 : xfl RX8 245 3 0 := ⟨(RX3, TX3, 6), rfl, by decide, Or.inr ⟨"PackPost", xNw_in (List.mem_of_getElem? (i := 782) (by decide +kernel)) rfl⟩⟩
theorem fX3_19 : xfl RX3 19 3 1 := ⟨(RX3, TX3, 6), rfl, by decide, Or.inl (xGw_in (List.mem_of_getElem? (i := 783) (by decide +kernel)) rfl)⟩
theorem fX3_19F : ∃ r : vw_C, vwCl[3]? = some r ∧ 1 < r.2.2 ∧ (r.2.1 1).1 = RX3 ∧ Cond.fieldLink RX3 19 (r.2.1 1).1 (r.2.1 1).2.1 (r.2.1 1).2.2.1 ∈ xGw := ⟨(RX3, TX3, 6), rfl, by decide, rfl, xGw_in (List.mem_of_getElem? (i := 783) (by decide +kernel)) rfl⟩
theorem fX3_22 : xfl RX3 22 3 2 := ⟨(RX3, TX3, 6), rfl, by decide, Or.inl (xGw_in (List.mem_of_getElem? (i := 784) (by decide +kernel)) rfl)⟩
theorem fX3_22F : ∃ r : vw_C, vwCl[3]? = some r ∧ 2 < r.2.2 ∧ (r.2.1 2).1 = RX3 ∧ Cond.fieldLink RX3 22 (r.2.1 2).1 (r.2.1 2).2.1 (r.2.1 2).2.2.1 ∈ xGw := ⟨(RX3, TX3, 6), rfl, by decide, rfl, xGw_in (List.mem_of_getElem? (i := 784) (by decide +kernel)) rfl⟩
theorem fX7_94 : xfl RX7 94 3 2 := ⟨(RX3, TX3, 6), rfl, by decide, Or.inr ⟨"PackPost", xNw_in (List.mem_of_getElem? (i := 785) (by decide +kernel)) rfl⟩⟩
theorem fX4_37 : xfl RX4 37 3 3 := ⟨(RX3, TX3, 6), rfl, by decide, Or.inr ⟨"PackPost", xNw_in (List.mem_of_getElem? (i := 786) (by decide +kernel)) rfl⟩⟩
theorem fX7_69 : xfl RX7 69 3 3 := ⟨(RX3, TX3, 6), rfl, by decide, Or.inr ⟨"PackPost", xNw_in (List.mem_of_getElem? (i := 787) (by decide +kernel)) rfl⟩⟩
theorem fX8_257 : xfl RX8 257 3 3 := ⟨(RX3, TX3, 6), rfl, by decide, Or.inr ⟨"PackPost", xNw_in (List.mem_of_getElem? (i := 788) (by decide +kernel)) rfl⟩⟩
theorem fX3_9 : xfl RX3 9 3 4 := ⟨(RX3, TX3, 6), rfl, by decide, Or.inl (xGw_in (List.mem_of_getElem? (i := 789) (by decide +kernel)) rfl)⟩
theorem fX3_9F : ∃ r : vw_C, vwCl[3]? = some r ∧ 4 < r.2.2 ∧ (r.2.1 4).1 = RX3 ∧ Cond.fieldLink RX3 9 (r.2.1 4).1 (r.2.1 4).2.1 (r.2.1 4).2.2.1 ∈ xGw := ⟨(RX3, TX3, 6), rfl, by decide, rfl, xGw_in (List.mem_of_getElem? (i := 789) (by decide +kernel)) rfl⟩
theorem fX7_48 : xfl RX7 48 3 4 := ⟨(RX3, TX3, 6), rfl, by decide, Or.inr ⟨"PackPost", xNw_in (List.mem_of_getElem? (i := 790) (by decide +kernel)) rfl⟩⟩
theorem fX3_35 : xfl RX3 35 3 5 := ⟨(RX3, TX3, 6), rfl, by decide, Or.inl (xGw_in (List.mem_of_getElem? (i := 791) (by decide +kernel)) rfl)⟩
theorem fX7_45 : xfl RX7 45 3 5 := ⟨(RX3, TX3, 6), rfl, by decide, Or.inr ⟨"PackPost", xNw_in (List.mem_of_getElem? (i := 792) (by decide +kernel)) rfl⟩⟩
theorem fX8_260 : xfl RX8 260 3 5 := ⟨(RX3, TX3, 6), rfl, by decide, Or.inr ⟨"PackPost", xNw_in (List.mem_of_getElem? (i := 793) (by decide +kernel)) rfl⟩⟩
theorem lL_103 : xlk RL 103 mX8_why := Or.inl (xGw_in (List.mem_of_getElem? (i := 807) (by decide +kernel)) rfl)
theorem lL_107 : xlk RL 107 mX8_entry := Or.inl (xGw_in (List.mem_of_getElem? (i := 811) (by decide +kernel)) rfl)
theorem lX8_242 : xlk RX8 242 mX7_at := Or.inl (xGw_in (List.mem_of_getElem? (i := 815) (by decide +kernel)) rfl)
theorem lX8_263 : xlk RX8 263 mX3_meeting := Or.inl (xGw_in (List.mem_of_getElem? (i := 816) (by decide +kernel)) rfl)
theorem lL_111 : xlk RL 111 mX8_close := Or.inl (xGw_in (List.mem_of_getElem? (i := 820) (by decide +kernel)) rfl)
theorem lX8_266 : xlk RX8 266 mX8_setClosed := Or.inl (xGw_in (List.mem_of_getElem? (i := 824) (by decide +kernel)) rfl)
theorem lL_115 : xlk RL 115 mX8_reopen := Or.inl (xGw_in (List.mem_of_getElem? (i := 828) (by decide +kernel)) rfl)
theorem lL_119 : xlk RL 119 mX8_overlay := Or.inl (xGw_in (List.mem_of_getElem? (i := 832) (by decide +kernel)) rfl)
theorem lX8_270 : xlk RX8 270 mX3_hasOverlay := Or.inl (xGw_in (List.mem_of_getElem? (i := 836) (by decide +kernel)) rfl)
theorem lX8_273 : xlk RX8 273 mX3_putOverlay := Or.inl (xGw_in (List.mem_of_getElem? (i := 840) (by decide +kernel)) rfl)
theorem lL_123 : xlk RL 123 mX8_find := Or.inl (xGw_in (List.mem_of_getElem? (i := 844) (by decide +kernel)) rfl)
theorem lX8_276 : xlk RX8 276 mX4_from := Or.inl (xGw_in (List.mem_of_getElem? (i := 848) (by decide +kernel)) rfl)
theorem lX4_23 : xlk RX4 23 mX4_ask := Or.inl (xGw_in (List.mem_of_getElem? (i := 852) (by decide +kernel)) rfl)
theorem lX4_31 : xlk RX4 31 mX7_at := Or.inl (xGw_in (List.mem_of_getElem? (i := 856) (by decide +kernel)) rfl)
theorem lX4_27 : xlk RX4 27 mX8_isBelow := Or.inr ⟨"PackPost", xNw_in (List.mem_of_getElem? (i := 857) (by decide +kernel)) rfl⟩
theorem lX4_52 : xlk RX4 52 mX4_looksInto := Or.inl (xGw_in (List.mem_of_getElem? (i := 858) (by decide +kernel)) rfl)
theorem lX4_63 : xlk RX4 63 mX3_hasRowOf := Or.inl (xGw_in (List.mem_of_getElem? (i := 862) (by decide +kernel)) rfl)
theorem lX3_38 : xlk RX3 38 mX2_rowOf := Or.inl (xGw_in (List.mem_of_getElem? (i := 866) (by decide +kernel)) rfl)
theorem lX4_59 : xlk RX4 59 mX3_meeting := Or.inl (xGw_in (List.mem_of_getElem? (i := 867) (by decide +kernel)) rfl)
theorem lL_127 : xlk RL 127 mX8_path := Or.inl (xGw_in (List.mem_of_getElem? (i := 868) (by decide +kernel)) rfl)
theorem lX8_280 : xlk RX8 280 mX4_step := Or.inl (xGw_in (List.mem_of_getElem? (i := 872) (by decide +kernel)) rfl)
theorem lL_131 : xlk RL 131 mX8_page := Or.inl (xGw_in (List.mem_of_getElem? (i := 876) (by decide +kernel)) rfl)
theorem lX8_283 : xlk RX8 283 mX8_pageEntry := Or.inl (xGw_in (List.mem_of_getElem? (i := 880) (by decide +kernel)) rfl)
theorem lX8_308 : xlk RX8 308 mX7_overlayWith := Or.inl (xGw_in (List.mem_of_getElem? (i := 884) (by decide +kernel)) rfl)
theorem lX7_52 : xlk RX7 52 mX3_hasRowOf := Or.inl (xGw_in (List.mem_of_getElem? (i := 888) (by decide +kernel)) rfl)
theorem lL_135 : xlk RL 135 mX8_read := Or.inl (xGw_in (List.mem_of_getElem? (i := 889) (by decide +kernel)) rfl)
theorem lX8_286 : xlk RX8 286 mX2_byteAt := Or.inl (xGw_in (List.mem_of_getElem? (i := 893) (by decide +kernel)) rfl)
theorem lL_139 : xlk RL 139 mX8_edition := Or.inl (xGw_in (List.mem_of_getElem? (i := 894) (by decide +kernel)) rfl)
theorem lX8_289 : xlk RX8 289 mX7_ranked := Or.inl (xGw_in (List.mem_of_getElem? (i := 898) (by decide +kernel)) rfl)
theorem lX7_63 : xlk RX7 63 mX7_countAhead := Or.inl (xGw_in (List.mem_of_getElem? (i := 902) (by decide +kernel)) rfl)
theorem lL_143 : xlk RL 143 mX8_needed := Or.inl (xGw_in (List.mem_of_getElem? (i := 906) (by decide +kernel)) rfl)
theorem lX8_292 : xlk RX8 292 mX7_leaning := Or.inl (xGw_in (List.mem_of_getElem? (i := 910) (by decide +kernel)) rfl)
theorem lX7_66 : xlk RX7 66 mX3_leansOn := Or.inl (xGw_in (List.mem_of_getElem? (i := 914) (by decide +kernel)) rfl)
theorem lX3_31 : xlk RX3 31 mX3_meeting := Or.inl (xGw_in (List.mem_of_getElem? (i := 918) (by decide +kernel)) rfl)
theorem cL_10 : Cond.classLink RL 10 "PackPostModel" ∈ xGw := xGw_in (List.mem_of_getElem? (i := 919) (by decide +kernel)) rfl
theorem nL_10 : xnl RL 10 9 := ⟨(RX9, TX9, 57), rfl, cL_10, xGw_in (List.mem_of_getElem? (i := 920) (by decide +kernel)) rfl, xGw_in (List.mem_of_getElem? (i := 90) (by decide +kernel)) rfl⟩
theorem lL_12 : xlk RL 12 mX9_init := Or.inl (xGw_in (List.mem_of_getElem? (i := 921) (by decide +kernel)) rfl)
theorem oX9 : ∀ w ∈ [Cond.methodLink RX9 1 objectInit, Cond.instanceMethod objectInit, Cond.code objectInit ⟨#[0xb1]⟩ 1 none], w ∈ xGw := xwords _ [924, 98, 99] (by decide +kernel) (by decide +kernel)
theorem qX9_49 : Cond.constant RX9 49 140800 ∈ xGw := xGw_in (List.mem_of_getElem? (i := 925) (by decide +kernel)) rfl
theorem fX9_125 : xfl RX9 125 9 0 := ⟨(RX9, TX9, 57), rfl, by decide, Or.inl (xGw_in (List.mem_of_getElem? (i := 926) (by decide +kernel)) rfl)⟩
theorem fX9_129 : xfl RX9 129 9 1 := ⟨(RX9, TX9, 57), rfl, by decide, Or.inl (xGw_in (List.mem_of_getElem? (i := 927) (by decide +kernel)) rfl)⟩
theorem fX9_133 : xfl RX9 133 9 2 := ⟨(RX9, TX9, 57), rfl, by decide, Or.inl (xGw_in (List.mem_of_getElem? (i := 928) (by decide +kernel)) rfl)⟩
theorem fX9_136 : xfl RX9 136 9 3 := ⟨(RX9, TX9, 57), rfl, by decide, Or.inl (xGw_in (List.mem_of_getElem? (i := 929) (by decide +kernel)) rfl)⟩
theorem fX9_139 : xfl RX9 139 9 4 := ⟨(RX9, TX9, 57), rfl, by decide, Or.inl (xGw_in (List.mem_of_getElem? (i := 930) (by decide +kernel)) rfl)⟩
theorem fX9_7 : xfl RX9 7 9 5 := ⟨(RX9, TX9, 57), rfl, by decide, Or.inl (xGw_in (List.mem_of_getElem? (i := 931) (by decide +kernel)) rfl)⟩
theorem fX9_7F : ∃ r : vw_C, vwCl[9]? = some r ∧ 5 < r.2.2 ∧ (r.2.1 5).1 = RX9 ∧ Cond.fieldLink RX9 7 (r.2.1 5).1 (r.2.1 5).2.1 (r.2.1 5).2.2.1 ∈ xGw := ⟨(RX9, TX9, 57), rfl, by decide, rfl, xGw_in (List.mem_of_getElem? (i := 931) (by decide +kernel)) rfl⟩
theorem fX9_13 : xfl RX9 13 9 6 := ⟨(RX9, TX9, 57), rfl, by decide, Or.inl (xGw_in (List.mem_of_getElem? (i := 932) (by decide +kernel)) rfl)⟩
theorem fX9_13F : ∃ r : vw_C, vwCl[9]? = some r ∧ 6 < r.2.2 ∧ (r.2.1 6).1 = RX9 ∧ Cond.fieldLink RX9 13 (r.2.1 6).1 (r.2.1 6).2.1 (r.2.1 6).2.2.1 ∈ xGw := ⟨(RX9, TX9, 57), rfl, by decide, rfl, xGw_in (List.mem_of_getElem? (i := 932) (by decide +kernel)) rfl⟩
theorem fX9_16 : xfl RX9 16 9 7 := ⟨(RX9, TX9, 57), rfl, by decide, Or.inl (xGw_in (List.mem_of_getElem? (i := 933) (by decide +kernel)) rfl)⟩
theorem fX9_16F : ∃ r : vw_C, vwCl[9]? = some r ∧ 7 < r.2.2 ∧ (r.2.1 7).1 = RX9 ∧ Cond.fieldLink RX9 16 (r.2.1 7).1 (r.2.1 7).2.1 (r.2.1 7).2.2.1 ∈ xGw := ⟨(RX9, TX9, 57), rfl, by decide, rfl, xGw_in (List.mem_of_getElem? (i := 933) (by decide +kernel)) rfl⟩
theorem fX9_142 : xfl RX9 142 9 8 := ⟨(RX9, TX9, 57), rfl, by decide, Or.inl (xGw_in (List.mem_of_getElem? (i := 934) (by decide +kernel)) rfl)⟩
theorem fX9_19 : xfl RX9 19 9 9 := ⟨(RX9, TX9, 57), rfl, by decide, Or.inl (xGw_in (List.mem_of_getElem? (i := 935) (by decide +kernel)) rfl)⟩
theorem fX9_19F : ∃ r : vw_C, vwCl[9]? = some r ∧ 9 < r.2.2 ∧ (r.2.1 9).1 = RX9 ∧ Cond.fieldLink RX9 19 (r.2.1 9).1 (r.2.1 9).2.1 (r.2.1 9).2.2.1 ∈ xGw := ⟨(RX9, TX9, 57), rfl, by decide, rfl, xGw_in (List.mem_of_getElem? (i := 935) (by decide +kernel)) rfl⟩
theorem fX9_145 : xfl RX9 145 9 10 := ⟨(RX9, TX9, 57), rfl, by decide, Or.inl (xGw_in (List.mem_of_getElem? (i := 936) (by decide +kernel)) rfl)⟩
theorem fX9_22 : xfl RX9 22 9 11 := ⟨(RX9, TX9, 57), rfl, by decide, Or.inl (xGw_in (List.mem_of_getElem? (i := 937) (by decide +kernel)) rfl)⟩
theorem fX9_22F : ∃ r : vw_C, vwCl[9]? = some r ∧ 11 < r.2.2 ∧ (r.2.1 11).1 = RX9 ∧ Cond.fieldLink RX9 22 (r.2.1 11).1 (r.2.1 11).2.1 (r.2.1 11).2.2.1 ∈ xGw := ⟨(RX9, TX9, 57), rfl, by decide, rfl, xGw_in (List.mem_of_getElem? (i := 937) (by decide +kernel)) rfl⟩
theorem fX9_25 : xfl RX9 25 9 12 := ⟨(RX9, TX9, 57), rfl, by decide, Or.inl (xGw_in (List.mem_of_getElem? (i := 938) (by decide +kernel)) rfl)⟩
theorem fX9_25F : ∃ r : vw_C, vwCl[9]? = some r ∧ 12 < r.2.2 ∧ (r.2.1 12).1 = RX9 ∧ Cond.fieldLink RX9 25 (r.2.1 12).1 (r.2.1 12).2.1 (r.2.1 12).2.2.1 ∈ xGw := ⟨(RX9, TX9, 57), rfl, by decide, rfl, xGw_in (List.mem_of_getElem? (i := 938) (by decide +kernel)) rfl⟩
theorem fX9_28 : xfl RX9 28 9 13 := ⟨(RX9, TX9, 57), rfl, by decide, Or.inl (xGw_in (List.mem_of_getElem? (i := 939) (by decide +kernel)) rfl)⟩
theorem fX9_28F : ∃ r : vw_C, vwCl[9]? = some r ∧ 13 < r.2.2 ∧ (r.2.1 13).1 = RX9 ∧ Cond.fieldLink RX9 28 (r.2.1 13).1 (r.2.1 13).2.1 (r.2.1 13).2.2.1 ∈ xGw := ⟨(RX9, TX9, 57), rfl, by decide, rfl, xGw_in (List.mem_of_getElem? (i := 939) (by decide +kernel)) rfl⟩
theorem fX9_31 : xfl RX9 31 9 14 := ⟨(RX9, TX9, 57), rfl, by decide, Or.inl (xGw_in (List.mem_of_getElem? (i := 940) (by decide +kernel)) rfl)⟩
theorem fX9_31F : ∃ r : vw_C, vwCl[9]? = some r ∧ 14 < r.2.2 ∧ (r.2.1 14).1 = RX9 ∧ Cond.fieldLink RX9 31 (r.2.1 14).1 (r.2.1 14).2.1 (r.2.1 14).2.2.1 ∈ xGw := ⟨(RX9, TX9, 57), rfl, by decide, rfl, xGw_in (List.mem_of_getElem? (i := 940) (by decide +kernel)) rfl⟩
theorem fX9_34 : xfl RX9 34 9 15 := ⟨(RX9, TX9, 57), rfl, by decide, Or.inl (xGw_in (List.mem_of_getElem? (i := 941) (by decide +kernel)) rfl)⟩
theorem fX9_34F : ∃ r : vw_C, vwCl[9]? = some r ∧ 15 < r.2.2 ∧ (r.2.1 15).1 = RX9 ∧ Cond.fieldLink RX9 34 (r.2.1 15).1 (r.2.1 15).2.1 (r.2.1 15).2.2.1 ∈ xGw := ⟨(RX9, TX9, 57), rfl, by decide, rfl, xGw_in (List.mem_of_getElem? (i := 941) (by decide +kernel)) rfl⟩
theorem fX9_160 : xfl RX9 160 9 16 := ⟨(RX9, TX9, 57), rfl, by decide, Or.inl (xGw_in (List.mem_of_getElem? (i := 942) (by decide +kernel)) rfl)⟩
theorem fX9_37 : xfl RX9 37 9 17 := ⟨(RX9, TX9, 57), rfl, by decide, Or.inl (xGw_in (List.mem_of_getElem? (i := 943) (by decide +kernel)) rfl)⟩
theorem fX9_37F : ∃ r : vw_C, vwCl[9]? = some r ∧ 17 < r.2.2 ∧ (r.2.1 17).1 = RX9 ∧ Cond.fieldLink RX9 37 (r.2.1 17).1 (r.2.1 17).2.1 (r.2.1 17).2.2.1 ∈ xGw := ⟨(RX9, TX9, 57), rfl, by decide, rfl, xGw_in (List.mem_of_getElem? (i := 943) (by decide +kernel)) rfl⟩
theorem fX9_171 : xfl RX9 171 9 18 := ⟨(RX9, TX9, 57), rfl, by decide, Or.inl (xGw_in (List.mem_of_getElem? (i := 944) (by decide +kernel)) rfl)⟩
theorem fX9_208 : xfl RX9 208 9 19 := ⟨(RX9, TX9, 57), rfl, by decide, Or.inl (xGw_in (List.mem_of_getElem? (i := 945) (by decide +kernel)) rfl)⟩
theorem fX9_40 : xfl RX9 40 9 20 := ⟨(RX9, TX9, 57), rfl, by decide, Or.inl (xGw_in (List.mem_of_getElem? (i := 946) (by decide +kernel)) rfl)⟩
theorem fX9_40F : ∃ r : vw_C, vwCl[9]? = some r ∧ 20 < r.2.2 ∧ (r.2.1 20).1 = RX9 ∧ Cond.fieldLink RX9 40 (r.2.1 20).1 (r.2.1 20).2.1 (r.2.1 20).2.2.1 ∈ xGw := ⟨(RX9, TX9, 57), rfl, by decide, rfl, xGw_in (List.mem_of_getElem? (i := 946) (by decide +kernel)) rfl⟩
theorem fX9_43 : xfl RX9 43 9 21 := ⟨(RX9, TX9, 57), rfl, by decide, Or.inl (xGw_in (List.mem_of_getElem? (i := 947) (by decide +kernel)) rfl)⟩
theorem fX9_43F : ∃ r : vw_C, vwCl[9]? = some r ∧ 21 < r.2.2 ∧ (r.2.1 21).1 = RX9 ∧ Cond.fieldLink RX9 43 (r.2.1 21).1 (r.2.1 21).2.1 (r.2.1 21).2.2.1 ∈ xGw := ⟨(RX9, TX9, 57), rfl, by decide, rfl, xGw_in (List.mem_of_getElem? (i := 947) (by decide +kernel)) rfl⟩
theorem fX9_224 : xfl RX9 224 9 22 := ⟨(RX9, TX9, 57), rfl, by decide, Or.inl (xGw_in (List.mem_of_getElem? (i := 948) (by decide +kernel)) rfl)⟩
theorem fX9_218 : xfl RX9 218 9 23 := ⟨(RX9, TX9, 57), rfl, by decide, Or.inl (xGw_in (List.mem_of_getElem? (i := 949) (by decide +kernel)) rfl)⟩
theorem fX9_221 : xfl RX9 221 9 24 := ⟨(RX9, TX9, 57), rfl, by decide, Or.inl (xGw_in (List.mem_of_getElem? (i := 950) (by decide +kernel)) rfl)⟩
theorem fX9_239 : xfl RX9 239 9 25 := ⟨(RX9, TX9, 57), rfl, by decide, Or.inl (xGw_in (List.mem_of_getElem? (i := 951) (by decide +kernel)) rfl)⟩
theorem fX9_246 : xfl RX9 246 9 26 := ⟨(RX9, TX9, 57), rfl, by decide, Or.inl (xGw_in (List.mem_of_getElem? (i := 952) (by decide +kernel)) rfl)⟩
theorem fX9_249 : xfl RX9 249 9 27 := ⟨(RX9, TX9, 57), rfl, by decide, Or.inl (xGw_in (List.mem_of_getElem? (i := 953) (by decide +kernel)) rfl)⟩
theorem fX9_252 : xfl RX9 252 9 28 := ⟨(RX9, TX9, 57), rfl, by decide, Or.inl (xGw_in (List.mem_of_getElem? (i := 954) (by decide +kernel)) rfl)⟩
theorem fX9_46 : xfl RX9 46 9 29 := ⟨(RX9, TX9, 57), rfl, by decide, Or.inl (xGw_in (List.mem_of_getElem? (i := 955) (by decide +kernel)) rfl)⟩
theorem fX9_46F : ∃ r : vw_C, vwCl[9]? = some r ∧ 29 < r.2.2 ∧ (r.2.1 29).1 = RX9 ∧ Cond.fieldLink RX9 46 (r.2.1 29).1 (r.2.1 29).2.1 (r.2.1 29).2.2.1 ∈ xGw := ⟨(RX9, TX9, 57), rfl, by decide, rfl, xGw_in (List.mem_of_getElem? (i := 955) (by decide +kernel)) rfl⟩
theorem fX9_282 : xfl RX9 282 9 30 := ⟨(RX9, TX9, 57), rfl, by decide, Or.inl (xGw_in (List.mem_of_getElem? (i := 956) (by decide +kernel)) rfl)⟩
theorem fX9_50 : xfl RX9 50 9 31 := ⟨(RX9, TX9, 57), rfl, by decide, Or.inl (xGw_in (List.mem_of_getElem? (i := 957) (by decide +kernel)) rfl)⟩
theorem fX9_50F : ∃ r : vw_C, vwCl[9]? = some r ∧ 31 < r.2.2 ∧ (r.2.1 31).1 = RX9 ∧ Cond.fieldLink RX9 50 (r.2.1 31).1 (r.2.1 31).2.1 (r.2.1 31).2.2.1 ∈ xGw := ⟨(RX9, TX9, 57), rfl, by decide, rfl, xGw_in (List.mem_of_getElem? (i := 957) (by decide +kernel)) rfl⟩
theorem fX9_54 : xfl RX9 54 9 32 := ⟨(RX9, TX9, 57), rfl, by decide, Or.inl (xGw_in (List.mem_of_getElem? (i := 958) (by decide +kernel)) rfl)⟩
theorem fX9_54F : ∃ r : vw_C, vwCl[9]? = some r ∧ 32 < r.2.2 ∧ (r.2.1 32).1 = RX9 ∧ Cond.fieldLink RX9 54 (r.2.1 32).1 (r.2.1 32).2.1 (r.2.1 32).2.2.1 ∈ xGw := ⟨(RX9, TX9, 57), rfl, by decide, rfl, xGw_in (List.mem_of_getElem? (i := 958) (by decide +kernel)) rfl⟩
theorem fX9_57 : xfl RX9 57 9 33 := ⟨(RX9, TX9, 57), rfl, by decide, Or.inl (xGw_in (List.mem_of_getElem? (i := 959) (by decide +kernel)) rfl)⟩
theorem fX9_57F : ∃ r : vw_C, vwCl[9]? = some r ∧ 33 < r.2.2 ∧ (r.2.1 33).1 = RX9 ∧ Cond.fieldLink RX9 57 (r.2.1 33).1 (r.2.1 33).2.1 (r.2.1 33).2.2.1 ∈ xGw := ⟨(RX9, TX9, 57), rfl, by decide, rfl, xGw_in (List.mem_of_getElem? (i := 959) (by decide +kernel)) rfl⟩
theorem fX9_60 : xfl RX9 60 9 34 := ⟨(RX9, TX9, 57), rfl, by decide, Or.inl (xGw_in (List.mem_of_getElem? (i := 960) (by decide +kernel)) rfl)⟩
theorem fX9_60F : ∃ r : vw_C, vwCl[9]? = some r ∧ 34 < r.2.2 ∧ (r.2.1 34).1 = RX9 ∧ Cond.fieldLink RX9 60 (r.2.1 34).1 (r.2.1 34).2.1 (r.2.1 34).2.2.1 ∈ xGw := ⟨(RX9, TX9, 57), rfl, by decide, rfl, xGw_in (List.mem_of_getElem? (i := 960) (by decide +kernel)) rfl⟩
theorem fX9_300 : xfl RX9 300 9 35 := ⟨(RX9, TX9, 57), rfl, by decide, Or.inl (xGw_in (List.mem_of_getElem? (i := 961) (by decide +kernel)) rfl)⟩
theorem fX9_63 : xfl RX9 63 9 36 := ⟨(RX9, TX9, 57), rfl, by decide, Or.inl (xGw_in (List.mem_of_getElem? (i := 962) (by decide +kernel)) rfl)⟩
theorem fX9_63F : ∃ r : vw_C, vwCl[9]? = some r ∧ 36 < r.2.2 ∧ (r.2.1 36).1 = RX9 ∧ Cond.fieldLink RX9 63 (r.2.1 36).1 (r.2.1 36).2.1 (r.2.1 36).2.2.1 ∈ xGw := ⟨(RX9, TX9, 57), rfl, by decide, rfl, xGw_in (List.mem_of_getElem? (i := 962) (by decide +kernel)) rfl⟩
theorem fX9_66 : xfl RX9 66 9 37 := ⟨(RX9, TX9, 57), rfl, by decide, Or.inl (xGw_in (List.mem_of_getElem? (i := 963) (by decide +kernel)) rfl)⟩
theorem fX9_66F : ∃ r : vw_C, vwCl[9]? = some r ∧ 37 < r.2.2 ∧ (r.2.1 37).1 = RX9 ∧ Cond.fieldLink RX9 66 (r.2.1 37).1 (r.2.1 37).2.1 (r.2.1 37).2.2.1 ∈ xGw := ⟨(RX9, TX9, 57), rfl, by decide, rfl, xGw_in (List.mem_of_getElem? (i := 963) (by decide +kernel)) rfl⟩
theorem fX9_69 : xfl RX9 69 9 38 := ⟨(RX9, TX9, 57), rfl, by decide, Or.inl (xGw_in (List.mem_of_getElem? (i := 964) (by decide +kernel)) rfl)⟩
theorem fX9_69F : ∃ r : vw_C, vwCl[9]? = some r ∧ 38 < r.2.2 ∧ (r.2.1 38).1 = RX9 ∧ Cond.fieldLink RX9 69 (r.2.1 38).1 (r.2.1 38).2.1 (r.2.1 38).2.2.1 ∈ xGw := ⟨(RX9, TX9, 57), rfl, by decide, rfl, xGw_in (List.mem_of_getElem? (i := 964) (by decide +kernel)) rfl⟩
theorem fX9_72 : xfl RX9 72 9 39 := ⟨(RX9, TX9, 57), rfl, by decide, Or.inl (xGw_in (List.mem_of_getElem? (i := 965) (by decide +kernel)) rfl)⟩
theorem fX9_72F : ∃ r : vw_C, vwCl[9]? = some r ∧ 39 < r.2.2 ∧ (r.2.1 39).1 = RX9 ∧ Cond.fieldLink RX9 72 (r.2.1 39).1 (r.2.1 39).2.1 (r.2.1 39).2.2.1 ∈ xGw := ⟨(RX9, TX9, 57), rfl, by decide, rfl, xGw_in (List.mem_of_getElem? (i := 965) (by decide +kernel)) rfl⟩
theorem fX9_76 : xfl RX9 76 9 40 := ⟨(RX9, TX9, 57), rfl, by decide, Or.inl (xGw_in (List.mem_of_getElem? (i := 966) (by decide +kernel)) rfl)⟩
theorem fX9_76F : ∃ r : vw_C, vwCl[9]? = some r ∧ 40 < r.2.2 ∧ (r.2.1 40).1 = RX9 ∧ Cond.fieldLink RX9 76 (r.2.1 40).1 (r.2.1 40).2.1 (r.2.1 40).2.2.1 ∈ xGw := ⟨(RX9, TX9, 57), rfl, by decide, rfl, xGw_in (List.mem_of_getElem? (i := 966) (by decide +kernel)) rfl⟩
theorem fX9_79 : xfl RX9 79 9 41 := ⟨(RX9, TX9, 57), rfl, by decide, Or.inl (xGw_in (List.mem_of_getElem? (i := 967) (by decide +kernel)) rfl)⟩
theorem fX9_79F : ∃ r : vw_C, vwCl[9]? = some r ∧ 41 < r.2.2 ∧ (r.2.1 41).1 = RX9 ∧ Cond.fieldLink RX9 79 (r.2.1 41).1 (r.2.1 41).2.1 (r.2.1 41).2.2.1 ∈ xGw := ⟨(RX9, TX9, 57), rfl, by decide, rfl, xGw_in (List.mem_of_getElem? (i := 967) (by decide +kernel)) rfl⟩
theorem fX9_82 : xfl RX9 82 9 42 := ⟨(RX9, TX9, 57), rfl, by decide, Or.inl (xGw_in (List.mem_of_getElem? (i := 968) (by decide +kernel)) rfl)⟩
theorem fX9_82F : ∃ r : vw_C, vwCl[9]? = some r ∧ 42 < r.2.2 ∧ (r.2.1 42).1 = RX9 ∧ Cond.fieldLink RX9 82 (r.2.1 42).1 (r.2.1 42).2.1 (r.2.1 42).2.2.1 ∈ xGw := ⟨(RX9, TX9, 57), rfl, by decide, rfl, xGw_in (List.mem_of_getElem? (i := 968) (by decide +kernel)) rfl⟩
theorem fX9_85 : xfl RX9 85 9 43 := ⟨(RX9, TX9, 57), rfl, by decide, Or.inl (xGw_in (List.mem_of_getElem? (i := 969) (by decide +kernel)) rfl)⟩
theorem fX9_85F : ∃ r : vw_C, vwCl[9]? = some r ∧ 43 < r.2.2 ∧ (r.2.1 43).1 = RX9 ∧ Cond.fieldLink RX9 85 (r.2.1 43).1 (r.2.1 43).2.1 (r.2.1 43).2.2.1 ∈ xGw := ⟨(RX9, TX9, 57), rfl, by decide, rfl, xGw_in (List.mem_of_getElem? (i := 969) (by decide +kernel)) rfl⟩
theorem fX9_88 : xfl RX9 88 9 44 := ⟨(RX9, TX9, 57), rfl, by decide, Or.inl (xGw_in (List.mem_of_getElem? (i := 970) (by decide +kernel)) rfl)⟩
theorem fX9_88F : ∃ r : vw_C, vwCl[9]? = some r ∧ 44 < r.2.2 ∧ (r.2.1 44).1 = RX9 ∧ Cond.fieldLink RX9 88 (r.2.1 44).1 (r.2.1 44).2.1 (r.2.1 44).2.2.1 ∈ xGw := ⟨(RX9, TX9, 57), rfl, by decide, rfl, xGw_in (List.mem_of_getElem? (i := 970) (by decide +kernel)) rfl⟩
theorem fX9_91 : xfl RX9 91 9 45 := ⟨(RX9, TX9, 57), rfl, by decide, Or.inl (xGw_in (List.mem_of_getElem? (i := 971) (by decide +kernel)) rfl)⟩
theorem fX9_91F : ∃ r : vw_C, vwCl[9]? = some r ∧ 45 < r.2.2 ∧ (r.2.1 45).1 = RX9 ∧ Cond.fieldLink RX9 91 (r.2.1 45).1 (r.2.1 45).2.1 (r.2.1 45).2.2.1 ∈ xGw := ⟨(RX9, TX9, 57), rfl, by decide, rfl, xGw_in (List.mem_of_getElem? (i := 971) (by decide +kernel)) rfl⟩
theorem fX9_94 : xfl RX9 94 9 46 := ⟨(RX9, TX9, 57), rfl, by decide, Or.inl (xGw_in (List.mem_of_getElem? (i := 972) (by decide +kernel)) rfl)⟩
theorem fX9_94F : ∃ r : vw_C, vwCl[9]? = some r ∧ 46 < r.2.2 ∧ (r.2.1 46).1 = RX9 ∧ Cond.fieldLink RX9 94 (r.2.1 46).1 (r.2.1 46).2.1 (r.2.1 46).2.2.1 ∈ xGw := ⟨(RX9, TX9, 57), rfl, by decide, rfl, xGw_in (List.mem_of_getElem? (i := 972) (by decide +kernel)) rfl⟩
theorem fX9_97 : xfl RX9 97 9 47 := ⟨(RX9, TX9, 57), rfl, by decide, Or.inl (xGw_in (List.mem_of_getElem? (i := 973) (by decide +kernel)) rfl)⟩
theorem fX9_97F : ∃ r : vw_C, vwCl[9]? = some r ∧ 47 < r.2.2 ∧ (r.2.1 47).1 = RX9 ∧ Cond.fieldLink RX9 97 (r.2.1 47).1 (r.2.1 47).2.1 (r.2.1 47).2.2.1 ∈ xGw := ⟨(RX9, TX9, 57), rfl, by decide, rfl, xGw_in (List.mem_of_getElem? (i := 973) (by decide +kernel)) rfl⟩
theorem fX9_100 : xfl RX9 100 9 48 := ⟨(RX9, TX9, 57), rfl, by decide, Or.inl (xGw_in (List.mem_of_getElem? (i := 974) (by decide +kernel)) rfl)⟩
theorem fX9_100F : ∃ r : vw_C, vwCl[9]? = some r ∧ 48 < r.2.2 ∧ (r.2.1 48).1 = RX9 ∧ Cond.fieldLink RX9 100 (r.2.1 48).1 (r.2.1 48).2.1 (r.2.1 48).2.2.1 ∈ xGw := ⟨(RX9, TX9, 57), rfl, by decide, rfl, xGw_in (List.mem_of_getElem? (i := 974) (by decide +kernel)) rfl⟩
theorem fX9_103 : xfl RX9 103 9 49 := ⟨(RX9, TX9, 57), rfl, by decide, Or.inl (xGw_in (List.mem_of_getElem? (i := 975) (by decide +kernel)) rfl)⟩
theorem fX9_103F : ∃ r : vw_C, vwCl[9]? = some r ∧ 49 < r.2.2 ∧ (r.2.1 49).1 = RX9 ∧ Cond.fieldLink RX9 103 (r.2.1 49).1 (r.2.1 49).2.1 (r.2.1 49).2.2.1 ∈ xGw := ⟨(RX9, TX9, 57), rfl, by decide, rfl, xGw_in (List.mem_of_getElem? (i := 975) (by decide +kernel)) rfl⟩
theorem fX9_319 : xfl RX9 319 9 50 := ⟨(RX9, TX9, 57), rfl, by decide, Or.inl (xGw_in (List.mem_of_getElem? (i := 976) (by decide +kernel)) rfl)⟩
theorem fX9_106 : xfl RX9 106 9 51 := ⟨(RX9, TX9, 57), rfl, by decide, Or.inl (xGw_in (List.mem_of_getElem? (i := 977) (by decide +kernel)) rfl)⟩
theorem fX9_106F : ∃ r : vw_C, vwCl[9]? = some r ∧ 51 < r.2.2 ∧ (r.2.1 51).1 = RX9 ∧ Cond.fieldLink RX9 106 (r.2.1 51).1 (r.2.1 51).2.1 (r.2.1 51).2.2.1 ∈ xGw := ⟨(RX9, TX9, 57), rfl, by decide, rfl, xGw_in (List.mem_of_getElem? (i := 977) (by decide +kernel)) rfl⟩
theorem fX9_109 : xfl RX9 109 9 52 := ⟨(RX9, TX9, 57), rfl, by decide, Or.inl (xGw_in (List.mem_of_getElem? (i := 978) (by decide +kernel)) rfl)⟩
theorem fX9_109F : ∃ r : vw_C, vwCl[9]? = some r ∧ 52 < r.2.2 ∧ (r.2.1 52).1 = RX9 ∧ Cond.fieldLink RX9 109 (r.2.1 52).1 (r.2.1 52).2.1 (r.2.1 52).2.2.1 ∈ xGw := ⟨(RX9, TX9, 57), rfl, by decide, rfl, xGw_in (List.mem_of_getElem? (i := 978) (by decide +kernel)) rfl⟩
theorem fX9_112 : xfl RX9 112 9 53 := ⟨(RX9, TX9, 57), rfl, by decide, Or.inl (xGw_in (List.mem_of_getElem? (i := 979) (by decide +kernel)) rfl)⟩
theorem fX9_112F : ∃ r : vw_C, vwCl[9]? = some r ∧ 53 < r.2.2 ∧ (r.2.1 53).1 = RX9 ∧ Cond.fieldLink RX9 112 (r.2.1 53).1 (r.2.1 53).2.1 (r.2.1 53).2.2.1 ∈ xGw := ⟨(RX9, TX9, 57), rfl, by decide, rfl, xGw_in (List.mem_of_getElem? (i := 979) (by decide +kernel)) rfl⟩
theorem fX9_115 : xfl RX9 115 9 54 := ⟨(RX9, TX9, 57), rfl, by decide, Or.inl (xGw_in (List.mem_of_getElem? (i := 980) (by decide +kernel)) rfl)⟩
theorem fX9_115F : ∃ r : vw_C, vwCl[9]? = some r ∧ 54 < r.2.2 ∧ (r.2.1 54).1 = RX9 ∧ Cond.fieldLink RX9 115 (r.2.1 54).1 (r.2.1 54).2.1 (r.2.1 54).2.2.1 ∈ xGw := ⟨(RX9, TX9, 57), rfl, by decide, rfl, xGw_in (List.mem_of_getElem? (i := 980) (by decide +kernel)) rfl⟩
theorem fX9_118 : xfl RX9 118 9 55 := ⟨(RX9, TX9, 57), rfl, by decide, Or.inl (xGw_in (List.mem_of_getElem? (i := 981) (by decide +kernel)) rfl)⟩
theorem fX9_118F : ∃ r : vw_C, vwCl[9]? = some r ∧ 55 < r.2.2 ∧ (r.2.1 55).1 = RX9 ∧ Cond.fieldLink RX9 118 (r.2.1 55).1 (r.2.1 55).2.1 (r.2.1 55).2.2.1 ∈ xGw := ⟨(RX9, TX9, 57), rfl, by decide, rfl, xGw_in (List.mem_of_getElem? (i := 981) (by decide +kernel)) rfl⟩
theorem fX9_334 : xfl RX9 334 9 56 := ⟨(RX9, TX9, 57), rfl, by decide, Or.inl (xGw_in (List.mem_of_getElem? (i := 982) (by decide +kernel)) rfl)⟩
theorem a_10 : Cond.arrayClass (xtag 10) ∈ xGw := xGw_in (List.mem_of_getElem? (i := 1098) (by decide +kernel)) rfl
theorem lL_17 : xlk RL 17 mX9_draft := Or.inl (xGw_in (List.mem_of_getElem? (i := 1099) (by decide +kernel)) rfl)
theorem lX9_121 : xlk RX9 121 mX9_in := Or.inl (xGw_in (List.mem_of_getElem? (i := 1103) (by decide +kernel)) rfl)
theorem lL_22 : xlk RL 22 mX9_need := Or.inl (xGw_in (List.mem_of_getElem? (i := 1106) (by decide +kernel)) rfl)
theorem lX9_148 : xlk RX9 148 mX9_has := Or.inl (xGw_in (List.mem_of_getElem? (i := 1110) (by decide +kernel)) rfl)
theorem lL_27 : xlk RL 27 mX9_seal := Or.inl (xGw_in (List.mem_of_getElem? (i := 1113) (by decide +kernel)) rfl)
theorem lL_32 : xlk RL 32 mX9_row := Or.inl (xGw_in (List.mem_of_getElem? (i := 1117) (by decide +kernel)) rfl)
theorem lL_37 : xlk RL 37 mX9_add := Or.inl (xGw_in (List.mem_of_getElem? (i := 1121) (by decide +kernel)) rfl)
theorem lX9_152 : xlk RX9 152 mX9_one := Or.inl (xGw_in (List.mem_of_getElem? (i := 1125) (by decide +kernel)) rfl)
theorem lX9_156 : xlk RX9 156 mX9_addByte := Or.inl (xGw_in (List.mem_of_getElem? (i := 1128) (by decide +kernel)) rfl)
theorem lL_41 : xlk RL 41 mX9_again := Or.inl (xGw_in (List.mem_of_getElem? (i := 1132) (by decide +kernel)) rfl)
theorem lL_45 : xlk RL 45 mX9_pack := Or.inl (xGw_in (List.mem_of_getElem? (i := 1136) (by decide +kernel)) rfl)
theorem lX9_198 : xlk RX9 198 mX9_writeHead := Or.inl (xGw_in (List.mem_of_getElem? (i := 1140) (by decide +kernel)) rfl)
theorem lX9_164 : xlk RX9 164 mX9_write := Or.inl (xGw_in (List.mem_of_getElem? (i := 1144) (by decide +kernel)) rfl)
theorem lX9_195 : xlk RX9 195 mX9_squeezeRow := Or.inl (xGw_in (List.mem_of_getElem? (i := 1148) (by decide +kernel)) rfl)
theorem lX9_189 : xlk RX9 189 mX9_writePairs := Or.inl (xGw_in (List.mem_of_getElem? (i := 1152) (by decide +kernel)) rfl)
theorem lX9_174 : xlk RX9 174 mX9_squeeze := Or.inl (xGw_in (List.mem_of_getElem? (i := 1156) (by decide +kernel)) rfl)
theorem lX9_192 : xlk RX9 192 mX9_writeOps := Or.inl (xGw_in (List.mem_of_getElem? (i := 1160) (by decide +kernel)) rfl)
theorem lX9_181 : xlk RX9 181 mX9_bestBack := Or.inl (xGw_in (List.mem_of_getElem? (i := 1164) (by decide +kernel)) rfl)
theorem lX9_177 : xlk RX9 177 mX9_likeAhead := Or.inl (xGw_in (List.mem_of_getElem? (i := 1168) (by decide +kernel)) rfl)
theorem lX9_185 : xlk RX9 185 mX9_writePlain := Or.inl (xGw_in (List.mem_of_getElem? (i := 1172) (by decide +kernel)) rfl)
theorem lX9_201 : xlk RX9 201 mX9_writtenSum := Or.inl (xGw_in (List.mem_of_getElem? (i := 1176) (by decide +kernel)) rfl)
theorem lX9_167 : xlk RX9 167 mX9_go := Or.inl (xGw_in (List.mem_of_getElem? (i := 1180) (by decide +kernel)) rfl)
theorem qX9_163 : Cond.constant RX9 163 16777619 ∈ xGw := xGw_in (List.mem_of_getElem? (i := 1183) (by decide +kernel)) rfl
theorem lX9_205 : xlk RX9 205 mX9_writeFour := Or.inl (xGw_in (List.mem_of_getElem? (i := 1184) (by decide +kernel)) rfl)
theorem lL_49 : xlk RL 49 mX9_length := Or.inl (xGw_in (List.mem_of_getElem? (i := 1188) (by decide +kernel)) rfl)
theorem lX9_211 : xlk RX9 211 mX9_isPack := Or.inl (xGw_in (List.mem_of_getElem? (i := 1192) (by decide +kernel)) rfl)
theorem lL_53 : xlk RL 53 mX9_octet := Or.inl (xGw_in (List.mem_of_getElem? (i := 1196) (by decide +kernel)) rfl)
theorem lX9_215 : xlk RX9 215 mX9_isOctet := Or.inl (xGw_in (List.mem_of_getElem? (i := 1200) (by decide +kernel)) rfl)
theorem lL_57 : xlk RL 57 mX9_spoil := Or.inl (xGw_in (List.mem_of_getElem? (i := 1204) (by decide +kernel)) rfl)
theorem lL_61 : xlk RL 61 mX9_trim := Or.inl (xGw_in (List.mem_of_getElem? (i := 1208) (by decide +kernel)) rfl)
theorem lL_65 : xlk RL 65 mX9_check := Or.inl (xGw_in (List.mem_of_getElem? (i := 1212) (by decide +kernel)) rfl)
theorem lX9_277 : xlk RX9 277 mX9_wrong := Or.inl (xGw_in (List.mem_of_getElem? (i := 1216) (by decide +kernel)) rfl)
theorem lX9_258 : xlk RX9 258 mX9_readHead := Or.inl (xGw_in (List.mem_of_getElem? (i := 1220) (by decide +kernel)) rfl)
theorem lX9_236 : xlk RX9 236 mX9_exactly := Or.inl (xGw_in (List.mem_of_getElem? (i := 1224) (by decide +kernel)) rfl)
theorem lX9_230 : xlk RX9 230 mX9_want := Or.inl (xGw_in (List.mem_of_getElem? (i := 1228) (by decide +kernel)) rfl)
theorem lX9_227 : xlk RX9 227 mX9_here := Or.inl (xGw_in (List.mem_of_getElem? (i := 1232) (by decide +kernel)) rfl)
theorem lX9_242 : xlk RX9 242 mX9_wantNew := Or.inl (xGw_in (List.mem_of_getElem? (i := 1236) (by decide +kernel)) rfl)
theorem lX9_233 : xlk RX9 233 mX9_came := Or.inl (xGw_in (List.mem_of_getElem? (i := 1240) (by decide +kernel)) rfl)
theorem lX9_255 : xlk RX9 255 mX9_wantTwo := Or.inl (xGw_in (List.mem_of_getElem? (i := 1244) (by decide +kernel)) rfl)
theorem lX9_261 : xlk RX9 261 mX9_readPlain := Or.inl (xGw_in (List.mem_of_getElem? (i := 1248) (by decide +kernel)) rfl)
theorem lX9_264 : xlk RX9 264 mX9_readPairs := Or.inl (xGw_in (List.mem_of_getElem? (i := 1252) (by decide +kernel)) rfl)
theorem lX9_267 : xlk RX9 267 mX9_readOps := Or.inl (xGw_in (List.mem_of_getElem? (i := 1256) (by decide +kernel)) rfl)
theorem lX9_270 : xlk RX9 270 mX9_sumOf := Or.inl (xGw_in (List.mem_of_getElem? (i := 1260) (by decide +kernel)) rfl)
theorem lX9_273 : xlk RX9 273 mX9_isSigned := Or.inl (xGw_in (List.mem_of_getElem? (i := 1264) (by decide +kernel)) rfl)
theorem lL_69 : xlk RL 69 mX9_signer := Or.inl (xGw_in (List.mem_of_getElem? (i := 1268) (by decide +kernel)) rfl)
theorem lL_73 : xlk RL 73 mX9_parts := Or.inl (xGw_in (List.mem_of_getElem? (i := 1272) (by decide +kernel)) rfl)
theorem lL_77 : xlk RL 77 mX9_load := Or.inl (xGw_in (List.mem_of_getElem? (i := 1276) (by decide +kernel)) rfl)
theorem lX9_280 : xlk RX9 280 mX9_parts := Or.inl (xGw_in (List.mem_of_getElem? (i := 1280) (by decide +kernel)) rfl)
theorem lX9_285 : xlk RX9 285 mX9_tapeSum := Or.inl (xGw_in (List.mem_of_getElem? (i := 1281) (by decide +kernel)) rfl)
theorem lL_81 : xlk RL 81 mX9_tape := Or.inl (xGw_in (List.mem_of_getElem? (i := 1285) (by decide +kernel)) rfl)
theorem lL_85 : xlk RL 85 mX9_bend := Or.inl (xGw_in (List.mem_of_getElem? (i := 1289) (by decide +kernel)) rfl)
theorem lL_90 : xlk RL 90 mX9_take := Or.inl (xGw_in (List.mem_of_getElem? (i := 1293) (by decide +kernel)) rfl)
theorem lX9_291 : xlk RX9 291 mX9_isSpoiled := Or.inl (xGw_in (List.mem_of_getElem? (i := 1297) (by decide +kernel)) rfl)
theorem lX9_294 : xlk RX9 294 mX9_bookLength := Or.inl (xGw_in (List.mem_of_getElem? (i := 1301) (by decide +kernel)) rfl)
theorem lX9_297 : xlk RX9 297 mX9_join := Or.inl (xGw_in (List.mem_of_getElem? (i := 1305) (by decide +kernel)) rfl)
theorem lX9_288 : xlk RX9 288 mX9_emptyBook := Or.inl (xGw_in (List.mem_of_getElem? (i := 1309) (by decide +kernel)) rfl)
theorem lL_94 : xlk RL 94 mX9_book := Or.inl (xGw_in (List.mem_of_getElem? (i := 1313) (by decide +kernel)) rfl)
theorem lL_98 : xlk RL 98 mX9_drop := Or.inl (xGw_in (List.mem_of_getElem? (i := 1317) (by decide +kernel)) rfl)
theorem lL_102 : xlk RL 102 mX9_open := Or.inl (xGw_in (List.mem_of_getElem? (i := 1321) (by decide +kernel)) rfl)
theorem lX9_322 : xlk RX9 322 mX9_signer := Or.inl (xGw_in (List.mem_of_getElem? (i := 1325) (by decide +kernel)) rfl)
theorem lX9_325 : xlk RX9 325 mX9_layDown := Or.inl (xGw_in (List.mem_of_getElem? (i := 1326) (by decide +kernel)) rfl)
theorem lX9_311 : xlk RX9 311 mX9_unpack := Or.inl (xGw_in (List.mem_of_getElem? (i := 1330) (by decide +kernel)) rfl)
theorem lX9_315 : xlk RX9 315 mX9_meeting := Or.inl (xGw_in (List.mem_of_getElem? (i := 1334) (by decide +kernel)) rfl)
theorem lX9_328 : xlk RX9 328 mX9_sealedGroup := Or.inl (xGw_in (List.mem_of_getElem? (i := 1338) (by decide +kernel)) rfl)
theorem lX9_303 : xlk RX9 303 mX9_findSeen := Or.inl (xGw_in (List.mem_of_getElem? (i := 1342) (by decide +kernel)) rfl)
theorem lX9_306 : xlk RX9 306 mX9_seals := Or.inl (xGw_in (List.mem_of_getElem? (i := 1346) (by decide +kernel)) rfl)
theorem lX9_308 : xlk RX9 308 mX9_hasRowOf := Or.inl (xGw_in (List.mem_of_getElem? (i := 1350) (by decide +kernel)) rfl)
theorem lL_106 : xlk RL 106 mX9_why := Or.inl (xGw_in (List.mem_of_getElem? (i := 1354) (by decide +kernel)) rfl)
theorem lL_110 : xlk RL 110 mX9_entry := Or.inl (xGw_in (List.mem_of_getElem? (i := 1358) (by decide +kernel)) rfl)
theorem lX9_331 : xlk RX9 331 mX9_isEntry := Or.inl (xGw_in (List.mem_of_getElem? (i := 1362) (by decide +kernel)) rfl)
theorem lL_114 : xlk RL 114 mX9_close := Or.inl (xGw_in (List.mem_of_getElem? (i := 1366) (by decide +kernel)) rfl)
theorem lL_118 : xlk RL 118 mX9_reopen := Or.inl (xGw_in (List.mem_of_getElem? (i := 1370) (by decide +kernel)) rfl)
theorem lL_122 : xlk RL 122 mX9_overlay := Or.inl (xGw_in (List.mem_of_getElem? (i := 1374) (by decide +kernel)) rfl)
theorem lL_126 : xlk RL 126 mX9_find := Or.inl (xGw_in (List.mem_of_getElem? (i := 1378) (by decide +kernel)) rfl)
theorem lX9_343 : xlk RX9 343 mX9_ask := Or.inl (xGw_in (List.mem_of_getElem? (i := 1382) (by decide +kernel)) rfl)
theorem lX9_340 : xlk RX9 340 mX9_looks := Or.inl (xGw_in (List.mem_of_getElem? (i := 1386) (by decide +kernel)) rfl)
theorem lX9_337 : xlk RX9 337 mX9_rowOf := Or.inl (xGw_in (List.mem_of_getElem? (i := 1390) (by decide +kernel)) rfl)
theorem lL_130 : xlk RL 130 mX9_path := Or.inl (xGw_in (List.mem_of_getElem? (i := 1394) (by decide +kernel)) rfl)
theorem lL_134 : xlk RL 134 mX9_page := Or.inl (xGw_in (List.mem_of_getElem? (i := 1398) (by decide +kernel)) rfl)
theorem lL_138 : xlk RL 138 mX9_read := Or.inl (xGw_in (List.mem_of_getElem? (i := 1402) (by decide +kernel)) rfl)
theorem lX9_346 : xlk RX9 346 mX9_page := Or.inl (xGw_in (List.mem_of_getElem? (i := 1406) (by decide +kernel)) rfl)
theorem lL_142 : xlk RL 142 mX9_edition := Or.inl (xGw_in (List.mem_of_getElem? (i := 1407) (by decide +kernel)) rfl)
theorem lL_146 : xlk RL 146 mX9_needed := Or.inl (xGw_in (List.mem_of_getElem? (i := 1411) (by decide +kernel)) rfl)
end
section
theorem kX0_init : xml mX0_init 0 := ⟨xGw_in (List.mem_of_getElem? (i := 213) (by decide +kernel)) rfl, xGw_in (List.mem_of_getElem? (i := 85) (by decide +kernel)) rfl, ⟨by decide, by decide⟩, by decide +kernel, by decide⟩
theorem iX0_init : Cond.instanceMethod yX0_init ∈ xGw := xGw_in (List.mem_of_getElem? (i := 212) (by decide +kernel)) rfl
theorem kX0_hasPart : xml mX0_hasPart 1 := ⟨xGw_in (List.mem_of_getElem? (i := 701) (by decide +kernel)) rfl, xGw_in (List.mem_of_getElem? (i := 85) (by decide +kernel)) rfl, ⟨by decide, by decide⟩, by decide +kernel, by decide⟩
theorem iX0_hasPart : ∀ w ∈ [Cond.instanceMethod yX0_hasPart, Cond.selects yX0_hasPart.cls yX0_hasPart yX0_hasPart], w ∈ xGw := xwords _ [699, 700] (by decide +kernel) (by decide +kernel)
theorem kX0_putPart : xml mX0_putPart 3 := ⟨xGw_in (List.mem_of_getElem? (i := 706) (by decide +kernel)) rfl, xGw_in (List.mem_of_getElem? (i := 85) (by decide +kernel)) rfl, ⟨by decide, by decide⟩, by decide +kernel, by decide⟩
theorem iX0_putPart : ∀ w ∈ [Cond.instanceMethod yX0_putPart, Cond.selects yX0_putPart.cls yX0_putPart yX0_putPart], w ∈ xGw := xwords _ [704, 705] (by decide +kernel) (by decide +kernel)
theorem kX0_joinOnto : xml mX0_joinOnto 1 := ⟨xGw_in (List.mem_of_getElem? (i := 711) (by decide +kernel)) rfl, xGw_in (List.mem_of_getElem? (i := 85) (by decide +kernel)) rfl, ⟨by decide, by decide⟩, by decide +kernel, by decide⟩
theorem iX0_joinOnto : ∀ w ∈ [Cond.instanceMethod yX0_joinOnto, Cond.selects yX0_joinOnto.cls yX0_joinOnto yX0_joinOnto], w ∈ xGw := xwords _ [709, 710] (by decide +kernel) (by decide +kernel)
theorem kX0_clear : xml mX0_clear 0 := ⟨xGw_in (List.mem_of_getElem? (i := 717) (by decide +kernel)) rfl, xGw_in (List.mem_of_getElem? (i := 85) (by decide +kernel)) rfl, ⟨by decide, by decide⟩, by decide +kernel, by decide⟩
theorem iX0_clear : ∀ w ∈ [Cond.instanceMethod yX0_clear, Cond.selects yX0_clear.cls yX0_clear yX0_clear], w ∈ xGw := xwords _ [715, 716] (by decide +kernel) (by decide +kernel)
theorem kX1_init : xml mX1_init 1 := ⟨xGw_in (List.mem_of_getElem? (i := 192) (by decide +kernel)) rfl, xGw_in (List.mem_of_getElem? (i := 83) (by decide +kernel)) rfl, ⟨by decide, by decide⟩, by decide +kernel, by decide⟩
theorem iX1_init : Cond.instanceMethod yX1_init ∈ xGw := xGw_in (List.mem_of_getElem? (i := 191) (by decide +kernel)) rfl
theorem kX1_has : xml mX1_has 1 := ⟨xGw_in (List.mem_of_getElem? (i := 538) (by decide +kernel)) rfl, xGw_in (List.mem_of_getElem? (i := 83) (by decide +kernel)) rfl, ⟨by decide, by decide⟩, by decide +kernel, by decide⟩
theorem iX1_has : ∀ w ∈ [Cond.instanceMethod yX1_has, Cond.selects yX1_has.cls yX1_has yX1_has], w ∈ xGw := xwords _ [536, 537] (by decide +kernel) (by decide +kernel)
theorem kX1_at : xml mX1_at 1 := ⟨xGw_in (List.mem_of_getElem? (i := 493) (by decide +kernel)) rfl, xGw_in (List.mem_of_getElem? (i := 83) (by decide +kernel)) rfl, ⟨by decide, by decide⟩, by decide +kernel, by decide⟩
theorem iX1_at : ∀ w ∈ [Cond.instanceMethod yX1_at, Cond.selects yX1_at.cls yX1_at yX1_at], w ∈ xGw := xwords _ [491, 492] (by decide +kernel) (by decide +kernel)
theorem kX1_clear : xml mX1_clear 0 := ⟨xGw_in (List.mem_of_getElem? (i := 449) (by decide +kernel)) rfl, xGw_in (List.mem_of_getElem? (i := 83) (by decide +kernel)) rfl, ⟨by decide, by decide⟩, by decide +kernel, by decide⟩
theorem iX1_clear : ∀ w ∈ [Cond.instanceMethod yX1_clear, Cond.selects yX1_clear.cls yX1_clear yX1_clear], w ∈ xGw := xwords _ [447, 448] (by decide +kernel) (by decide +kernel)
theorem kX1_push : xml mX1_push 1 := ⟨xGw_in (List.mem_of_getElem? (i := 459) (by decide +kernel)) rfl, xGw_in (List.mem_of_getElem? (i := 83) (by decide +kernel)) rfl, ⟨by decide, by decide⟩, by decide +kernel, by decide⟩
theorem iX1_push : ∀ w ∈ [Cond.instanceMethod yX1_push, Cond.selects yX1_push.cls yX1_push yX1_push], w ∈ xGw := xwords _ [457, 458] (by decide +kernel) (by decide +kernel)
theorem kX1_pushRange : xml mX1_pushRange 3 := ⟨xGw_in (List.mem_of_getElem? (i := 489) (by decide +kernel)) rfl, xGw_in (List.mem_of_getElem? (i := 83) (by decide +kernel)) rfl, ⟨by decide, by decide⟩, by decide +kernel, by decide⟩
theorem iX1_pushRange : ∀ w ∈ [Cond.instanceMethod yX1_pushRange, Cond.selects yX1_pushRange.cls yX1_pushRange yX1_pushRange], w ∈ xGw := xwords _ [487, 488] (by decide +kernel) (by decide +kernel)
theorem kX1_pushNumber : xml mX1_pushNumber 1 := ⟨xGw_in (List.mem_of_getElem? (i := 503) (by decide +kernel)) rfl, xGw_in (List.mem_of_getElem? (i := 83) (by decide +kernel)) rfl, ⟨by decide, by decide⟩, by decide +kernel, by decide⟩
theorem iX1_pushNumber : ∀ w ∈ [Cond.instanceMethod yX1_pushNumber, Cond.selects yX1_pushNumber.cls yX1_pushNumber yX1_pushNumber], w ∈ xGw := xwords _ [501, 502] (by decide +kernel) (by decide +kernel)
theorem kX1_number : xml mX1_number 1 := ⟨xGw_in (List.mem_of_getElem? (i := 656) (by decide +kernel)) rfl, xGw_in (List.mem_of_getElem? (i := 83) (by decide +kernel)) rfl, ⟨by decide, by decide⟩, by decide +kernel, by decide⟩
theorem iX1_number : ∀ w ∈ [Cond.instanceMethod yX1_number, Cond.selects yX1_number.cls yX1_number yX1_number], w ∈ xGw := xwords _ [654, 655] (by decide +kernel) (by decide +kernel)
theorem kX1_sum : xml mX1_sum 2 := ⟨xGw_in (List.mem_of_getElem? (i := 498) (by decide +kernel)) rfl, xGw_in (List.mem_of_getElem? (i := 83) (by decide +kernel)) rfl, ⟨by decide, by decide⟩, by decide +kernel, by decide⟩
theorem iX1_sum : ∀ w ∈ [Cond.instanceMethod yX1_sum, Cond.selects yX1_sum.cls yX1_sum yX1_sum], w ∈ xGw := xwords _ [496, 497] (by decide +kernel) (by decide +kernel)
theorem kX1_xor : xml mX1_xor 2 := ⟨xGw_in (List.mem_of_getElem? (i := 542) (by decide +kernel)) rfl, xGw_in (List.mem_of_getElem? (i := 83) (by decide +kernel)) rfl, ⟨by decide, by decide⟩, by decide +kernel, by decide⟩
theorem iX1_xor : ∀ w ∈ [Cond.instanceMethod yX1_xor, Cond.selects yX1_xor.cls yX1_xor yX1_xor], w ∈ xGw := xwords _ [540, 541] (by decide +kernel) (by decide +kernel)
theorem kX1_keepFirst : xml mX1_keepFirst 1 := ⟨xGw_in (List.mem_of_getElem? (i := 551) (by decide +kernel)) rfl, xGw_in (List.mem_of_getElem? (i := 83) (by decide +kernel)) rfl, ⟨by decide, by decide⟩, by decide +kernel, by decide⟩
theorem iX1_keepFirst : ∀ w ∈ [Cond.instanceMethod yX1_keepFirst, Cond.selects yX1_keepFirst.cls yX1_keepFirst yX1_keepFirst], w ∈ xGw := xwords _ [549, 550] (by decide +kernel) (by decide +kernel)
theorem kX1_part : xml mX1_part 2 := ⟨xGw_in (List.mem_of_getElem? (i := 511) (by decide +kernel)) rfl, xGw_in (List.mem_of_getElem? (i := 83) (by decide +kernel)) rfl, ⟨by decide, by decide⟩, by decide +kernel, by decide⟩
theorem iX1_part : ∀ w ∈ [Cond.instanceMethod yX1_part, Cond.selects yX1_part.cls yX1_part yX1_part], w ∈ xGw := xwords _ [509, 510] (by decide +kernel) (by decide +kernel)
theorem kX2_init : xml mX2_init 0 := ⟨xGw_in (List.mem_of_getElem? (i := 104) (by decide +kernel)) rfl, xGw_in (List.mem_of_getElem? (i := 82) (by decide +kernel)) rfl, ⟨by decide, by decide⟩, by decide +kernel, by decide⟩
theorem iX2_init : Cond.instanceMethod yX2_init ∈ xGw := xGw_in (List.mem_of_getElem? (i := 103) (by decide +kernel)) rfl
theorem kX2_begin : xml mX2_begin 0 := ⟨xGw_in (List.mem_of_getElem? (i := 362) (by decide +kernel)) rfl, xGw_in (List.mem_of_getElem? (i := 82) (by decide +kernel)) rfl, ⟨by decide, by decide⟩, by decide +kernel, by decide⟩
theorem iX2_begin : ∀ w ∈ [Cond.instanceMethod yX2_begin, Cond.selects yX2_begin.cls yX2_begin yX2_begin], w ∈ xGw := xwords _ [360, 361] (by decide +kernel) (by decide +kernel)
theorem kX2_title : xml mX2_title 3 := ⟨xGw_in (List.mem_of_getElem? (i := 366) (by decide +kernel)) rfl, xGw_in (List.mem_of_getElem? (i := 82) (by decide +kernel)) rfl, ⟨by decide, by decide⟩, by decide +kernel, by decide⟩
theorem iX2_title : ∀ w ∈ [Cond.instanceMethod yX2_title, Cond.selects yX2_title.cls yX2_title yX2_title], w ∈ xGw := xwords _ [364, 365] (by decide +kernel) (by decide +kernel)
theorem kX2_needsName : xml mX2_needsName 1 := ⟨xGw_in (List.mem_of_getElem? (i := 374) (by decide +kernel)) rfl, xGw_in (List.mem_of_getElem? (i := 82) (by decide +kernel)) rfl, ⟨by decide, by decide⟩, by decide +kernel, by decide⟩
theorem iX2_needsName : ∀ w ∈ [Cond.instanceMethod yX2_needsName, Cond.selects yX2_needsName.cls yX2_needsName yX2_needsName], w ∈ xGw := xwords _ [372, 373] (by decide +kernel) (by decide +kernel)
theorem kX2_putNeed : xml mX2_putNeed 3 := ⟨xGw_in (List.mem_of_getElem? (i := 378) (by decide +kernel)) rfl, xGw_in (List.mem_of_getElem? (i := 82) (by decide +kernel)) rfl, ⟨by decide, by decide⟩, by decide +kernel, by decide⟩
theorem iX2_putNeed : ∀ w ∈ [Cond.instanceMethod yX2_putNeed, Cond.selects yX2_putNeed.cls yX2_putNeed yX2_putNeed], w ∈ xGw := xwords _ [376, 377] (by decide +kernel) (by decide +kernel)
theorem kX2_sealsGroup : xml mX2_sealsGroup 1 := ⟨xGw_in (List.mem_of_getElem? (i := 386) (by decide +kernel)) rfl, xGw_in (List.mem_of_getElem? (i := 82) (by decide +kernel)) rfl, ⟨by decide, by decide⟩, by decide +kernel, by decide⟩
theorem iX2_sealsGroup : ∀ w ∈ [Cond.instanceMethod yX2_sealsGroup, Cond.selects yX2_sealsGroup.cls yX2_sealsGroup yX2_sealsGroup], w ∈ xGw := xwords _ [384, 385] (by decide +kernel) (by decide +kernel)
theorem kX2_putSeal : xml mX2_putSeal 1 := ⟨xGw_in (List.mem_of_getElem? (i := 390) (by decide +kernel)) rfl, xGw_in (List.mem_of_getElem? (i := 82) (by decide +kernel)) rfl, ⟨by decide, by decide⟩, by decide +kernel, by decide⟩
theorem iX2_putSeal : ∀ w ∈ [Cond.instanceMethod yX2_putSeal, Cond.selects yX2_putSeal.cls yX2_putSeal yX2_putSeal], w ∈ xGw := xwords _ [388, 389] (by decide +kernel) (by decide +kernel)
theorem kX2_rowOf : xml mX2_rowOf 1 := ⟨xGw_in (List.mem_of_getElem? (i := 398) (by decide +kernel)) rfl, xGw_in (List.mem_of_getElem? (i := 82) (by decide +kernel)) rfl, ⟨by decide, by decide⟩, by decide +kernel, by decide⟩
theorem iX2_rowOf : ∀ w ∈ [Cond.instanceMethod yX2_rowOf, Cond.selects yX2_rowOf.cls yX2_rowOf yX2_rowOf], w ∈ xGw := xwords _ [396, 397] (by decide +kernel) (by decide +kernel)
theorem kX2_hasRowOfGroup : xml mX2_hasRowOfGroup 1 := ⟨xGw_in (List.mem_of_getElem? (i := 765) (by decide +kernel)) rfl, xGw_in (List.mem_of_getElem? (i := 82) (by decide +kernel)) rfl, ⟨by decide, by decide⟩, by decide +kernel, by decide⟩
theorem iX2_hasRowOfGroup : ∀ w ∈ [Cond.instanceMethod yX2_hasRowOfGroup, Cond.selects yX2_hasRowOfGroup.cls yX2_hasRowOfGroup yX2_hasRowOfGroup], w ∈ xGw := xwords _ [763, 764] (by decide +kernel) (by decide +kernel)
theorem kX2_putRow : xml mX2_putRow 2 := ⟨xGw_in (List.mem_of_getElem? (i := 402) (by decide +kernel)) rfl, xGw_in (List.mem_of_getElem? (i := 82) (by decide +kernel)) rfl, ⟨by decide, by decide⟩, by decide +kernel, by decide⟩
theorem iX2_putRow : ∀ w ∈ [Cond.instanceMethod yX2_putRow, Cond.selects yX2_putRow.cls yX2_putRow yX2_putRow], w ∈ xGw := xwords _ [400, 401] (by decide +kernel) (by decide +kernel)
theorem kX2_pageLength : xml mX2_pageLength 1 := ⟨xGw_in (List.mem_of_getElem? (i := 414) (by decide +kernel)) rfl, xGw_in (List.mem_of_getElem? (i := 82) (by decide +kernel)) rfl, ⟨by decide, by decide⟩, by decide +kernel, by decide⟩
theorem iX2_pageLength : ∀ w ∈ [Cond.instanceMethod yX2_pageLength, Cond.selects yX2_pageLength.cls yX2_pageLength yX2_pageLength], w ∈ xGw := xwords _ [412, 413] (by decide +kernel) (by decide +kernel)
theorem kX2_byteAt : xml mX2_byteAt 2 := ⟨xGw_in (List.mem_of_getElem? (i := 432) (by decide +kernel)) rfl, xGw_in (List.mem_of_getElem? (i := 82) (by decide +kernel)) rfl, ⟨by decide, by decide⟩, by decide +kernel, by decide⟩
theorem iX2_byteAt : ∀ w ∈ [Cond.instanceMethod yX2_byteAt, Cond.selects yX2_byteAt.cls yX2_byteAt yX2_byteAt], w ∈ xGw := xwords _ [430, 431] (by decide +kernel) (by decide +kernel)
theorem kX2_putByte : xml mX2_putByte 2 := ⟨xGw_in (List.mem_of_getElem? (i := 419) (by decide +kernel)) rfl, xGw_in (List.mem_of_getElem? (i := 82) (by decide +kernel)) rfl, ⟨by decide, by decide⟩, by decide +kernel, by decide⟩
theorem iX2_putByte : ∀ w ∈ [Cond.instanceMethod yX2_putByte, Cond.selects yX2_putByte.cls yX2_putByte yX2_putByte], w ∈ xGw := xwords _ [417, 418] (by decide +kernel) (by decide +kernel)
theorem kX2_putCopies : xml mX2_putCopies 3 := ⟨xGw_in (List.mem_of_getElem? (i := 427) (by decide +kernel)) rfl, xGw_in (List.mem_of_getElem? (i := 82) (by decide +kernel)) rfl, ⟨by decide, by decide⟩, by decide +kernel, by decide⟩
theorem iX2_putCopies : ∀ w ∈ [Cond.instanceMethod yX2_putCopies, Cond.selects yX2_putCopies.cls yX2_putCopies yX2_putCopies], w ∈ xGw := xwords _ [425, 426] (by decide +kernel) (by decide +kernel)
theorem kX2_putLike : xml mX2_putLike 3 := ⟨xGw_in (List.mem_of_getElem? (i := 617) (by decide +kernel)) rfl, xGw_in (List.mem_of_getElem? (i := 82) (by decide +kernel)) rfl, ⟨by decide, by decide⟩, by decide +kernel, by decide⟩
theorem iX2_putLike : ∀ w ∈ [Cond.instanceMethod yX2_putLike, Cond.selects yX2_putLike.cls yX2_putLike yX2_putLike], w ∈ xGw := xwords _ [615, 616] (by decide +kernel) (by decide +kernel)
theorem kX3_init : xml mX3_init 3 := ⟨xGw_in (List.mem_of_getElem? (i := 777) (by decide +kernel)) rfl, xGw_in (List.mem_of_getElem? (i := 91) (by decide +kernel)) rfl, ⟨by decide, by decide⟩, by decide +kernel, by decide⟩
theorem iX3_init : Cond.instanceMethod yX3_init ∈ xGw := xGw_in (List.mem_of_getElem? (i := 776) (by decide +kernel)) rfl
theorem kX3_meeting : xml mX3_meeting 1 := ⟨xGw_in (List.mem_of_getElem? (i := 819) (by decide +kernel)) rfl, xGw_in (List.mem_of_getElem? (i := 91) (by decide +kernel)) rfl, ⟨by decide, by decide⟩, by decide +kernel, by decide⟩
theorem iX3_meeting : ∀ w ∈ [Cond.instanceMethod yX3_meeting, Cond.selects yX3_meeting.cls yX3_meeting yX3_meeting], w ∈ xGw := xwords _ [817, 818] (by decide +kernel) (by decide +kernel)
theorem kX3_leansOn : xml mX3_leansOn 1 := ⟨xGw_in (List.mem_of_getElem? (i := 917) (by decide +kernel)) rfl, xGw_in (List.mem_of_getElem? (i := 91) (by decide +kernel)) rfl, ⟨by decide, by decide⟩, by decide +kernel, by decide⟩
theorem iX3_leansOn : ∀ w ∈ [Cond.instanceMethod yX3_leansOn, Cond.selects yX3_leansOn.cls yX3_leansOn yX3_leansOn], w ∈ xGw := xwords _ [915, 916] (by decide +kernel) (by decide +kernel)
theorem kX3_hasOverlay : xml mX3_hasOverlay 1 := ⟨xGw_in (List.mem_of_getElem? (i := 839) (by decide +kernel)) rfl, xGw_in (List.mem_of_getElem? (i := 91) (by decide +kernel)) rfl, ⟨by decide, by decide⟩, by decide +kernel, by decide⟩
theorem iX3_hasOverlay : ∀ w ∈ [Cond.instanceMethod yX3_hasOverlay, Cond.selects yX3_hasOverlay.cls yX3_hasOverlay yX3_hasOverlay], w ∈ xGw := xwords _ [837, 838] (by decide +kernel) (by decide +kernel)
theorem kX3_putOverlay : xml mX3_putOverlay 1 := ⟨xGw_in (List.mem_of_getElem? (i := 843) (by decide +kernel)) rfl, xGw_in (List.mem_of_getElem? (i := 91) (by decide +kernel)) rfl, ⟨by decide, by decide⟩, by decide +kernel, by decide⟩
theorem iX3_putOverlay : ∀ w ∈ [Cond.instanceMethod yX3_putOverlay, Cond.selects yX3_putOverlay.cls yX3_putOverlay yX3_putOverlay], w ∈ xGw := xwords _ [841, 842] (by decide +kernel) (by decide +kernel)
theorem kX3_hasRowOf : xml mX3_hasRowOf 1 := ⟨xGw_in (List.mem_of_getElem? (i := 865) (by decide +kernel)) rfl, xGw_in (List.mem_of_getElem? (i := 91) (by decide +kernel)) rfl, ⟨by decide, by decide⟩, by decide +kernel, by decide⟩
theorem iX3_hasRowOf : ∀ w ∈ [Cond.instanceMethod yX3_hasRowOf, Cond.selects yX3_hasRowOf.cls yX3_hasRowOf yX3_hasRowOf], w ∈ xGw := xwords _ [863, 864] (by decide +kernel) (by decide +kernel)
theorem kX4_init : xml mX4_init 0 := ⟨xGw_in (List.mem_of_getElem? (i := 303) (by decide +kernel)) rfl, xGw_in (List.mem_of_getElem? (i := 89) (by decide +kernel)) rfl, ⟨by decide, by decide⟩, by decide +kernel, by decide⟩
theorem iX4_init : Cond.instanceMethod yX4_init ∈ xGw := xGw_in (List.mem_of_getElem? (i := 302) (by decide +kernel)) rfl
theorem kX4_from : xml mX4_from 3 := ⟨xGw_in (List.mem_of_getElem? (i := 851) (by decide +kernel)) rfl, xGw_in (List.mem_of_getElem? (i := 89) (by decide +kernel)) rfl, ⟨by decide, by decide⟩, by decide +kernel, by decide⟩
theorem iX4_from : ∀ w ∈ [Cond.instanceMethod yX4_from, Cond.selects yX4_from.cls yX4_from yX4_from], w ∈ xGw := xwords _ [849, 850] (by decide +kernel) (by decide +kernel)
theorem kX4_step : xml mX4_step 1 := ⟨xGw_in (List.mem_of_getElem? (i := 875) (by decide +kernel)) rfl, xGw_in (List.mem_of_getElem? (i := 89) (by decide +kernel)) rfl, ⟨by decide, by decide⟩, by decide +kernel, by decide⟩
theorem iX4_step : ∀ w ∈ [Cond.instanceMethod yX4_step, Cond.selects yX4_step.cls yX4_step yX4_step], w ∈ xGw := xwords _ [873, 874] (by decide +kernel) (by decide +kernel)
theorem kX4_ask : xml mX4_ask 4 := ⟨xGw_in (List.mem_of_getElem? (i := 855) (by decide +kernel)) rfl, xGw_in (List.mem_of_getElem? (i := 89) (by decide +kernel)) rfl, ⟨by decide, by decide⟩, by decide +kernel, by decide⟩
theorem iX4_ask : ∀ w ∈ [Cond.instanceMethod yX4_ask, Cond.selects yX4_ask.cls yX4_ask yX4_ask], w ∈ xGw := xwords _ [854, 33] (by decide +kernel) (by decide +kernel)
theorem kX4_looksInto : xml mX4_looksInto 3 := ⟨xGw_in (List.mem_of_getElem? (i := 861) (by decide +kernel)) rfl, xGw_in (List.mem_of_getElem? (i := 89) (by decide +kernel)) rfl, ⟨by decide, by decide⟩, by decide +kernel, by decide⟩
theorem iX4_looksInto : ∀ w ∈ [Cond.instanceMethod yX4_looksInto, Cond.selects yX4_looksInto.cls yX4_looksInto yX4_looksInto], w ∈ xGw := xwords _ [860, 34] (by decide +kernel) (by decide +kernel)
theorem kX5_init : xml mX5_init 0 := ⟨xGw_in (List.mem_of_getElem? (i := 257) (by decide +kernel)) rfl, xGw_in (List.mem_of_getElem? (i := 87) (by decide +kernel)) rfl, ⟨by decide, by decide⟩, by decide +kernel, by decide⟩
theorem iX5_init : Cond.instanceMethod yX5_init ∈ xGw := xGw_in (List.mem_of_getElem? (i := 256) (by decide +kernel)) rfl
theorem kX5_wrongPlace : xml mX5_wrongPlace 1 := ⟨xGw_in (List.mem_of_getElem? (i := 559) (by decide +kernel)) rfl, xGw_in (List.mem_of_getElem? (i := 87) (by decide +kernel)) rfl, ⟨by decide, by decide⟩, by decide +kernel, by decide⟩
theorem iX5_wrongPlace : ∀ w ∈ [Cond.instanceMethod yX5_wrongPlace, Cond.selects yX5_wrongPlace.cls yX5_wrongPlace yX5_wrongPlace], w ∈ xGw := xwords _ [557, 558] (by decide +kernel) (by decide +kernel)
theorem kX5_isSignedBy : xml mX5_isSignedBy 1 := ⟨xGw_in (List.mem_of_getElem? (i := 652) (by decide +kernel)) rfl, xGw_in (List.mem_of_getElem? (i := 87) (by decide +kernel)) rfl, ⟨by decide, by decide⟩, by decide +kernel, by decide⟩
theorem iX5_isSignedBy : ∀ w ∈ [Cond.instanceMethod yX5_isSignedBy, Cond.selects yX5_isSignedBy.cls yX5_isSignedBy yX5_isSignedBy], w ∈ xGw := xwords _ [650, 651] (by decide +kernel) (by decide +kernel)
theorem kX5_handOver : xml mX5_handOver 0 := ⟨xGw_in (List.mem_of_getElem? (i := 769) (by decide +kernel)) rfl, xGw_in (List.mem_of_getElem? (i := 87) (by decide +kernel)) rfl, ⟨by decide, by decide⟩, by decide +kernel, by decide⟩
theorem iX5_handOver : ∀ w ∈ [Cond.instanceMethod yX5_handOver, Cond.selects yX5_handOver.cls yX5_handOver yX5_handOver], w ∈ xGw := xwords _ [767, 768] (by decide +kernel) (by decide +kernel)
theorem kX5_next : xml mX5_next 2 := ⟨xGw_in (List.mem_of_getElem? (i := 568) (by decide +kernel)) rfl, xGw_in (List.mem_of_getElem? (i := 87) (by decide +kernel)) rfl, ⟨by decide, by decide⟩, by decide +kernel, by decide⟩
theorem iX5_next : ∀ w ∈ [Cond.instanceMethod yX5_next, Cond.selects yX5_next.cls yX5_next yX5_next], w ∈ xGw := xwords _ [567, 11] (by decide +kernel) (by decide +kernel)
theorem kX5_isFine : xml mX5_isFine 0 := ⟨xGw_in (List.mem_of_getElem? (i := 578) (by decide +kernel)) rfl, xGw_in (List.mem_of_getElem? (i := 87) (by decide +kernel)) rfl, ⟨by decide, by decide⟩, by decide +kernel, by decide⟩
theorem iX5_isFine : ∀ w ∈ [Cond.instanceMethod yX5_isFine, Cond.selects yX5_isFine.cls yX5_isFine yX5_isFine], w ∈ xGw := xwords _ [577, 13] (by decide +kernel) (by decide +kernel)
theorem kX5_refuseAt : xml mX5_refuseAt 1 := ⟨xGw_in (List.mem_of_getElem? (i := 583) (by decide +kernel)) rfl, xGw_in (List.mem_of_getElem? (i := 87) (by decide +kernel)) rfl, ⟨by decide, by decide⟩, by decide +kernel, by decide⟩
theorem iX5_refuseAt : ∀ w ∈ [Cond.instanceMethod yX5_refuseAt, Cond.selects yX5_refuseAt.cls yX5_refuseAt yX5_refuseAt], w ∈ xGw := xwords _ [582, 14] (by decide +kernel) (by decide +kernel)
theorem kX5_hearTitle : xml mX5_hearTitle 0 := ⟨xGw_in (List.mem_of_getElem? (i := 564) (by decide +kernel)) rfl, xGw_in (List.mem_of_getElem? (i := 87) (by decide +kernel)) rfl, ⟨by decide, by decide⟩, by decide +kernel, by decide⟩
theorem iX5_hearTitle : ∀ w ∈ [Cond.instanceMethod yX5_hearTitle, Cond.selects yX5_hearTitle.cls yX5_hearTitle yX5_hearTitle], w ∈ xGw := xwords _ [563, 10] (by decide +kernel) (by decide +kernel)
theorem kX5_hearNeeds : xml mX5_hearNeeds 0 := ⟨xGw_in (List.mem_of_getElem? (i := 574) (by decide +kernel)) rfl, xGw_in (List.mem_of_getElem? (i := 87) (by decide +kernel)) rfl, ⟨by decide, by decide⟩, by decide +kernel, by decide⟩
theorem iX5_hearNeeds : ∀ w ∈ [Cond.instanceMethod yX5_hearNeeds, Cond.selects yX5_hearNeeds.cls yX5_hearNeeds yX5_hearNeeds], w ∈ xGw := xwords _ [573, 12] (by decide +kernel) (by decide +kernel)
theorem kX5_hearSeals : xml mX5_hearSeals 0 := ⟨xGw_in (List.mem_of_getElem? (i := 588) (by decide +kernel)) rfl, xGw_in (List.mem_of_getElem? (i := 87) (by decide +kernel)) rfl, ⟨by decide, by decide⟩, by decide +kernel, by decide⟩
theorem iX5_hearSeals : ∀ w ∈ [Cond.instanceMethod yX5_hearSeals, Cond.selects yX5_hearSeals.cls yX5_hearSeals yX5_hearSeals], w ∈ xGw := xwords _ [587, 15] (by decide +kernel) (by decide +kernel)
theorem kX5_hearRows : xml mX5_hearRows 0 := ⟨xGw_in (List.mem_of_getElem? (i := 594) (by decide +kernel)) rfl, xGw_in (List.mem_of_getElem? (i := 87) (by decide +kernel)) rfl, ⟨by decide, by decide⟩, by decide +kernel, by decide⟩
theorem iX5_hearRows : ∀ w ∈ [Cond.instanceMethod yX5_hearRows, Cond.selects yX5_hearRows.cls yX5_hearRows yX5_hearRows], w ∈ xGw := xwords _ [593, 16] (by decide +kernel) (by decide +kernel)
theorem kX5_hearPair : xml mX5_hearPair 1 := ⟨xGw_in (List.mem_of_getElem? (i := 600) (by decide +kernel)) rfl, xGw_in (List.mem_of_getElem? (i := 87) (by decide +kernel)) rfl, ⟨by decide, by decide⟩, by decide +kernel, by decide⟩
theorem iX5_hearPair : ∀ w ∈ [Cond.instanceMethod yX5_hearPair, Cond.selects yX5_hearPair.cls yX5_hearPair yX5_hearPair], w ∈ xGw := xwords _ [599, 17] (by decide +kernel) (by decide +kernel)
theorem kX5_hearPages : xml mX5_hearPages 0 := ⟨xGw_in (List.mem_of_getElem? (i := 604) (by decide +kernel)) rfl, xGw_in (List.mem_of_getElem? (i := 87) (by decide +kernel)) rfl, ⟨by decide, by decide⟩, by decide +kernel, by decide⟩
theorem iX5_hearPages : ∀ w ∈ [Cond.instanceMethod yX5_hearPages, Cond.selects yX5_hearPages.cls yX5_hearPages yX5_hearPages], w ∈ xGw := xwords _ [603, 18] (by decide +kernel) (by decide +kernel)
theorem kX5_lacking : xml mX5_lacking 1 := ⟨xGw_in (List.mem_of_getElem? (i := 612) (by decide +kernel)) rfl, xGw_in (List.mem_of_getElem? (i := 87) (by decide +kernel)) rfl, ⟨by decide, by decide⟩, by decide +kernel, by decide⟩
theorem iX5_lacking : ∀ w ∈ [Cond.instanceMethod yX5_lacking, Cond.selects yX5_lacking.cls yX5_lacking yX5_lacking], w ∈ xGw := xwords _ [611, 20] (by decide +kernel) (by decide +kernel)
theorem kX5_hearPlainPage : xml mX5_hearPlainPage 1 := ⟨xGw_in (List.mem_of_getElem? (i := 639) (by decide +kernel)) rfl, xGw_in (List.mem_of_getElem? (i := 87) (by decide +kernel)) rfl, ⟨by decide, by decide⟩, by decide +kernel, by decide⟩
theorem iX5_hearPlainPage : ∀ w ∈ [Cond.instanceMethod yX5_hearPlainPage, Cond.selects yX5_hearPlainPage.cls yX5_hearPlainPage yX5_hearPlainPage], w ∈ xGw := xwords _ [638, 25] (by decide +kernel) (by decide +kernel)
theorem kX5_hearPlain : xml mX5_hearPlain 2 := ⟨xGw_in (List.mem_of_getElem? (i := 634) (by decide +kernel)) rfl, xGw_in (List.mem_of_getElem? (i := 87) (by decide +kernel)) rfl, ⟨by decide, by decide⟩, by decide +kernel, by decide⟩
theorem iX5_hearPlain : ∀ w ∈ [Cond.instanceMethod yX5_hearPlain, Cond.selects yX5_hearPlain.cls yX5_hearPlain yX5_hearPlain], w ∈ xGw := xwords _ [633, 24] (by decide +kernel) (by decide +kernel)
theorem kX5_hearPairs : xml mX5_hearPairs 1 := ⟨xGw_in (List.mem_of_getElem? (i := 608) (by decide +kernel)) rfl, xGw_in (List.mem_of_getElem? (i := 87) (by decide +kernel)) rfl, ⟨by decide, by decide⟩, by decide +kernel, by decide⟩
theorem iX5_hearPairs : ∀ w ∈ [Cond.instanceMethod yX5_hearPairs, Cond.selects yX5_hearPairs.cls yX5_hearPairs yX5_hearPairs], w ∈ xGw := xwords _ [607, 19] (by decide +kernel) (by decide +kernel)
theorem kX5_hearOps : xml mX5_hearOps 1 := ⟨xGw_in (List.mem_of_getElem? (i := 625) (by decide +kernel)) rfl, xGw_in (List.mem_of_getElem? (i := 87) (by decide +kernel)) rfl, ⟨by decide, by decide⟩, by decide +kernel, by decide⟩
theorem iX5_hearOps : ∀ w ∈ [Cond.instanceMethod yX5_hearOps, Cond.selects yX5_hearOps.cls yX5_hearOps yX5_hearOps], w ∈ xGw := xwords _ [624, 22] (by decide +kernel) (by decide +kernel)
theorem kX5_hearCopy : xml mX5_hearCopy 2 := ⟨xGw_in (List.mem_of_getElem? (i := 629) (by decide +kernel)) rfl, xGw_in (List.mem_of_getElem? (i := 87) (by decide +kernel)) rfl, ⟨by decide, by decide⟩, by decide +kernel, by decide⟩
theorem iX5_hearCopy : ∀ w ∈ [Cond.instanceMethod yX5_hearCopy, Cond.selects yX5_hearCopy.cls yX5_hearCopy yX5_hearCopy], w ∈ xGw := xwords _ [628, 23] (by decide +kernel) (by decide +kernel)
theorem kX5_refuseIfLacking : xml mX5_refuseIfLacking 1 := ⟨xGw_in (List.mem_of_getElem? (i := 621) (by decide +kernel)) rfl, xGw_in (List.mem_of_getElem? (i := 87) (by decide +kernel)) rfl, ⟨by decide, by decide⟩, by decide +kernel, by decide⟩
theorem iX5_refuseIfLacking : ∀ w ∈ [Cond.instanceMethod yX5_refuseIfLacking, Cond.selects yX5_refuseIfLacking.cls yX5_refuseIfLacking yX5_refuseIfLacking], w ∈ xGw := xwords _ [620, 21] (by decide +kernel) (by decide +kernel)
theorem kX5_hearEnd : xml mX5_hearEnd 0 := ⟨xGw_in (List.mem_of_getElem? (i := 643) (by decide +kernel)) rfl, xGw_in (List.mem_of_getElem? (i := 87) (by decide +kernel)) rfl, ⟨by decide, by decide⟩, by decide +kernel, by decide⟩
theorem iX5_hearEnd : ∀ w ∈ [Cond.instanceMethod yX5_hearEnd, Cond.selects yX5_hearEnd.cls yX5_hearEnd yX5_hearEnd], w ∈ xGw := xwords _ [642, 26] (by decide +kernel) (by decide +kernel)
theorem kX6_init : xml mX6_init 0 := ⟨xGw_in (List.mem_of_getElem? (i := 236) (by decide +kernel)) rfl, xGw_in (List.mem_of_getElem? (i := 86) (by decide +kernel)) rfl, ⟨by decide, by decide⟩, by decide +kernel, by decide⟩
theorem iX6_init : Cond.instanceMethod yX6_init ∈ xGw := xGw_in (List.mem_of_getElem? (i := 235) (by decide +kernel)) rfl
theorem kX6_write : xml mX6_write 3 := ⟨xGw_in (List.mem_of_getElem? (i := 441) (by decide +kernel)) rfl, xGw_in (List.mem_of_getElem? (i := 86) (by decide +kernel)) rfl, ⟨by decide, by decide⟩, by decide +kernel, by decide⟩
theorem iX6_write : ∀ w ∈ [Cond.instanceMethod yX6_write, Cond.selects yX6_write.cls yX6_write yX6_write], w ∈ xGw := xwords _ [439, 440] (by decide +kernel) (by decide +kernel)
theorem kX6_writeHead : xml mX6_writeHead 3 := ⟨xGw_in (List.mem_of_getElem? (i := 482) (by decide +kernel)) rfl, xGw_in (List.mem_of_getElem? (i := 86) (by decide +kernel)) rfl, ⟨by decide, by decide⟩, by decide +kernel, by decide⟩
theorem iX6_writeHead : ∀ w ∈ [Cond.instanceMethod yX6_writeHead, Cond.selects yX6_writeHead.cls yX6_writeHead yX6_writeHead], w ∈ xGw := xwords _ [481, 7] (by decide +kernel) (by decide +kernel)
theorem kX6_pushPair : xml mX6_pushPair 2 := ⟨xGw_in (List.mem_of_getElem? (i := 485) (by decide +kernel)) rfl, xGw_in (List.mem_of_getElem? (i := 86) (by decide +kernel)) rfl, ⟨by decide, by decide⟩, by decide +kernel, by decide⟩
theorem iX6_pushPair : Cond.static yX6_pushPair ∈ xGw := xGw_in (List.mem_of_getElem? (i := 484) (by decide +kernel)) rfl
theorem kX6_writeBody : xml mX6_writeBody 1 := ⟨xGw_in (List.mem_of_getElem? (i := 445) (by decide +kernel)) rfl, xGw_in (List.mem_of_getElem? (i := 86) (by decide +kernel)) rfl, ⟨by decide, by decide⟩, by decide +kernel, by decide⟩
theorem iX6_writeBody : ∀ w ∈ [Cond.instanceMethod yX6_writeBody, Cond.selects yX6_writeBody.cls yX6_writeBody yX6_writeBody], w ∈ xGw := xwords _ [444, 1] (by decide +kernel) (by decide +kernel)
theorem kX6_writePlain : xml mX6_writePlain 4 := ⟨xGw_in (List.mem_of_getElem? (i := 478) (by decide +kernel)) rfl, xGw_in (List.mem_of_getElem? (i := 86) (by decide +kernel)) rfl, ⟨by decide, by decide⟩, by decide +kernel, by decide⟩
theorem iX6_writePlain : ∀ w ∈ [Cond.instanceMethod yX6_writePlain, Cond.selects yX6_writePlain.cls yX6_writePlain yX6_writePlain], w ∈ xGw := xwords _ [477, 6] (by decide +kernel) (by decide +kernel)
theorem kX6_writePairs : xml mX6_writePairs 2 := ⟨xGw_in (List.mem_of_getElem? (i := 453) (by decide +kernel)) rfl, xGw_in (List.mem_of_getElem? (i := 86) (by decide +kernel)) rfl, ⟨by decide, by decide⟩, by decide +kernel, by decide⟩
theorem iX6_writePairs : ∀ w ∈ [Cond.instanceMethod yX6_writePairs, Cond.selects yX6_writePairs.cls yX6_writePairs yX6_writePairs], w ∈ xGw := xwords _ [452, 2] (by decide +kernel) (by decide +kernel)
theorem kX6_writeOps : xml mX6_writeOps 2 := ⟨xGw_in (List.mem_of_getElem? (i := 463) (by decide +kernel)) rfl, xGw_in (List.mem_of_getElem? (i := 86) (by decide +kernel)) rfl, ⟨by decide, by decide⟩, by decide +kernel, by decide⟩
theorem iX6_writeOps : ∀ w ∈ [Cond.instanceMethod yX6_writeOps, Cond.selects yX6_writeOps.cls yX6_writeOps yX6_writeOps], w ∈ xGw := xwords _ [462, 3] (by decide +kernel) (by decide +kernel)
theorem kX6_writePlainOps : xml mX6_writePlainOps 4 := ⟨xGw_in (List.mem_of_getElem? (i := 474) (by decide +kernel)) rfl, xGw_in (List.mem_of_getElem? (i := 86) (by decide +kernel)) rfl, ⟨by decide, by decide⟩, by decide +kernel, by decide⟩
theorem iX6_writePlainOps : ∀ w ∈ [Cond.instanceMethod yX6_writePlainOps, Cond.selects yX6_writePlainOps.cls yX6_writePlainOps yX6_writePlainOps], w ∈ xGw := xwords _ [473, 5] (by decide +kernel) (by decide +kernel)
theorem kX6_searchMatch : xml mX6_searchMatch 3 := ⟨xGw_in (List.mem_of_getElem? (i := 467) (by decide +kernel)) rfl, xGw_in (List.mem_of_getElem? (i := 86) (by decide +kernel)) rfl, ⟨by decide, by decide⟩, by decide +kernel, by decide⟩
theorem iX6_searchMatch : ∀ w ∈ [Cond.instanceMethod yX6_searchMatch, Cond.selects yX6_searchMatch.cls yX6_searchMatch yX6_searchMatch], w ∈ xGw := xwords _ [466, 4] (by decide +kernel) (by decide +kernel)
theorem kX7_init : xml mX7_init 0 := ⟨xGw_in (List.mem_of_getElem? (i := 287) (by decide +kernel)) rfl, xGw_in (List.mem_of_getElem? (i := 88) (by decide +kernel)) rfl, ⟨by decide, by decide⟩, by decide +kernel, by decide⟩
theorem iX7_init : Cond.instanceMethod yX7_init ∈ xGw := xGw_in (List.mem_of_getElem? (i := 286) (by decide +kernel)) rfl
theorem kX7_at : xml mX7_at 1 := ⟨xGw_in (List.mem_of_getElem? (i := 745) (by decide +kernel)) rfl, xGw_in (List.mem_of_getElem? (i := 88) (by decide +kernel)) rfl, ⟨by decide, by decide⟩, by decide +kernel, by decide⟩
theorem iX7_at : ∀ w ∈ [Cond.instanceMethod yX7_at, Cond.selects yX7_at.cls yX7_at yX7_at], w ∈ xGw := xwords _ [743, 744] (by decide +kernel) (by decide +kernel)
theorem kX7_firstUnmet : xml mX7_firstUnmet 1 := ⟨xGw_in (List.mem_of_getElem? (i := 737) (by decide +kernel)) rfl, xGw_in (List.mem_of_getElem? (i := 88) (by decide +kernel)) rfl, ⟨by decide, by decide⟩, by decide +kernel, by decide⟩
theorem iX7_firstUnmet : ∀ w ∈ [Cond.instanceMethod yX7_firstUnmet, Cond.selects yX7_firstUnmet.cls yX7_firstUnmet yX7_firstUnmet], w ∈ xGw := xwords _ [735, 736] (by decide +kernel) (by decide +kernel)
theorem kX7_leastSealed : xml mX7_leastSealed 1 := ⟨xGw_in (List.mem_of_getElem? (i := 753) (by decide +kernel)) rfl, xGw_in (List.mem_of_getElem? (i := 88) (by decide +kernel)) rfl, ⟨by decide, by decide⟩, by decide +kernel, by decide⟩
theorem iX7_leastSealed : ∀ w ∈ [Cond.instanceMethod yX7_leastSealed, Cond.selects yX7_leastSealed.cls yX7_leastSealed yX7_leastSealed], w ∈ xGw := xwords _ [751, 752] (by decide +kernel) (by decide +kernel)
theorem kX7_put : xml mX7_put 1 := ⟨xGw_in (List.mem_of_getElem? (i := 773) (by decide +kernel)) rfl, xGw_in (List.mem_of_getElem? (i := 88) (by decide +kernel)) rfl, ⟨by decide, by decide⟩, by decide +kernel, by decide⟩
theorem iX7_put : ∀ w ∈ [Cond.instanceMethod yX7_put, Cond.selects yX7_put.cls yX7_put yX7_put], w ∈ xGw := xwords _ [771, 772] (by decide +kernel) (by decide +kernel)
theorem kX7_overlayWith : xml mX7_overlayWith 2 := ⟨xGw_in (List.mem_of_getElem? (i := 887) (by decide +kernel)) rfl, xGw_in (List.mem_of_getElem? (i := 88) (by decide +kernel)) rfl, ⟨by decide, by decide⟩, by decide +kernel, by decide⟩
theorem iX7_overlayWith : ∀ w ∈ [Cond.instanceMethod yX7_overlayWith, Cond.selects yX7_overlayWith.cls yX7_overlayWith yX7_overlayWith], w ∈ xGw := xwords _ [885, 886] (by decide +kernel) (by decide +kernel)
theorem kX7_ranked : xml mX7_ranked 2 := ⟨xGw_in (List.mem_of_getElem? (i := 901) (by decide +kernel)) rfl, xGw_in (List.mem_of_getElem? (i := 88) (by decide +kernel)) rfl, ⟨by decide, by decide⟩, by decide +kernel, by decide⟩
theorem iX7_ranked : ∀ w ∈ [Cond.instanceMethod yX7_ranked, Cond.selects yX7_ranked.cls yX7_ranked yX7_ranked], w ∈ xGw := xwords _ [899, 900] (by decide +kernel) (by decide +kernel)
theorem kX7_leaning : xml mX7_leaning 2 := ⟨xGw_in (List.mem_of_getElem? (i := 913) (by decide +kernel)) rfl, xGw_in (List.mem_of_getElem? (i := 88) (by decide +kernel)) rfl, ⟨by decide, by decide⟩, by decide +kernel, by decide⟩
theorem iX7_leaning : ∀ w ∈ [Cond.instanceMethod yX7_leaning, Cond.selects yX7_leaning.cls yX7_leaning yX7_leaning], w ∈ xGw := xwords _ [911, 912] (by decide +kernel) (by decide +kernel)
theorem kX7_meeting : xml mX7_meeting 2 := ⟨xGw_in (List.mem_of_getElem? (i := 741) (by decide +kernel)) rfl, xGw_in (List.mem_of_getElem? (i := 88) (by decide +kernel)) rfl, ⟨by decide, by decide⟩, by decide +kernel, by decide⟩
theorem iX7_meeting : ∀ w ∈ [Cond.instanceMethod yX7_meeting, Cond.selects yX7_meeting.cls yX7_meeting yX7_meeting], w ∈ xGw := xwords _ [740, 30] (by decide +kernel) (by decide +kernel)
theorem kX7_suits : xml mX7_suits 3 := ⟨xGw_in (List.mem_of_getElem? (i := 748) (by decide +kernel)) rfl, xGw_in (List.mem_of_getElem? (i := 88) (by decide +kernel)) rfl, ⟨by decide, by decide⟩, by decide +kernel, by decide⟩
theorem iX7_suits : Cond.static yX7_suits ∈ xGw := xGw_in (List.mem_of_getElem? (i := 747) (by decide +kernel)) rfl
theorem kX7_seenBy : xml mX7_seenBy 1 := ⟨xGw_in (List.mem_of_getElem? (i := 757) (by decide +kernel)) rfl, xGw_in (List.mem_of_getElem? (i := 88) (by decide +kernel)) rfl, ⟨by decide, by decide⟩, by decide +kernel, by decide⟩
theorem iX7_seenBy : ∀ w ∈ [Cond.instanceMethod yX7_seenBy, Cond.selects yX7_seenBy.cls yX7_seenBy yX7_seenBy], w ∈ xGw := xwords _ [756, 31] (by decide +kernel) (by decide +kernel)
theorem kX7_isBetween : xml mX7_isBetween 3 := ⟨xGw_in (List.mem_of_getElem? (i := 760) (by decide +kernel)) rfl, xGw_in (List.mem_of_getElem? (i := 88) (by decide +kernel)) rfl, ⟨by decide, by decide⟩, by decide +kernel, by decide⟩
theorem iX7_isBetween : Cond.static yX7_isBetween ∈ xGw := xGw_in (List.mem_of_getElem? (i := 759) (by decide +kernel)) rfl
theorem kX7_countAhead : xml mX7_countAhead 2 := ⟨xGw_in (List.mem_of_getElem? (i := 905) (by decide +kernel)) rfl, xGw_in (List.mem_of_getElem? (i := 88) (by decide +kernel)) rfl, ⟨by decide, by decide⟩, by decide +kernel, by decide⟩
theorem iX7_countAhead : ∀ w ∈ [Cond.instanceMethod yX7_countAhead, Cond.selects yX7_countAhead.cls yX7_countAhead yX7_countAhead], w ∈ xGw := xwords _ [904, 36] (by decide +kernel) (by decide +kernel)
theorem kX8_init : xml mX8_init 0 := ⟨xGw_in (List.mem_of_getElem? (i := 96) (by decide +kernel)) rfl, xGw_in (List.mem_of_getElem? (i := 81) (by decide +kernel)) rfl, ⟨by decide, by decide⟩, by decide +kernel, by decide⟩
theorem iX8_init : Cond.instanceMethod yX8_init ∈ xGw := xGw_in (List.mem_of_getElem? (i := 95) (by decide +kernel)) rfl
theorem kX8_draft : xml mX8_draft 3 := ⟨xGw_in (List.mem_of_getElem? (i := 355) (by decide +kernel)) rfl, xGw_in (List.mem_of_getElem? (i := 81) (by decide +kernel)) rfl, ⟨by decide, by decide⟩, by decide +kernel, by decide⟩
theorem iX8_draft : ∀ w ∈ [Cond.instanceMethod yX8_draft, Cond.selects yX8_draft.cls yX8_draft yX8_draft], w ∈ xGw := xwords _ [353, 354] (by decide +kernel) (by decide +kernel)
theorem kX8_need : xml mX8_need 3 := ⟨xGw_in (List.mem_of_getElem? (i := 370) (by decide +kernel)) rfl, xGw_in (List.mem_of_getElem? (i := 81) (by decide +kernel)) rfl, ⟨by decide, by decide⟩, by decide +kernel, by decide⟩
theorem iX8_need : ∀ w ∈ [Cond.instanceMethod yX8_need, Cond.selects yX8_need.cls yX8_need yX8_need], w ∈ xGw := xwords _ [368, 369] (by decide +kernel) (by decide +kernel)
theorem kX8_seal : xml mX8_seal 1 := ⟨xGw_in (List.mem_of_getElem? (i := 382) (by decide +kernel)) rfl, xGw_in (List.mem_of_getElem? (i := 81) (by decide +kernel)) rfl, ⟨by decide, by decide⟩, by decide +kernel, by decide⟩
theorem iX8_seal : ∀ w ∈ [Cond.instanceMethod yX8_seal, Cond.selects yX8_seal.cls yX8_seal yX8_seal], w ∈ xGw := xwords _ [380, 381] (by decide +kernel) (by decide +kernel)
theorem kX8_row : xml mX8_row 2 := ⟨xGw_in (List.mem_of_getElem? (i := 394) (by decide +kernel)) rfl, xGw_in (List.mem_of_getElem? (i := 81) (by decide +kernel)) rfl, ⟨by decide, by decide⟩, by decide +kernel, by decide⟩
theorem iX8_row : ∀ w ∈ [Cond.instanceMethod yX8_row, Cond.selects yX8_row.cls yX8_row yX8_row], w ∈ xGw := xwords _ [392, 393] (by decide +kernel) (by decide +kernel)
theorem kX8_add : xml mX8_add 5 := ⟨xGw_in (List.mem_of_getElem? (i := 406) (by decide +kernel)) rfl, xGw_in (List.mem_of_getElem? (i := 81) (by decide +kernel)) rfl, ⟨by decide, by decide⟩, by decide +kernel, by decide⟩
theorem iX8_add : ∀ w ∈ [Cond.instanceMethod yX8_add, Cond.selects yX8_add.cls yX8_add yX8_add], w ∈ xGw := xwords _ [404, 405] (by decide +kernel) (by decide +kernel)
theorem kX8_again : xml mX8_again 2 := ⟨xGw_in (List.mem_of_getElem? (i := 423) (by decide +kernel)) rfl, xGw_in (List.mem_of_getElem? (i := 81) (by decide +kernel)) rfl, ⟨by decide, by decide⟩, by decide +kernel, by decide⟩
theorem iX8_again : ∀ w ∈ [Cond.instanceMethod yX8_again, Cond.selects yX8_again.cls yX8_again yX8_again], w ∈ xGw := xwords _ [421, 422] (by decide +kernel) (by decide +kernel)
theorem kX8_pack : xml mX8_pack 1 := ⟨xGw_in (List.mem_of_getElem? (i := 437) (by decide +kernel)) rfl, xGw_in (List.mem_of_getElem? (i := 81) (by decide +kernel)) rfl, ⟨by decide, by decide⟩, by decide +kernel, by decide⟩
theorem iX8_pack : ∀ w ∈ [Cond.instanceMethod yX8_pack, Cond.selects yX8_pack.cls yX8_pack yX8_pack], w ∈ xGw := xwords _ [435, 436] (by decide +kernel) (by decide +kernel)
theorem kX8_length : xml mX8_length 1 := ⟨xGw_in (List.mem_of_getElem? (i := 518) (by decide +kernel)) rfl, xGw_in (List.mem_of_getElem? (i := 81) (by decide +kernel)) rfl, ⟨by decide, by decide⟩, by decide +kernel, by decide⟩
theorem iX8_length : ∀ w ∈ [Cond.instanceMethod yX8_length, Cond.selects yX8_length.cls yX8_length yX8_length], w ∈ xGw := xwords _ [516, 517] (by decide +kernel) (by decide +kernel)
theorem kX8_octet : xml mX8_octet 2 := ⟨xGw_in (List.mem_of_getElem? (i := 526) (by decide +kernel)) rfl, xGw_in (List.mem_of_getElem? (i := 81) (by decide +kernel)) rfl, ⟨by decide, by decide⟩, by decide +kernel, by decide⟩
theorem iX8_octet : ∀ w ∈ [Cond.instanceMethod yX8_octet, Cond.selects yX8_octet.cls yX8_octet yX8_octet], w ∈ xGw := xwords _ [524, 525] (by decide +kernel) (by decide +kernel)
theorem kX8_spoil : xml mX8_spoil 3 := ⟨xGw_in (List.mem_of_getElem? (i := 531) (by decide +kernel)) rfl, xGw_in (List.mem_of_getElem? (i := 81) (by decide +kernel)) rfl, ⟨by decide, by decide⟩, by decide +kernel, by decide⟩
theorem iX8_spoil : ∀ w ∈ [Cond.instanceMethod yX8_spoil, Cond.selects yX8_spoil.cls yX8_spoil yX8_spoil], w ∈ xGw := xwords _ [529, 530] (by decide +kernel) (by decide +kernel)
theorem kX8_trim : xml mX8_trim 2 := ⟨xGw_in (List.mem_of_getElem? (i := 547) (by decide +kernel)) rfl, xGw_in (List.mem_of_getElem? (i := 81) (by decide +kernel)) rfl, ⟨by decide, by decide⟩, by decide +kernel, by decide⟩
theorem iX8_trim : ∀ w ∈ [Cond.instanceMethod yX8_trim, Cond.selects yX8_trim.cls yX8_trim yX8_trim], w ∈ xGw := xwords _ [545, 546] (by decide +kernel) (by decide +kernel)
theorem kX8_check : xml mX8_check 1 := ⟨xGw_in (List.mem_of_getElem? (i := 555) (by decide +kernel)) rfl, xGw_in (List.mem_of_getElem? (i := 81) (by decide +kernel)) rfl, ⟨by decide, by decide⟩, by decide +kernel, by decide⟩
theorem iX8_check : ∀ w ∈ [Cond.instanceMethod yX8_check, Cond.selects yX8_check.cls yX8_check yX8_check], w ∈ xGw := xwords _ [553, 554] (by decide +kernel) (by decide +kernel)
theorem kX8_signer : xml mX8_signer 2 := ⟨xGw_in (List.mem_of_getElem? (i := 648) (by decide +kernel)) rfl, xGw_in (List.mem_of_getElem? (i := 81) (by decide +kernel)) rfl, ⟨by decide, by decide⟩, by decide +kernel, by decide⟩
theorem iX8_signer : ∀ w ∈ [Cond.instanceMethod yX8_signer, Cond.selects yX8_signer.cls yX8_signer yX8_signer], w ∈ xGw := xwords _ [646, 647] (by decide +kernel) (by decide +kernel)
theorem kX8_parts : xml mX8_parts 2 := ⟨xGw_in (List.mem_of_getElem? (i := 660) (by decide +kernel)) rfl, xGw_in (List.mem_of_getElem? (i := 81) (by decide +kernel)) rfl, ⟨by decide, by decide⟩, by decide +kernel, by decide⟩
theorem iX8_parts : ∀ w ∈ [Cond.instanceMethod yX8_parts, Cond.selects yX8_parts.cls yX8_parts yX8_parts], w ∈ xGw := xwords _ [658, 659] (by decide +kernel) (by decide +kernel)
theorem kX8_load : xml mX8_load 3 := ⟨xGw_in (List.mem_of_getElem? (i := 670) (by decide +kernel)) rfl, xGw_in (List.mem_of_getElem? (i := 81) (by decide +kernel)) rfl, ⟨by decide, by decide⟩, by decide +kernel, by decide⟩
theorem iX8_load : ∀ w ∈ [Cond.instanceMethod yX8_load, Cond.selects yX8_load.cls yX8_load yX8_load], w ∈ xGw := xwords _ [668, 669] (by decide +kernel) (by decide +kernel)
theorem kX8_tape : xml mX8_tape 1 := ⟨xGw_in (List.mem_of_getElem? (i := 680) (by decide +kernel)) rfl, xGw_in (List.mem_of_getElem? (i := 81) (by decide +kernel)) rfl, ⟨by decide, by decide⟩, by decide +kernel, by decide⟩
theorem iX8_tape : ∀ w ∈ [Cond.instanceMethod yX8_tape, Cond.selects yX8_tape.cls yX8_tape yX8_tape], w ∈ xGw := xwords _ [678, 679] (by decide +kernel) (by decide +kernel)
theorem kX8_bend : xml mX8_bend 2 := ⟨xGw_in (List.mem_of_getElem? (i := 684) (by decide +kernel)) rfl, xGw_in (List.mem_of_getElem? (i := 81) (by decide +kernel)) rfl, ⟨by decide, by decide⟩, by decide +kernel, by decide⟩
theorem iX8_bend : ∀ w ∈ [Cond.instanceMethod yX8_bend, Cond.selects yX8_bend.cls yX8_bend yX8_bend], w ∈ xGw := xwords _ [682, 683] (by decide +kernel) (by decide +kernel)
theorem kX8_take : xml mX8_take 0 := ⟨xGw_in (List.mem_of_getElem? (i := 688) (by decide +kernel)) rfl, xGw_in (List.mem_of_getElem? (i := 81) (by decide +kernel)) rfl, ⟨by decide, by decide⟩, by decide +kernel, by decide⟩
theorem iX8_take : ∀ w ∈ [Cond.instanceMethod yX8_take, Cond.selects yX8_take.cls yX8_take yX8_take], w ∈ xGw := xwords _ [686, 687] (by decide +kernel) (by decide +kernel)
theorem kX8_book : xml mX8_book 2 := ⟨xGw_in (List.mem_of_getElem? (i := 721) (by decide +kernel)) rfl, xGw_in (List.mem_of_getElem? (i := 81) (by decide +kernel)) rfl, ⟨by decide, by decide⟩, by decide +kernel, by decide⟩
theorem iX8_book : ∀ w ∈ [Cond.instanceMethod yX8_book, Cond.selects yX8_book.cls yX8_book yX8_book], w ∈ xGw := xwords _ [719, 720] (by decide +kernel) (by decide +kernel)
theorem kX8_drop : xml mX8_drop 1 := ⟨xGw_in (List.mem_of_getElem? (i := 725) (by decide +kernel)) rfl, xGw_in (List.mem_of_getElem? (i := 81) (by decide +kernel)) rfl, ⟨by decide, by decide⟩, by decide +kernel, by decide⟩
theorem iX8_drop : ∀ w ∈ [Cond.instanceMethod yX8_drop, Cond.selects yX8_drop.cls yX8_drop yX8_drop], w ∈ xGw := xwords _ [723, 724] (by decide +kernel) (by decide +kernel)
theorem kX8_open : xml mX8_open 2 := ⟨xGw_in (List.mem_of_getElem? (i := 729) (by decide +kernel)) rfl, xGw_in (List.mem_of_getElem? (i := 81) (by decide +kernel)) rfl, ⟨by decide, by decide⟩, by decide +kernel, by decide⟩
theorem iX8_open : ∀ w ∈ [Cond.instanceMethod yX8_open, Cond.selects yX8_open.cls yX8_open yX8_open], w ∈ xGw := xwords _ [727, 728] (by decide +kernel) (by decide +kernel)
theorem kX8_why : xml mX8_why 0 := ⟨xGw_in (List.mem_of_getElem? (i := 810) (by decide +kernel)) rfl, xGw_in (List.mem_of_getElem? (i := 81) (by decide +kernel)) rfl, ⟨by decide, by decide⟩, by decide +kernel, by decide⟩
theorem iX8_why : ∀ w ∈ [Cond.instanceMethod yX8_why, Cond.selects yX8_why.cls yX8_why yX8_why], w ∈ xGw := xwords _ [808, 809] (by decide +kernel) (by decide +kernel)
theorem kX8_entry : xml mX8_entry 2 := ⟨xGw_in (List.mem_of_getElem? (i := 814) (by decide +kernel)) rfl, xGw_in (List.mem_of_getElem? (i := 81) (by decide +kernel)) rfl, ⟨by decide, by decide⟩, by decide +kernel, by decide⟩
theorem iX8_entry : ∀ w ∈ [Cond.instanceMethod yX8_entry, Cond.selects yX8_entry.cls yX8_entry yX8_entry], w ∈ xGw := xwords _ [812, 813] (by decide +kernel) (by decide +kernel)
theorem kX8_close : xml mX8_close 1 := ⟨xGw_in (List.mem_of_getElem? (i := 823) (by decide +kernel)) rfl, xGw_in (List.mem_of_getElem? (i := 81) (by decide +kernel)) rfl, ⟨by decide, by decide⟩, by decide +kernel, by decide⟩
theorem iX8_close : ∀ w ∈ [Cond.instanceMethod yX8_close, Cond.selects yX8_close.cls yX8_close yX8_close], w ∈ xGw := xwords _ [821, 822] (by decide +kernel) (by decide +kernel)
theorem kX8_reopen : xml mX8_reopen 1 := ⟨xGw_in (List.mem_of_getElem? (i := 831) (by decide +kernel)) rfl, xGw_in (List.mem_of_getElem? (i := 81) (by decide +kernel)) rfl, ⟨by decide, by decide⟩, by decide +kernel, by decide⟩
theorem iX8_reopen : ∀ w ∈ [Cond.instanceMethod yX8_reopen, Cond.selects yX8_reopen.cls yX8_reopen yX8_reopen], w ∈ xGw := xwords _ [829, 830] (by decide +kernel) (by decide +kernel)
theorem kX8_overlay : xml mX8_overlay 2 := ⟨xGw_in (List.mem_of_getElem? (i := 835) (by decide +kernel)) rfl, xGw_in (List.mem_of_getElem? (i := 81) (by decide +kernel)) rfl, ⟨by decide, by decide⟩, by decide +kernel, by decide⟩
theorem iX8_overlay : ∀ w ∈ [Cond.instanceMethod yX8_overlay, Cond.selects yX8_overlay.cls yX8_overlay yX8_overlay], w ∈ xGw := xwords _ [833, 834] (by decide +kernel) (by decide +kernel)
theorem kX8_find : xml mX8_find 2 := ⟨xGw_in (List.mem_of_getElem? (i := 847) (by decide +kernel)) rfl, xGw_in (List.mem_of_getElem? (i := 81) (by decide +kernel)) rfl, ⟨by decide, by decide⟩, by decide +kernel, by decide⟩
theorem iX8_find : ∀ w ∈ [Cond.instanceMethod yX8_find, Cond.selects yX8_find.cls yX8_find yX8_find], w ∈ xGw := xwords _ [845, 846] (by decide +kernel) (by decide +kernel)
theorem kX8_path : xml mX8_path 3 := ⟨xGw_in (List.mem_of_getElem? (i := 871) (by decide +kernel)) rfl, xGw_in (List.mem_of_getElem? (i := 81) (by decide +kernel)) rfl, ⟨by decide, by decide⟩, by decide +kernel, by decide⟩
theorem iX8_path : ∀ w ∈ [Cond.instanceMethod yX8_path, Cond.selects yX8_path.cls yX8_path yX8_path], w ∈ xGw := xwords _ [869, 870] (by decide +kernel) (by decide +kernel)
theorem kX8_page : xml mX8_page 2 := ⟨xGw_in (List.mem_of_getElem? (i := 879) (by decide +kernel)) rfl, xGw_in (List.mem_of_getElem? (i := 81) (by decide +kernel)) rfl, ⟨by decide, by decide⟩, by decide +kernel, by decide⟩
theorem iX8_page : ∀ w ∈ [Cond.instanceMethod yX8_page, Cond.selects yX8_page.cls yX8_page yX8_page], w ∈ xGw := xwords _ [877, 878] (by decide +kernel) (by decide +kernel)
theorem kX8_read : xml mX8_read 3 := ⟨xGw_in (List.mem_of_getElem? (i := 892) (by decide +kernel)) rfl, xGw_in (List.mem_of_getElem? (i := 81) (by decide +kernel)) rfl, ⟨by decide, by decide⟩, by decide +kernel, by decide⟩
theorem iX8_read : ∀ w ∈ [Cond.instanceMethod yX8_read, Cond.selects yX8_read.cls yX8_read yX8_read], w ∈ xGw := xwords _ [890, 891] (by decide +kernel) (by decide +kernel)
theorem kX8_edition : xml mX8_edition 2 := ⟨xGw_in (List.mem_of_getElem? (i := 897) (by decide +kernel)) rfl, xGw_in (List.mem_of_getElem? (i := 81) (by decide +kernel)) rfl, ⟨by decide, by decide⟩, by decide +kernel, by decide⟩
theorem iX8_edition : ∀ w ∈ [Cond.instanceMethod yX8_edition, Cond.selects yX8_edition.cls yX8_edition yX8_edition], w ∈ xGw := xwords _ [895, 896] (by decide +kernel) (by decide +kernel)
theorem kX8_needed : xml mX8_needed 2 := ⟨xGw_in (List.mem_of_getElem? (i := 909) (by decide +kernel)) rfl, xGw_in (List.mem_of_getElem? (i := 81) (by decide +kernel)) rfl, ⟨by decide, by decide⟩, by decide +kernel, by decide⟩
theorem iX8_needed : ∀ w ∈ [Cond.instanceMethod yX8_needed, Cond.selects yX8_needed.cls yX8_needed yX8_needed], w ∈ xGw := xwords _ [907, 908] (by decide +kernel) (by decide +kernel)
theorem kX8_isBelow : xml mX8_isBelow 2 := ⟨xGw_in (List.mem_of_getElem? (i := 358) (by decide +kernel)) rfl, xGw_in (List.mem_of_getElem? (i := 81) (by decide +kernel)) rfl, ⟨by decide, by decide⟩, by decide +kernel, by decide⟩
theorem iX8_isBelow : Cond.static yX8_isBelow ∈ xGw := xGw_in (List.mem_of_getElem? (i := 357) (by decide +kernel)) rfl
theorem kX8_isPartSize : xml mX8_isPartSize 1 := ⟨xGw_in (List.mem_of_getElem? (i := 663) (by decide +kernel)) rfl, xGw_in (List.mem_of_getElem? (i := 81) (by decide +kernel)) rfl, ⟨by decide, by decide⟩, by decide +kernel, by decide⟩
theorem iX8_isPartSize : Cond.static yX8_isPartSize ∈ xGw := xGw_in (List.mem_of_getElem? (i := 662) (by decide +kernel)) rfl
theorem kX8_partCount : xml mX8_partCount 2 := ⟨xGw_in (List.mem_of_getElem? (i := 666) (by decide +kernel)) rfl, xGw_in (List.mem_of_getElem? (i := 81) (by decide +kernel)) rfl, ⟨by decide, by decide⟩, by decide +kernel, by decide⟩
theorem iX8_partCount : Cond.static yX8_partCount ∈ xGw := xGw_in (List.mem_of_getElem? (i := 665) (by decide +kernel)) rfl
theorem kX8_xorByte : xml mX8_xorByte 3 := ⟨xGw_in (List.mem_of_getElem? (i := 534) (by decide +kernel)) rfl, xGw_in (List.mem_of_getElem? (i := 81) (by decide +kernel)) rfl, ⟨by decide, by decide⟩, by decide +kernel, by decide⟩
theorem iX8_xorByte : Cond.static yX8_xorByte ∈ xGw := xGw_in (List.mem_of_getElem? (i := 533) (by decide +kernel)) rfl
theorem kX8_hasRowInDraft : xml mX8_hasRowInDraft 0 := ⟨xGw_in (List.mem_of_getElem? (i := 410) (by decide +kernel)) rfl, xGw_in (List.mem_of_getElem? (i := 81) (by decide +kernel)) rfl, ⟨by decide, by decide⟩, by decide +kernel, by decide⟩
theorem iX8_hasRowInDraft : ∀ w ∈ [Cond.instanceMethod yX8_hasRowInDraft, Cond.selects yX8_hasRowInDraft.cls yX8_hasRowInDraft yX8_hasRowInDraft], w ∈ xGw := xwords _ [409, 0] (by decide +kernel) (by decide +kernel)
theorem kX8_packAt : xml mX8_packAt 1 := ⟨xGw_in (List.mem_of_getElem? (i := 522) (by decide +kernel)) rfl, xGw_in (List.mem_of_getElem? (i := 81) (by decide +kernel)) rfl, ⟨by decide, by decide⟩, by decide +kernel, by decide⟩
theorem iX8_packAt : ∀ w ∈ [Cond.instanceMethod yX8_packAt, Cond.selects yX8_packAt.cls yX8_packAt yX8_packAt], w ∈ xGw := xwords _ [521, 9] (by decide +kernel) (by decide +kernel)
theorem kX8_bookAt : xml mX8_bookAt 1 := ⟨xGw_in (List.mem_of_getElem? (i := 692) (by decide +kernel)) rfl, xGw_in (List.mem_of_getElem? (i := 81) (by decide +kernel)) rfl, ⟨by decide, by decide⟩, by decide +kernel, by decide⟩
theorem iX8_bookAt : ∀ w ∈ [Cond.instanceMethod yX8_bookAt, Cond.selects yX8_bookAt.cls yX8_bookAt yX8_bookAt], w ∈ xGw := xwords _ [691, 27] (by decide +kernel) (by decide +kernel)
theorem kX8_keepDesk : xml mX8_keepDesk 0 := ⟨xGw_in (List.mem_of_getElem? (i := 507) (by decide +kernel)) rfl, xGw_in (List.mem_of_getElem? (i := 81) (by decide +kernel)) rfl, ⟨by decide, by decide⟩, by decide +kernel, by decide⟩
theorem iX8_keepDesk : ∀ w ∈ [Cond.instanceMethod yX8_keepDesk, Cond.selects yX8_keepDesk.cls yX8_keepDesk yX8_keepDesk], w ∈ xGw := xwords _ [506, 8] (by decide +kernel) (by decide +kernel)
theorem kX8_isReelSpoiled : xml mX8_isReelSpoiled 0 := ⟨xGw_in (List.mem_of_getElem? (i := 696) (by decide +kernel)) rfl, xGw_in (List.mem_of_getElem? (i := 81) (by decide +kernel)) rfl, ⟨by decide, by decide⟩, by decide +kernel, by decide⟩
theorem iX8_isReelSpoiled : ∀ w ∈ [Cond.instanceMethod yX8_isReelSpoiled, Cond.selects yX8_isReelSpoiled.cls yX8_isReelSpoiled yX8_isReelSpoiled], w ∈ xGw := xwords _ [695, 28] (by decide +kernel) (by decide +kernel)
theorem kX8_refuse : xml mX8_refuse 2 := ⟨xGw_in (List.mem_of_getElem? (i := 733) (by decide +kernel)) rfl, xGw_in (List.mem_of_getElem? (i := 81) (by decide +kernel)) rfl, ⟨by decide, by decide⟩, by decide +kernel, by decide⟩
theorem iX8_refuse : ∀ w ∈ [Cond.instanceMethod yX8_refuse, Cond.selects yX8_refuse.cls yX8_refuse yX8_refuse], w ∈ xGw := xwords _ [732, 29] (by decide +kernel) (by decide +kernel)
theorem kX8_setClosed : xml mX8_setClosed 2 := ⟨xGw_in (List.mem_of_getElem? (i := 827) (by decide +kernel)) rfl, xGw_in (List.mem_of_getElem? (i := 81) (by decide +kernel)) rfl, ⟨by decide, by decide⟩, by decide +kernel, by decide⟩
theorem iX8_setClosed : ∀ w ∈ [Cond.instanceMethod yX8_setClosed, Cond.selects yX8_setClosed.cls yX8_setClosed yX8_setClosed], w ∈ xGw := xwords _ [826, 32] (by decide +kernel) (by decide +kernel)
theorem kX8_pageEntry : xml mX8_pageEntry 2 := ⟨xGw_in (List.mem_of_getElem? (i := 883) (by decide +kernel)) rfl, xGw_in (List.mem_of_getElem? (i := 81) (by decide +kernel)) rfl, ⟨by decide, by decide⟩, by decide +kernel, by decide⟩
theorem iX8_pageEntry : ∀ w ∈ [Cond.instanceMethod yX8_pageEntry, Cond.selects yX8_pageEntry.cls yX8_pageEntry yX8_pageEntry], w ∈ xGw := xwords _ [882, 35] (by decide +kernel) (by decide +kernel)
theorem kX9_init : xml mX9_init 0 := ⟨xGw_in (List.mem_of_getElem? (i := 923) (by decide +kernel)) rfl, xGw_in (List.mem_of_getElem? (i := 90) (by decide +kernel)) rfl, ⟨by decide, by decide⟩, by decide +kernel, by decide⟩
theorem iX9_init : Cond.instanceMethod yX9_init ∈ xGw := xGw_in (List.mem_of_getElem? (i := 922) (by decide +kernel)) rfl
theorem kX9_in : xml mX9_in 2 := ⟨xGw_in (List.mem_of_getElem? (i := 1105) (by decide +kernel)) rfl, xGw_in (List.mem_of_getElem? (i := 90) (by decide +kernel)) rfl, ⟨by decide, by decide⟩, by decide +kernel, by decide⟩
theorem iX9_in : Cond.static yX9_in ∈ xGw := xGw_in (List.mem_of_getElem? (i := 1104) (by decide +kernel)) rfl
theorem kX9_draft : xml mX9_draft 3 := ⟨xGw_in (List.mem_of_getElem? (i := 1102) (by decide +kernel)) rfl, xGw_in (List.mem_of_getElem? (i := 90) (by decide +kernel)) rfl, ⟨by decide, by decide⟩, by decide +kernel, by decide⟩
theorem iX9_draft : ∀ w ∈ [Cond.instanceMethod yX9_draft, Cond.selects yX9_draft.cls yX9_draft yX9_draft], w ∈ xGw := xwords _ [1100, 1101] (by decide +kernel) (by decide +kernel)
theorem kX9_has : xml mX9_has 3 := ⟨xGw_in (List.mem_of_getElem? (i := 1112) (by decide +kernel)) rfl, xGw_in (List.mem_of_getElem? (i := 90) (by decide +kernel)) rfl, ⟨by decide, by decide⟩, by decide +kernel, by decide⟩
theorem iX9_has : Cond.static yX9_has ∈ xGw := xGw_in (List.mem_of_getElem? (i := 1111) (by decide +kernel)) rfl
theorem kX9_need : xml mX9_need 3 := ⟨xGw_in (List.mem_of_getElem? (i := 1109) (by decide +kernel)) rfl, xGw_in (List.mem_of_getElem? (i := 90) (by decide +kernel)) rfl, ⟨by decide, by decide⟩, by decide +kernel, by decide⟩
theorem iX9_need : ∀ w ∈ [Cond.instanceMethod yX9_need, Cond.selects yX9_need.cls yX9_need yX9_need], w ∈ xGw := xwords _ [1107, 1108] (by decide +kernel) (by decide +kernel)
theorem kX9_seal : xml mX9_seal 1 := ⟨xGw_in (List.mem_of_getElem? (i := 1116) (by decide +kernel)) rfl, xGw_in (List.mem_of_getElem? (i := 90) (by decide +kernel)) rfl, ⟨by decide, by decide⟩, by decide +kernel, by decide⟩
theorem iX9_seal : ∀ w ∈ [Cond.instanceMethod yX9_seal, Cond.selects yX9_seal.cls yX9_seal yX9_seal], w ∈ xGw := xwords _ [1114, 1115] (by decide +kernel) (by decide +kernel)
theorem kX9_row : xml mX9_row 2 := ⟨xGw_in (List.mem_of_getElem? (i := 1120) (by decide +kernel)) rfl, xGw_in (List.mem_of_getElem? (i := 90) (by decide +kernel)) rfl, ⟨by decide, by decide⟩, by decide +kernel, by decide⟩
theorem iX9_row : ∀ w ∈ [Cond.instanceMethod yX9_row, Cond.selects yX9_row.cls yX9_row yX9_row], w ∈ xGw := xwords _ [1118, 1119] (by decide +kernel) (by decide +kernel)
theorem kX9_one : xml mX9_one 6 := ⟨xGw_in (List.mem_of_getElem? (i := 1127) (by decide +kernel)) rfl, xGw_in (List.mem_of_getElem? (i := 90) (by decide +kernel)) rfl, ⟨by decide, by decide⟩, by decide +kernel, by decide⟩
theorem iX9_one : Cond.static yX9_one ∈ xGw := xGw_in (List.mem_of_getElem? (i := 1126) (by decide +kernel)) rfl
theorem kX9_addByte : xml mX9_addByte 1 := ⟨xGw_in (List.mem_of_getElem? (i := 1131) (by decide +kernel)) rfl, xGw_in (List.mem_of_getElem? (i := 90) (by decide +kernel)) rfl, ⟨by decide, by decide⟩, by decide +kernel, by decide⟩
theorem iX9_addByte : ∀ w ∈ [Cond.instanceMethod yX9_addByte, Cond.selects yX9_addByte.cls yX9_addByte yX9_addByte], w ∈ xGw := xwords _ [1130, 37] (by decide +kernel) (by decide +kernel)
theorem kX9_add : xml mX9_add 5 := ⟨xGw_in (List.mem_of_getElem? (i := 1124) (by decide +kernel)) rfl, xGw_in (List.mem_of_getElem? (i := 90) (by decide +kernel)) rfl, ⟨by decide, by decide⟩, by decide +kernel, by decide⟩
theorem iX9_add : ∀ w ∈ [Cond.instanceMethod yX9_add, Cond.selects yX9_add.cls yX9_add yX9_add], w ∈ xGw := xwords _ [1122, 1123] (by decide +kernel) (by decide +kernel)
theorem kX9_again : xml mX9_again 2 := ⟨xGw_in (List.mem_of_getElem? (i := 1135) (by decide +kernel)) rfl, xGw_in (List.mem_of_getElem? (i := 90) (by decide +kernel)) rfl, ⟨by decide, by decide⟩, by decide +kernel, by decide⟩
theorem iX9_again : ∀ w ∈ [Cond.instanceMethod yX9_again, Cond.selects yX9_again.cls yX9_again yX9_again], w ∈ xGw := xwords _ [1133, 1134] (by decide +kernel) (by decide +kernel)
theorem kX9_write : xml mX9_write 1 := ⟨xGw_in (List.mem_of_getElem? (i := 1147) (by decide +kernel)) rfl, xGw_in (List.mem_of_getElem? (i := 90) (by decide +kernel)) rfl, ⟨by decide, by decide⟩, by decide +kernel, by decide⟩
theorem iX9_write : ∀ w ∈ [Cond.instanceMethod yX9_write, Cond.selects yX9_write.cls yX9_write yX9_write], w ∈ xGw := xwords _ [1146, 39] (by decide +kernel) (by decide +kernel)
theorem kX9_go : xml mX9_go 2 := ⟨xGw_in (List.mem_of_getElem? (i := 1182) (by decide +kernel)) rfl, xGw_in (List.mem_of_getElem? (i := 90) (by decide +kernel)) rfl, ⟨by decide, by decide⟩, by decide +kernel, by decide⟩
theorem iX9_go : Cond.static yX9_go ∈ xGw := xGw_in (List.mem_of_getElem? (i := 1181) (by decide +kernel)) rfl
theorem kX9_writeFour : xml mX9_writeFour 1 := ⟨xGw_in (List.mem_of_getElem? (i := 1187) (by decide +kernel)) rfl, xGw_in (List.mem_of_getElem? (i := 90) (by decide +kernel)) rfl, ⟨by decide, by decide⟩, by decide +kernel, by decide⟩
theorem iX9_writeFour : ∀ w ∈ [Cond.instanceMethod yX9_writeFour, Cond.selects yX9_writeFour.cls yX9_writeFour yX9_writeFour], w ∈ xGw := xwords _ [1186, 48] (by decide +kernel) (by decide +kernel)
theorem kX9_writtenSum : xml mX9_writtenSum 1 := ⟨xGw_in (List.mem_of_getElem? (i := 1179) (by decide +kernel)) rfl, xGw_in (List.mem_of_getElem? (i := 90) (by decide +kernel)) rfl, ⟨by decide, by decide⟩, by decide +kernel, by decide⟩
theorem iX9_writtenSum : ∀ w ∈ [Cond.instanceMethod yX9_writtenSum, Cond.selects yX9_writtenSum.cls yX9_writtenSum yX9_writtenSum], w ∈ xGw := xwords _ [1178, 47] (by decide +kernel) (by decide +kernel)
theorem kX9_squeeze : xml mX9_squeeze 1 := ⟨xGw_in (List.mem_of_getElem? (i := 1159) (by decide +kernel)) rfl, xGw_in (List.mem_of_getElem? (i := 90) (by decide +kernel)) rfl, ⟨by decide, by decide⟩, by decide +kernel, by decide⟩
theorem iX9_squeeze : ∀ w ∈ [Cond.instanceMethod yX9_squeeze, Cond.selects yX9_squeeze.cls yX9_squeeze yX9_squeeze], w ∈ xGw := xwords _ [1158, 42] (by decide +kernel) (by decide +kernel)
theorem kX9_writePairs : xml mX9_writePairs 2 := ⟨xGw_in (List.mem_of_getElem? (i := 1155) (by decide +kernel)) rfl, xGw_in (List.mem_of_getElem? (i := 90) (by decide +kernel)) rfl, ⟨by decide, by decide⟩, by decide +kernel, by decide⟩
theorem iX9_writePairs : ∀ w ∈ [Cond.instanceMethod yX9_writePairs, Cond.selects yX9_writePairs.cls yX9_writePairs yX9_writePairs], w ∈ xGw := xwords _ [1154, 41] (by decide +kernel) (by decide +kernel)
theorem kX9_likeAhead : xml mX9_likeAhead 4 := ⟨xGw_in (List.mem_of_getElem? (i := 1171) (by decide +kernel)) rfl, xGw_in (List.mem_of_getElem? (i := 90) (by decide +kernel)) rfl, ⟨by decide, by decide⟩, by decide +kernel, by decide⟩
theorem iX9_likeAhead : ∀ w ∈ [Cond.instanceMethod yX9_likeAhead, Cond.selects yX9_likeAhead.cls yX9_likeAhead yX9_likeAhead], w ∈ xGw := xwords _ [1170, 45] (by decide +kernel) (by decide +kernel)
theorem kX9_bestBack : xml mX9_bestBack 3 := ⟨xGw_in (List.mem_of_getElem? (i := 1167) (by decide +kernel)) rfl, xGw_in (List.mem_of_getElem? (i := 90) (by decide +kernel)) rfl, ⟨by decide, by decide⟩, by decide +kernel, by decide⟩
theorem iX9_bestBack : ∀ w ∈ [Cond.instanceMethod yX9_bestBack, Cond.selects yX9_bestBack.cls yX9_bestBack yX9_bestBack], w ∈ xGw := xwords _ [1166, 44] (by decide +kernel) (by decide +kernel)
theorem kX9_writeOps : xml mX9_writeOps 2 := ⟨xGw_in (List.mem_of_getElem? (i := 1163) (by decide +kernel)) rfl, xGw_in (List.mem_of_getElem? (i := 90) (by decide +kernel)) rfl, ⟨by decide, by decide⟩, by decide +kernel, by decide⟩
theorem iX9_writeOps : ∀ w ∈ [Cond.instanceMethod yX9_writeOps, Cond.selects yX9_writeOps.cls yX9_writeOps yX9_writeOps], w ∈ xGw := xwords _ [1162, 43] (by decide +kernel) (by decide +kernel)
theorem kX9_writePlain : xml mX9_writePlain 2 := ⟨xGw_in (List.mem_of_getElem? (i := 1175) (by decide +kernel)) rfl, xGw_in (List.mem_of_getElem? (i := 90) (by decide +kernel)) rfl, ⟨by decide, by decide⟩, by decide +kernel, by decide⟩
theorem iX9_writePlain : ∀ w ∈ [Cond.instanceMethod yX9_writePlain, Cond.selects yX9_writePlain.cls yX9_writePlain yX9_writePlain], w ∈ xGw := xwords _ [1174, 46] (by decide +kernel) (by decide +kernel)
theorem kX9_squeezeRow : xml mX9_squeezeRow 1 := ⟨xGw_in (List.mem_of_getElem? (i := 1151) (by decide +kernel)) rfl, xGw_in (List.mem_of_getElem? (i := 90) (by decide +kernel)) rfl, ⟨by decide, by decide⟩, by decide +kernel, by decide⟩
theorem iX9_squeezeRow : ∀ w ∈ [Cond.instanceMethod yX9_squeezeRow, Cond.selects yX9_squeezeRow.cls yX9_squeezeRow yX9_squeezeRow], w ∈ xGw := xwords _ [1150, 40] (by decide +kernel) (by decide +kernel)
theorem kX9_writeHead : xml mX9_writeHead 1 := ⟨xGw_in (List.mem_of_getElem? (i := 1143) (by decide +kernel)) rfl, xGw_in (List.mem_of_getElem? (i := 90) (by decide +kernel)) rfl, ⟨by decide, by decide⟩, by decide +kernel, by decide⟩
theorem iX9_writeHead : ∀ w ∈ [Cond.instanceMethod yX9_writeHead, Cond.selects yX9_writeHead.cls yX9_writeHead yX9_writeHead], w ∈ xGw := xwords _ [1142, 38] (by decide +kernel) (by decide +kernel)
theorem kX9_pack : xml mX9_pack 1 := ⟨xGw_in (List.mem_of_getElem? (i := 1139) (by decide +kernel)) rfl, xGw_in (List.mem_of_getElem? (i := 90) (by decide +kernel)) rfl, ⟨by decide, by decide⟩, by decide +kernel, by decide⟩
theorem iX9_pack : ∀ w ∈ [Cond.instanceMethod yX9_pack, Cond.selects yX9_pack.cls yX9_pack yX9_pack], w ∈ xGw := xwords _ [1137, 1138] (by decide +kernel) (by decide +kernel)
theorem kX9_isPack : xml mX9_isPack 1 := ⟨xGw_in (List.mem_of_getElem? (i := 1195) (by decide +kernel)) rfl, xGw_in (List.mem_of_getElem? (i := 90) (by decide +kernel)) rfl, ⟨by decide, by decide⟩, by decide +kernel, by decide⟩
theorem iX9_isPack : ∀ w ∈ [Cond.instanceMethod yX9_isPack, Cond.selects yX9_isPack.cls yX9_isPack yX9_isPack], w ∈ xGw := xwords _ [1194, 49] (by decide +kernel) (by decide +kernel)
theorem kX9_isOctet : xml mX9_isOctet 2 := ⟨xGw_in (List.mem_of_getElem? (i := 1203) (by decide +kernel)) rfl, xGw_in (List.mem_of_getElem? (i := 90) (by decide +kernel)) rfl, ⟨by decide, by decide⟩, by decide +kernel, by decide⟩
theorem iX9_isOctet : ∀ w ∈ [Cond.instanceMethod yX9_isOctet, Cond.selects yX9_isOctet.cls yX9_isOctet yX9_isOctet], w ∈ xGw := xwords _ [1202, 50] (by decide +kernel) (by decide +kernel)
theorem kX9_length : xml mX9_length 1 := ⟨xGw_in (List.mem_of_getElem? (i := 1191) (by decide +kernel)) rfl, xGw_in (List.mem_of_getElem? (i := 90) (by decide +kernel)) rfl, ⟨by decide, by decide⟩, by decide +kernel, by decide⟩
theorem iX9_length : ∀ w ∈ [Cond.instanceMethod yX9_length, Cond.selects yX9_length.cls yX9_length yX9_length], w ∈ xGw := xwords _ [1189, 1190] (by decide +kernel) (by decide +kernel)
theorem kX9_octet : xml mX9_octet 2 := ⟨xGw_in (List.mem_of_getElem? (i := 1199) (by decide +kernel)) rfl, xGw_in (List.mem_of_getElem? (i := 90) (by decide +kernel)) rfl, ⟨by decide, by decide⟩, by decide +kernel, by decide⟩
theorem iX9_octet : ∀ w ∈ [Cond.instanceMethod yX9_octet, Cond.selects yX9_octet.cls yX9_octet yX9_octet], w ∈ xGw := xwords _ [1197, 1198] (by decide +kernel) (by decide +kernel)
theorem kX9_spoil : xml mX9_spoil 3 := ⟨xGw_in (List.mem_of_getElem? (i := 1207) (by decide +kernel)) rfl, xGw_in (List.mem_of_getElem? (i := 90) (by decide +kernel)) rfl, ⟨by decide, by decide⟩, by decide +kernel, by decide⟩
theorem iX9_spoil : ∀ w ∈ [Cond.instanceMethod yX9_spoil, Cond.selects yX9_spoil.cls yX9_spoil yX9_spoil], w ∈ xGw := xwords _ [1205, 1206] (by decide +kernel) (by decide +kernel)
theorem kX9_trim : xml mX9_trim 2 := ⟨xGw_in (List.mem_of_getElem? (i := 1211) (by decide +kernel)) rfl, xGw_in (List.mem_of_getElem? (i := 90) (by decide +kernel)) rfl, ⟨by decide, by decide⟩, by decide +kernel, by decide⟩
theorem iX9_trim : ∀ w ∈ [Cond.instanceMethod yX9_trim, Cond.selects yX9_trim.cls yX9_trim yX9_trim], w ∈ xGw := xwords _ [1209, 1210] (by decide +kernel) (by decide +kernel)
theorem kX9_here : xml mX9_here 1 := ⟨xGw_in (List.mem_of_getElem? (i := 1235) (by decide +kernel)) rfl, xGw_in (List.mem_of_getElem? (i := 90) (by decide +kernel)) rfl, ⟨by decide, by decide⟩, by decide +kernel, by decide⟩
theorem iX9_here : ∀ w ∈ [Cond.instanceMethod yX9_here, Cond.selects yX9_here.cls yX9_here yX9_here], w ∈ xGw := xwords _ [1234, 55] (by decide +kernel) (by decide +kernel)
theorem kX9_want : xml mX9_want 1 := ⟨xGw_in (List.mem_of_getElem? (i := 1231) (by decide +kernel)) rfl, xGw_in (List.mem_of_getElem? (i := 90) (by decide +kernel)) rfl, ⟨by decide, by decide⟩, by decide +kernel, by decide⟩
theorem iX9_want : ∀ w ∈ [Cond.instanceMethod yX9_want, Cond.selects yX9_want.cls yX9_want yX9_want], w ∈ xGw := xwords _ [1230, 54] (by decide +kernel) (by decide +kernel)
theorem kX9_came : xml mX9_came 4 := ⟨xGw_in (List.mem_of_getElem? (i := 1243) (by decide +kernel)) rfl, xGw_in (List.mem_of_getElem? (i := 90) (by decide +kernel)) rfl, ⟨by decide, by decide⟩, by decide +kernel, by decide⟩
theorem iX9_came : ∀ w ∈ [Cond.instanceMethod yX9_came, Cond.selects yX9_came.cls yX9_came yX9_came], w ∈ xGw := xwords _ [1242, 57] (by decide +kernel) (by decide +kernel)
theorem kX9_wantNew : xml mX9_wantNew 4 := ⟨xGw_in (List.mem_of_getElem? (i := 1239) (by decide +kernel)) rfl, xGw_in (List.mem_of_getElem? (i := 90) (by decide +kernel)) rfl, ⟨by decide, by decide⟩, by decide +kernel, by decide⟩
theorem iX9_wantNew : ∀ w ∈ [Cond.instanceMethod yX9_wantNew, Cond.selects yX9_wantNew.cls yX9_wantNew yX9_wantNew], w ∈ xGw := xwords _ [1238, 56] (by decide +kernel) (by decide +kernel)
theorem kX9_exactly : xml mX9_exactly 1 := ⟨xGw_in (List.mem_of_getElem? (i := 1227) (by decide +kernel)) rfl, xGw_in (List.mem_of_getElem? (i := 90) (by decide +kernel)) rfl, ⟨by decide, by decide⟩, by decide +kernel, by decide⟩
theorem iX9_exactly : ∀ w ∈ [Cond.instanceMethod yX9_exactly, Cond.selects yX9_exactly.cls yX9_exactly yX9_exactly], w ∈ xGw := xwords _ [1226, 53] (by decide +kernel) (by decide +kernel)
theorem kX9_wantTwo : xml mX9_wantTwo 1 := ⟨xGw_in (List.mem_of_getElem? (i := 1247) (by decide +kernel)) rfl, xGw_in (List.mem_of_getElem? (i := 90) (by decide +kernel)) rfl, ⟨by decide, by decide⟩, by decide +kernel, by decide⟩
theorem iX9_wantTwo : ∀ w ∈ [Cond.instanceMethod yX9_wantTwo, Cond.selects yX9_wantTwo.cls yX9_wantTwo yX9_wantTwo], w ∈ xGw := xwords _ [1246, 58] (by decide +kernel) (by decide +kernel)
theorem kX9_readHead : xml mX9_readHead 0 := ⟨xGw_in (List.mem_of_getElem? (i := 1223) (by decide +kernel)) rfl, xGw_in (List.mem_of_getElem? (i := 90) (by decide +kernel)) rfl, ⟨by decide, by decide⟩, by decide +kernel, by decide⟩
theorem iX9_readHead : ∀ w ∈ [Cond.instanceMethod yX9_readHead, Cond.selects yX9_readHead.cls yX9_readHead yX9_readHead], w ∈ xGw := xwords _ [1222, 52] (by decide +kernel) (by decide +kernel)
theorem kX9_readPlain : xml mX9_readPlain 2 := ⟨xGw_in (List.mem_of_getElem? (i := 1251) (by decide +kernel)) rfl, xGw_in (List.mem_of_getElem? (i := 90) (by decide +kernel)) rfl, ⟨by decide, by decide⟩, by decide +kernel, by decide⟩
theorem iX9_readPlain : ∀ w ∈ [Cond.instanceMethod yX9_readPlain, Cond.selects yX9_readPlain.cls yX9_readPlain yX9_readPlain], w ∈ xGw := xwords _ [1250, 59] (by decide +kernel) (by decide +kernel)
theorem kX9_readPairs : xml mX9_readPairs 2 := ⟨xGw_in (List.mem_of_getElem? (i := 1255) (by decide +kernel)) rfl, xGw_in (List.mem_of_getElem? (i := 90) (by decide +kernel)) rfl, ⟨by decide, by decide⟩, by decide +kernel, by decide⟩
theorem iX9_readPairs : ∀ w ∈ [Cond.instanceMethod yX9_readPairs, Cond.selects yX9_readPairs.cls yX9_readPairs yX9_readPairs], w ∈ xGw := xwords _ [1254, 60] (by decide +kernel) (by decide +kernel)
theorem kX9_readOps : xml mX9_readOps 2 := ⟨xGw_in (List.mem_of_getElem? (i := 1259) (by decide +kernel)) rfl, xGw_in (List.mem_of_getElem? (i := 90) (by decide +kernel)) rfl, ⟨by decide, by decide⟩, by decide +kernel, by decide⟩
theorem iX9_readOps : ∀ w ∈ [Cond.instanceMethod yX9_readOps, Cond.selects yX9_readOps.cls yX9_readOps yX9_readOps], w ∈ xGw := xwords _ [1258, 61] (by decide +kernel) (by decide +kernel)
theorem kX9_sumOf : xml mX9_sumOf 2 := ⟨xGw_in (List.mem_of_getElem? (i := 1263) (by decide +kernel)) rfl, xGw_in (List.mem_of_getElem? (i := 90) (by decide +kernel)) rfl, ⟨by decide, by decide⟩, by decide +kernel, by decide⟩
theorem iX9_sumOf : ∀ w ∈ [Cond.instanceMethod yX9_sumOf, Cond.selects yX9_sumOf.cls yX9_sumOf yX9_sumOf], w ∈ xGw := xwords _ [1262, 62] (by decide +kernel) (by decide +kernel)
theorem kX9_isSigned : xml mX9_isSigned 0 := ⟨xGw_in (List.mem_of_getElem? (i := 1267) (by decide +kernel)) rfl, xGw_in (List.mem_of_getElem? (i := 90) (by decide +kernel)) rfl, ⟨by decide, by decide⟩, by decide +kernel, by decide⟩
theorem iX9_isSigned : ∀ w ∈ [Cond.instanceMethod yX9_isSigned, Cond.selects yX9_isSigned.cls yX9_isSigned yX9_isSigned], w ∈ xGw := xwords _ [1266, 63] (by decide +kernel) (by decide +kernel)
theorem kX9_wrong : xml mX9_wrong 1 := ⟨xGw_in (List.mem_of_getElem? (i := 1219) (by decide +kernel)) rfl, xGw_in (List.mem_of_getElem? (i := 90) (by decide +kernel)) rfl, ⟨by decide, by decide⟩, by decide +kernel, by decide⟩
theorem iX9_wrong : ∀ w ∈ [Cond.instanceMethod yX9_wrong, Cond.selects yX9_wrong.cls yX9_wrong yX9_wrong], w ∈ xGw := xwords _ [1218, 51] (by decide +kernel) (by decide +kernel)
theorem kX9_check : xml mX9_check 1 := ⟨xGw_in (List.mem_of_getElem? (i := 1215) (by decide +kernel)) rfl, xGw_in (List.mem_of_getElem? (i := 90) (by decide +kernel)) rfl, ⟨by decide, by decide⟩, by decide +kernel, by decide⟩
theorem iX9_check : ∀ w ∈ [Cond.instanceMethod yX9_check, Cond.selects yX9_check.cls yX9_check yX9_check], w ∈ xGw := xwords _ [1213, 1214] (by decide +kernel) (by decide +kernel)
theorem kX9_signer : xml mX9_signer 2 := ⟨xGw_in (List.mem_of_getElem? (i := 1271) (by decide +kernel)) rfl, xGw_in (List.mem_of_getElem? (i := 90) (by decide +kernel)) rfl, ⟨by decide, by decide⟩, by decide +kernel, by decide⟩
theorem iX9_signer : ∀ w ∈ [Cond.instanceMethod yX9_signer, Cond.selects yX9_signer.cls yX9_signer yX9_signer], w ∈ xGw := xwords _ [1269, 1270] (by decide +kernel) (by decide +kernel)
theorem kX9_parts : xml mX9_parts 2 := ⟨xGw_in (List.mem_of_getElem? (i := 1275) (by decide +kernel)) rfl, xGw_in (List.mem_of_getElem? (i := 90) (by decide +kernel)) rfl, ⟨by decide, by decide⟩, by decide +kernel, by decide⟩
theorem iX9_parts : ∀ w ∈ [Cond.instanceMethod yX9_parts, Cond.selects yX9_parts.cls yX9_parts yX9_parts], w ∈ xGw := xwords _ [1273, 1274] (by decide +kernel) (by decide +kernel)
theorem kX9_tapeSum : xml mX9_tapeSum 1 := ⟨xGw_in (List.mem_of_getElem? (i := 1284) (by decide +kernel)) rfl, xGw_in (List.mem_of_getElem? (i := 90) (by decide +kernel)) rfl, ⟨by decide, by decide⟩, by decide +kernel, by decide⟩
theorem iX9_tapeSum : ∀ w ∈ [Cond.instanceMethod yX9_tapeSum, Cond.selects yX9_tapeSum.cls yX9_tapeSum yX9_tapeSum], w ∈ xGw := xwords _ [1283, 64] (by decide +kernel) (by decide +kernel)
theorem kX9_load : xml mX9_load 3 := ⟨xGw_in (List.mem_of_getElem? (i := 1279) (by decide +kernel)) rfl, xGw_in (List.mem_of_getElem? (i := 90) (by decide +kernel)) rfl, ⟨by decide, by decide⟩, by decide +kernel, by decide⟩
theorem iX9_load : ∀ w ∈ [Cond.instanceMethod yX9_load, Cond.selects yX9_load.cls yX9_load yX9_load], w ∈ xGw := xwords _ [1277, 1278] (by decide +kernel) (by decide +kernel)
theorem kX9_tape : xml mX9_tape 1 := ⟨xGw_in (List.mem_of_getElem? (i := 1288) (by decide +kernel)) rfl, xGw_in (List.mem_of_getElem? (i := 90) (by decide +kernel)) rfl, ⟨by decide, by decide⟩, by decide +kernel, by decide⟩
theorem iX9_tape : ∀ w ∈ [Cond.instanceMethod yX9_tape, Cond.selects yX9_tape.cls yX9_tape yX9_tape], w ∈ xGw := xwords _ [1286, 1287] (by decide +kernel) (by decide +kernel)
theorem kX9_bend : xml mX9_bend 2 := ⟨xGw_in (List.mem_of_getElem? (i := 1292) (by decide +kernel)) rfl, xGw_in (List.mem_of_getElem? (i := 90) (by decide +kernel)) rfl, ⟨by decide, by decide⟩, by decide +kernel, by decide⟩
theorem iX9_bend : ∀ w ∈ [Cond.instanceMethod yX9_bend, Cond.selects yX9_bend.cls yX9_bend yX9_bend], w ∈ xGw := xwords _ [1290, 1291] (by decide +kernel) (by decide +kernel)
theorem kX9_isSpoiled : xml mX9_isSpoiled 0 := ⟨xGw_in (List.mem_of_getElem? (i := 1300) (by decide +kernel)) rfl, xGw_in (List.mem_of_getElem? (i := 90) (by decide +kernel)) rfl, ⟨by decide, by decide⟩, by decide +kernel, by decide⟩
theorem iX9_isSpoiled : ∀ w ∈ [Cond.instanceMethod yX9_isSpoiled, Cond.selects yX9_isSpoiled.cls yX9_isSpoiled yX9_isSpoiled], w ∈ xGw := xwords _ [1299, 65] (by decide +kernel) (by decide +kernel)
theorem kX9_bookLength : xml mX9_bookLength 1 := ⟨xGw_in (List.mem_of_getElem? (i := 1304) (by decide +kernel)) rfl, xGw_in (List.mem_of_getElem? (i := 90) (by decide +kernel)) rfl, ⟨by decide, by decide⟩, by decide +kernel, by decide⟩
theorem iX9_bookLength : ∀ w ∈ [Cond.instanceMethod yX9_bookLength, Cond.selects yX9_bookLength.cls yX9_bookLength yX9_bookLength], w ∈ xGw := xwords _ [1303, 66] (by decide +kernel) (by decide +kernel)
theorem kX9_emptyBook : xml mX9_emptyBook 1 := ⟨xGw_in (List.mem_of_getElem? (i := 1312) (by decide +kernel)) rfl, xGw_in (List.mem_of_getElem? (i := 90) (by decide +kernel)) rfl, ⟨by decide, by decide⟩, by decide +kernel, by decide⟩
theorem iX9_emptyBook : ∀ w ∈ [Cond.instanceMethod yX9_emptyBook, Cond.selects yX9_emptyBook.cls yX9_emptyBook yX9_emptyBook], w ∈ xGw := xwords _ [1311, 68] (by decide +kernel) (by decide +kernel)
theorem kX9_join : xml mX9_join 1 := ⟨xGw_in (List.mem_of_getElem? (i := 1308) (by decide +kernel)) rfl, xGw_in (List.mem_of_getElem? (i := 90) (by decide +kernel)) rfl, ⟨by decide, by decide⟩, by decide +kernel, by decide⟩
theorem iX9_join : ∀ w ∈ [Cond.instanceMethod yX9_join, Cond.selects yX9_join.cls yX9_join yX9_join], w ∈ xGw := xwords _ [1307, 67] (by decide +kernel) (by decide +kernel)
theorem kX9_take : xml mX9_take 0 := ⟨xGw_in (List.mem_of_getElem? (i := 1296) (by decide +kernel)) rfl, xGw_in (List.mem_of_getElem? (i := 90) (by decide +kernel)) rfl, ⟨by decide, by decide⟩, by decide +kernel, by decide⟩
theorem iX9_take : ∀ w ∈ [Cond.instanceMethod yX9_take, Cond.selects yX9_take.cls yX9_take yX9_take], w ∈ xGw := xwords _ [1294, 1295] (by decide +kernel) (by decide +kernel)
theorem kX9_book : xml mX9_book 2 := ⟨xGw_in (List.mem_of_getElem? (i := 1316) (by decide +kernel)) rfl, xGw_in (List.mem_of_getElem? (i := 90) (by decide +kernel)) rfl, ⟨by decide, by decide⟩, by decide +kernel, by decide⟩
theorem iX9_book : ∀ w ∈ [Cond.instanceMethod yX9_book, Cond.selects yX9_book.cls yX9_book yX9_book], w ∈ xGw := xwords _ [1314, 1315] (by decide +kernel) (by decide +kernel)
theorem kX9_drop : xml mX9_drop 1 := ⟨xGw_in (List.mem_of_getElem? (i := 1320) (by decide +kernel)) rfl, xGw_in (List.mem_of_getElem? (i := 90) (by decide +kernel)) rfl, ⟨by decide, by decide⟩, by decide +kernel, by decide⟩
theorem iX9_drop : ∀ w ∈ [Cond.instanceMethod yX9_drop, Cond.selects yX9_drop.cls yX9_drop yX9_drop], w ∈ xGw := xwords _ [1318, 1319] (by decide +kernel) (by decide +kernel)
theorem kX9_meeting : xml mX9_meeting 3 := ⟨xGw_in (List.mem_of_getElem? (i := 1337) (by decide +kernel)) rfl, xGw_in (List.mem_of_getElem? (i := 90) (by decide +kernel)) rfl, ⟨by decide, by decide⟩, by decide +kernel, by decide⟩
theorem iX9_meeting : ∀ w ∈ [Cond.instanceMethod yX9_meeting, Cond.selects yX9_meeting.cls yX9_meeting yX9_meeting], w ∈ xGw := xwords _ [1336, 71] (by decide +kernel) (by decide +kernel)
theorem kX9_findSeen : xml mX9_findSeen 1 := ⟨xGw_in (List.mem_of_getElem? (i := 1345) (by decide +kernel)) rfl, xGw_in (List.mem_of_getElem? (i := 90) (by decide +kernel)) rfl, ⟨by decide, by decide⟩, by decide +kernel, by decide⟩
theorem iX9_findSeen : ∀ w ∈ [Cond.instanceMethod yX9_findSeen, Cond.selects yX9_findSeen.cls yX9_findSeen yX9_findSeen], w ∈ xGw := xwords _ [1344, 73] (by decide +kernel) (by decide +kernel)
theorem kX9_hasRowOf : xml mX9_hasRowOf 2 := ⟨xGw_in (List.mem_of_getElem? (i := 1353) (by decide +kernel)) rfl, xGw_in (List.mem_of_getElem? (i := 90) (by decide +kernel)) rfl, ⟨by decide, by decide⟩, by decide +kernel, by decide⟩
theorem iX9_hasRowOf : ∀ w ∈ [Cond.instanceMethod yX9_hasRowOf, Cond.selects yX9_hasRowOf.cls yX9_hasRowOf yX9_hasRowOf], w ∈ xGw := xwords _ [1352, 75] (by decide +kernel) (by decide +kernel)
theorem kX9_seals : xml mX9_seals 2 := ⟨xGw_in (List.mem_of_getElem? (i := 1349) (by decide +kernel)) rfl, xGw_in (List.mem_of_getElem? (i := 90) (by decide +kernel)) rfl, ⟨by decide, by decide⟩, by decide +kernel, by decide⟩
theorem iX9_seals : ∀ w ∈ [Cond.instanceMethod yX9_seals, Cond.selects yX9_seals.cls yX9_seals yX9_seals], w ∈ xGw := xwords _ [1348, 74] (by decide +kernel) (by decide +kernel)
theorem kX9_sealedGroup : xml mX9_sealedGroup 1 := ⟨xGw_in (List.mem_of_getElem? (i := 1341) (by decide +kernel)) rfl, xGw_in (List.mem_of_getElem? (i := 90) (by decide +kernel)) rfl, ⟨by decide, by decide⟩, by decide +kernel, by decide⟩
theorem iX9_sealedGroup : ∀ w ∈ [Cond.instanceMethod yX9_sealedGroup, Cond.selects yX9_sealedGroup.cls yX9_sealedGroup yX9_sealedGroup], w ∈ xGw := xwords _ [1340, 72] (by decide +kernel) (by decide +kernel)
theorem kX9_unpack : xml mX9_unpack 5 := ⟨xGw_in (List.mem_of_getElem? (i := 1333) (by decide +kernel)) rfl, xGw_in (List.mem_of_getElem? (i := 90) (by decide +kernel)) rfl, ⟨by decide, by decide⟩, by decide +kernel, by decide⟩
theorem iX9_unpack : ∀ w ∈ [Cond.instanceMethod yX9_unpack, Cond.selects yX9_unpack.cls yX9_unpack yX9_unpack], w ∈ xGw := xwords _ [1332, 70] (by decide +kernel) (by decide +kernel)
theorem kX9_layDown : xml mX9_layDown 1 := ⟨xGw_in (List.mem_of_getElem? (i := 1329) (by decide +kernel)) rfl, xGw_in (List.mem_of_getElem? (i := 90) (by decide +kernel)) rfl, ⟨by decide, by decide⟩, by decide +kernel, by decide⟩
theorem iX9_layDown : ∀ w ∈ [Cond.instanceMethod yX9_layDown, Cond.selects yX9_layDown.cls yX9_layDown yX9_layDown], w ∈ xGw := xwords _ [1328, 69] (by decide +kernel) (by decide +kernel)
theorem kX9_open : xml mX9_open 2 := ⟨xGw_in (List.mem_of_getElem? (i := 1324) (by decide +kernel)) rfl, xGw_in (List.mem_of_getElem? (i := 90) (by decide +kernel)) rfl, ⟨by decide, by decide⟩, by decide +kernel, by decide⟩
theorem iX9_open : ∀ w ∈ [Cond.instanceMethod yX9_open, Cond.selects yX9_open.cls yX9_open yX9_open], w ∈ xGw := xwords _ [1322, 1323] (by decide +kernel) (by decide +kernel)
theorem kX9_why : xml mX9_why 0 := ⟨xGw_in (List.mem_of_getElem? (i := 1357) (by decide +kernel)) rfl, xGw_in (List.mem_of_getElem? (i := 90) (by decide +kernel)) rfl, ⟨by decide, by decide⟩, by decide +kernel, by decide⟩
theorem iX9_why : ∀ w ∈ [Cond.instanceMethod yX9_why, Cond.selects yX9_why.cls yX9_why yX9_why], w ∈ xGw := xwords _ [1355, 1356] (by decide +kernel) (by decide +kernel)
theorem kX9_isEntry : xml mX9_isEntry 1 := ⟨xGw_in (List.mem_of_getElem? (i := 1365) (by decide +kernel)) rfl, xGw_in (List.mem_of_getElem? (i := 90) (by decide +kernel)) rfl, ⟨by decide, by decide⟩, by decide +kernel, by decide⟩
theorem iX9_isEntry : ∀ w ∈ [Cond.instanceMethod yX9_isEntry, Cond.selects yX9_isEntry.cls yX9_isEntry yX9_isEntry], w ∈ xGw := xwords _ [1364, 76] (by decide +kernel) (by decide +kernel)
theorem kX9_entry : xml mX9_entry 2 := ⟨xGw_in (List.mem_of_getElem? (i := 1361) (by decide +kernel)) rfl, xGw_in (List.mem_of_getElem? (i := 90) (by decide +kernel)) rfl, ⟨by decide, by decide⟩, by decide +kernel, by decide⟩
theorem iX9_entry : ∀ w ∈ [Cond.instanceMethod yX9_entry, Cond.selects yX9_entry.cls yX9_entry yX9_entry], w ∈ xGw := xwords _ [1359, 1360] (by decide +kernel) (by decide +kernel)
theorem kX9_close : xml mX9_close 1 := ⟨xGw_in (List.mem_of_getElem? (i := 1369) (by decide +kernel)) rfl, xGw_in (List.mem_of_getElem? (i := 90) (by decide +kernel)) rfl, ⟨by decide, by decide⟩, by decide +kernel, by decide⟩
theorem iX9_close : ∀ w ∈ [Cond.instanceMethod yX9_close, Cond.selects yX9_close.cls yX9_close yX9_close], w ∈ xGw := xwords _ [1367, 1368] (by decide +kernel) (by decide +kernel)
theorem kX9_reopen : xml mX9_reopen 1 := ⟨xGw_in (List.mem_of_getElem? (i := 1373) (by decide +kernel)) rfl, xGw_in (List.mem_of_getElem? (i := 90) (by decide +kernel)) rfl, ⟨by decide, by decide⟩, by decide +kernel, by decide⟩
theorem iX9_reopen : ∀ w ∈ [Cond.instanceMethod yX9_reopen, Cond.selects yX9_reopen.cls yX9_reopen yX9_reopen], w ∈ xGw := xwords _ [1371, 1372] (by decide +kernel) (by decide +kernel)
theorem kX9_overlay : xml mX9_overlay 2 := ⟨xGw_in (List.mem_of_getElem? (i := 1377) (by decide +kernel)) rfl, xGw_in (List.mem_of_getElem? (i := 90) (by decide +kernel)) rfl, ⟨by decide, by decide⟩, by decide +kernel, by decide⟩
theorem iX9_overlay : ∀ w ∈ [Cond.instanceMethod yX9_overlay, Cond.selects yX9_overlay.cls yX9_overlay yX9_overlay], w ∈ xGw := xwords _ [1375, 1376] (by decide +kernel) (by decide +kernel)
theorem kX9_rowOf : xml mX9_rowOf 2 := ⟨xGw_in (List.mem_of_getElem? (i := 1393) (by decide +kernel)) rfl, xGw_in (List.mem_of_getElem? (i := 90) (by decide +kernel)) rfl, ⟨by decide, by decide⟩, by decide +kernel, by decide⟩
theorem iX9_rowOf : ∀ w ∈ [Cond.instanceMethod yX9_rowOf, Cond.selects yX9_rowOf.cls yX9_rowOf yX9_rowOf], w ∈ xGw := xwords _ [1392, 79] (by decide +kernel) (by decide +kernel)
theorem kX9_looks : xml mX9_looks 2 := ⟨xGw_in (List.mem_of_getElem? (i := 1389) (by decide +kernel)) rfl, xGw_in (List.mem_of_getElem? (i := 90) (by decide +kernel)) rfl, ⟨by decide, by decide⟩, by decide +kernel, by decide⟩
theorem iX9_looks : ∀ w ∈ [Cond.instanceMethod yX9_looks, Cond.selects yX9_looks.cls yX9_looks yX9_looks], w ∈ xGw := xwords _ [1388, 78] (by decide +kernel) (by decide +kernel)
theorem kX9_ask : xml mX9_ask 2 := ⟨xGw_in (List.mem_of_getElem? (i := 1385) (by decide +kernel)) rfl, xGw_in (List.mem_of_getElem? (i := 90) (by decide +kernel)) rfl, ⟨by decide, by decide⟩, by decide +kernel, by decide⟩
theorem iX9_ask : ∀ w ∈ [Cond.instanceMethod yX9_ask, Cond.selects yX9_ask.cls yX9_ask yX9_ask], w ∈ xGw := xwords _ [1384, 77] (by decide +kernel) (by decide +kernel)
theorem kX9_find : xml mX9_find 2 := ⟨xGw_in (List.mem_of_getElem? (i := 1381) (by decide +kernel)) rfl, xGw_in (List.mem_of_getElem? (i := 90) (by decide +kernel)) rfl, ⟨by decide, by decide⟩, by decide +kernel, by decide⟩
theorem iX9_find : ∀ w ∈ [Cond.instanceMethod yX9_find, Cond.selects yX9_find.cls yX9_find yX9_find], w ∈ xGw := xwords _ [1379, 1380] (by decide +kernel) (by decide +kernel)
theorem kX9_path : xml mX9_path 3 := ⟨xGw_in (List.mem_of_getElem? (i := 1397) (by decide +kernel)) rfl, xGw_in (List.mem_of_getElem? (i := 90) (by decide +kernel)) rfl, ⟨by decide, by decide⟩, by decide +kernel, by decide⟩
theorem iX9_path : ∀ w ∈ [Cond.instanceMethod yX9_path, Cond.selects yX9_path.cls yX9_path yX9_path], w ∈ xGw := xwords _ [1395, 1396] (by decide +kernel) (by decide +kernel)
theorem kX9_page : xml mX9_page 2 := ⟨xGw_in (List.mem_of_getElem? (i := 1401) (by decide +kernel)) rfl, xGw_in (List.mem_of_getElem? (i := 90) (by decide +kernel)) rfl, ⟨by decide, by decide⟩, by decide +kernel, by decide⟩
theorem iX9_page : ∀ w ∈ [Cond.instanceMethod yX9_page, Cond.selects yX9_page.cls yX9_page yX9_page], w ∈ xGw := xwords _ [1399, 1400] (by decide +kernel) (by decide +kernel)
theorem kX9_read : xml mX9_read 3 := ⟨xGw_in (List.mem_of_getElem? (i := 1405) (by decide +kernel)) rfl, xGw_in (List.mem_of_getElem? (i := 90) (by decide +kernel)) rfl, ⟨by decide, by decide⟩, by decide +kernel, by decide⟩
theorem iX9_read : ∀ w ∈ [Cond.instanceMethod yX9_read, Cond.selects yX9_read.cls yX9_read yX9_read], w ∈ xGw := xwords _ [1403, 1404] (by decide +kernel) (by decide +kernel)
theorem kX9_edition : xml mX9_edition 2 := ⟨xGw_in (List.mem_of_getElem? (i := 1410) (by decide +kernel)) rfl, xGw_in (List.mem_of_getElem? (i := 90) (by decide +kernel)) rfl, ⟨by decide, by decide⟩, by decide +kernel, by decide⟩
theorem iX9_edition : ∀ w ∈ [Cond.instanceMethod yX9_edition, Cond.selects yX9_edition.cls yX9_edition yX9_edition], w ∈ xGw := xwords _ [1408, 1409] (by decide +kernel) (by decide +kernel)
theorem kX9_needed : xml mX9_needed 2 := ⟨xGw_in (List.mem_of_getElem? (i := 1414) (by decide +kernel)) rfl, xGw_in (List.mem_of_getElem? (i := 90) (by decide +kernel)) rfl, ⟨by decide, by decide⟩, by decide +kernel, by decide⟩
theorem iX9_needed : ∀ w ∈ [Cond.instanceMethod yX9_needed, Cond.selects yX9_needed.cls yX9_needed yX9_needed], w ∈ xGw := xwords _ [1412, 1413] (by decide +kernel) (by decide +kernel)
theorem kJ9_max_7cf53 : xml mJ9_max_7cf53 2 := ⟨xGw_in (List.mem_of_getElem? (i := 196) (by decide +kernel)) rfl, xGw_in (List.mem_of_getElem? (i := 84) (by decide +kernel)) rfl, ⟨by decide, by decide⟩, by decide +kernel, by decide⟩
theorem iJ9_max_7cf53 : Cond.static yJ9_max_7cf53 ∈ xGw := xGw_in (List.mem_of_getElem? (i := 195) (by decide +kernel)) rfl
theorem kJ9_min_7cf53 : xml mJ9_min_7cf53 2 := ⟨xGw_in (List.mem_of_getElem? (i := 470) (by decide +kernel)) rfl, xGw_in (List.mem_of_getElem? (i := 84) (by decide +kernel)) rfl, ⟨by decide, by decide⟩, by decide +kernel, by decide⟩
theorem iJ9_min_7cf53 : Cond.static yJ9_min_7cf53 ∈ xGw := xGw_in (List.mem_of_getElem? (i := 469) (by decide +kernel)) rfl
end
section
/-- the classes by number: 10 is the law -/
def xcn (n : Nat) : String := match n with
  | 0 => RX0
  | 1 => RX1
  | 2 => RX2
  | 3 => RX3
  | 4 => RX4
  | 5 => RX5
  | 6 => RX6
  | 7 => RX7
  | 8 => RX8
  | 9 => RX9
  | _ => RL
def flX0 : List (Nat × Nat × Nat) := [(11, 0, 0), (21, 1, 1), (29, 0, 1), (32, 0, 2), (35, 0, 3)]
theorem flX0_ok : ∀ q ∈ flX0, xfl RX0 q.1 q.2.1 q.2.2 := List.forall_mem_cons.mpr ⟨fX0_11, List.forall_mem_cons.mpr ⟨fX0_21, List.forall_mem_cons.mpr ⟨fX0_29, List.forall_mem_cons.mpr ⟨fX0_32, List.forall_mem_cons.mpr ⟨fX0_35, fun _ h => absurd h List.not_mem_nil⟩⟩⟩⟩⟩
def flX1 : List (Nat × Nat × Nat) := [(15, 1, 0), (21, 1, 1)]
theorem flX1_ok : ∀ q ∈ flX1, xfl RX1 q.1 q.2.1 q.2.2 := List.forall_mem_cons.mpr ⟨fX1_15, List.forall_mem_cons.mpr ⟨fX1_21, fun _ h => absurd h List.not_mem_nil⟩⟩
def flX2 : List (Nat × Nat × Nat) := [(9, 2, 4), (15, 2, 5), (18, 2, 6), (22, 2, 8), (25, 2, 10), (28, 2, 11), (31, 2, 12), (36, 2, 13), (39, 2, 3), (43, 2, 7), (47, 2, 9), (50, 2, 14), (53, 2, 0), (56, 2, 1), (59, 2, 2)]
theorem flX2_ok : ∀ q ∈ flX2, xfl RX2 q.1 q.2.1 q.2.2 := List.forall_mem_cons.mpr ⟨fX2_9, List.forall_mem_cons.mpr ⟨fX2_15, List.forall_mem_cons.mpr ⟨fX2_18, List.forall_mem_cons.mpr ⟨fX2_22, List.forall_mem_cons.mpr ⟨fX2_25, List.forall_mem_cons.mpr ⟨fX2_28, List.forall_mem_cons.mpr ⟨fX2_31, List.forall_mem_cons.mpr ⟨fX2_36, List.forall_mem_cons.mpr ⟨fX2_39, List.forall_mem_cons.mpr ⟨fX2_43, List.forall_mem_cons.mpr ⟨fX2_47, List.forall_mem_cons.mpr ⟨fX2_50, List.forall_mem_cons.mpr ⟨fX2_53, List.forall_mem_cons.mpr ⟨fX2_56, List.forall_mem_cons.mpr ⟨fX2_59, fun _ h => absurd h List.not_mem_nil⟩⟩⟩⟩⟩⟩⟩⟩⟩⟩⟩⟩⟩⟩⟩
def flX3 : List (Nat × Nat × Nat) := [(9, 3, 4), (15, 3, 0), (19, 3, 1), (22, 3, 2), (26, 2, 7), (35, 3, 5)]
theorem flX3_ok : ∀ q ∈ flX3, xfl RX3 q.1 q.2.1 q.2.2 := List.forall_mem_cons.mpr ⟨fX3_9, List.forall_mem_cons.mpr ⟨fX3_15, List.forall_mem_cons.mpr ⟨fX3_19, List.forall_mem_cons.mpr ⟨fX3_22, List.forall_mem_cons.mpr ⟨fX3_26, List.forall_mem_cons.mpr ⟨fX3_35, fun _ h => absurd h List.not_mem_nil⟩⟩⟩⟩⟩⟩
def flX4 : List (Nat × Nat × Nat) := [(9, 4, 0), (15, 4, 1), (19, 4, 2), (37, 3, 3), (43, 3, 0), (47, 2, 2), (56, 2, 7)]
theorem flX4_ok : ∀ q ∈ flX4, xfl RX4 q.1 q.2.1 q.2.2 := List.forall_mem_cons.mpr ⟨fX4_9, List.forall_mem_cons.mpr ⟨fX4_15, List.forall_mem_cons.mpr ⟨fX4_19, List.forall_mem_cons.mpr ⟨fX4_37, List.forall_mem_cons.mpr ⟨fX4_43, List.forall_mem_cons.mpr ⟨fX4_47, List.forall_mem_cons.mpr ⟨fX4_56, fun _ h => absurd h List.not_mem_nil⟩⟩⟩⟩⟩⟩⟩
def flX5 : List (Nat × Nat × Nat) := [(9, 5, 4), (15, 5, 5), (23, 5, 0), (30, 5, 1), (34, 5, 2), (38, 5, 3), (62, 1, 1), (65, 2, 3), (118, 2, 14), (121, 2, 11)]
theorem flX5_ok : ∀ q ∈ flX5, xfl RX5 q.1 q.2.1 q.2.2 := List.forall_mem_cons.mpr ⟨fX5_9, List.forall_mem_cons.mpr ⟨fX5_15, List.forall_mem_cons.mpr ⟨fX5_23, List.forall_mem_cons.mpr ⟨fX5_30, List.forall_mem_cons.mpr ⟨fX5_34, List.forall_mem_cons.mpr ⟨fX5_38, List.forall_mem_cons.mpr ⟨fX5_62, List.forall_mem_cons.mpr ⟨fX5_65, List.forall_mem_cons.mpr ⟨fX5_118, List.forall_mem_cons.mpr ⟨fX5_121, fun _ h => absurd h List.not_mem_nil⟩⟩⟩⟩⟩⟩⟩⟩⟩⟩
def flX6 : List (Nat × Nat × Nat) := [(14, 6, 0), (20, 6, 1), (35, 1, 1), (53, 2, 0), (58, 2, 1), (61, 2, 2), (64, 2, 7), (67, 2, 4), (70, 2, 5), (73, 2, 6), (77, 2, 9), (80, 2, 8), (83, 2, 14), (86, 2, 10), (89, 2, 11), (92, 2, 12), (121, 6, 3), (127, 6, 2)]
theorem flX6_ok : ∀ q ∈ flX6, xfl RX6 q.1 q.2.1 q.2.2 := List.forall_mem_cons.mpr ⟨fX6_14, List.forall_mem_cons.mpr ⟨fX6_20, List.forall_mem_cons.mpr ⟨fX6_35, List.forall_mem_cons.mpr ⟨fX6_53, List.forall_mem_cons.mpr ⟨fX6_58, List.forall_mem_cons.mpr ⟨fX6_61, List.forall_mem_cons.mpr ⟨fX6_64, List.forall_mem_cons.mpr ⟨fX6_67, List.forall_mem_cons.mpr ⟨fX6_70, List.forall_mem_cons.mpr ⟨fX6_73, List.forall_mem_cons.mpr ⟨fX6_77, List.forall_mem_cons.mpr ⟨fX6_80, List.forall_mem_cons.mpr ⟨fX6_83, List.forall_mem_cons.mpr ⟨fX6_86, List.forall_mem_cons.mpr ⟨fX6_89, List.forall_mem_cons.mpr ⟨fX6_92, List.forall_mem_cons.mpr ⟨fX6_121, List.forall_mem_cons.mpr ⟨fX6_127, fun _ h => absurd h List.not_mem_nil⟩⟩⟩⟩⟩⟩⟩⟩⟩⟩⟩⟩⟩⟩⟩⟩⟩⟩
def flX7 : List (Nat × Nat × Nat) := [(11, 7, 0), (17, 7, 1), (21, 2, 7), (45, 3, 5), (48, 3, 4), (56, 3, 0), (60, 2, 0), (69, 3, 3), (77, 2, 1), (84, 2, 4), (87, 2, 5), (90, 2, 6), (94, 3, 2)]
theorem flX7_ok : ∀ q ∈ flX7, xfl RX7 q.1 q.2.1 q.2.2 := List.forall_mem_cons.mpr ⟨fX7_11, List.forall_mem_cons.mpr ⟨fX7_17, List.forall_mem_cons.mpr ⟨fX7_21, List.forall_mem_cons.mpr ⟨fX7_45, List.forall_mem_cons.mpr ⟨fX7_48, List.forall_mem_cons.mpr ⟨fX7_56, List.forall_mem_cons.mpr ⟨fX7_60, List.forall_mem_cons.mpr ⟨fX7_69, List.forall_mem_cons.mpr ⟨fX7_77, List.forall_mem_cons.mpr ⟨fX7_84, List.forall_mem_cons.mpr ⟨fX7_87, List.forall_mem_cons.mpr ⟨fX7_90, List.forall_mem_cons.mpr ⟨fX7_94, fun _ h => absurd h List.not_mem_nil⟩⟩⟩⟩⟩⟩⟩⟩⟩⟩⟩⟩⟩
def flX8 : List (Nat × Nat × Nat) := [(12, 8, 0), (18, 8, 2), (25, 8, 4), (29, 8, 5), (34, 8, 6), (42, 8, 7), (49, 8, 8), (56, 8, 9), (63, 8, 10), (78, 8, 1), (86, 2, 7), (97, 2, 9), (107, 2, 14), (127, 8, 3), (142, 1, 1), (197, 0, 1), (203, 0, 2), (210, 0, 3), (218, 7, 1), (222, 5, 1), (239, 8, 11), (245, 3, 0), (248, 2, 0), (251, 2, 1), (254, 2, 2), (257, 3, 3), (260, 3, 5)]
theorem flX8_ok : ∀ q ∈ flX8, xfl RX8 q.1 q.2.1 q.2.2 := List.forall_mem_cons.mpr ⟨fX8_12, List.forall_mem_cons.mpr ⟨fX8_18, List.forall_mem_cons.mpr ⟨fX8_25, List.forall_mem_cons.mpr ⟨fX8_29, List.forall_mem_cons.mpr ⟨fX8_34, List.forall_mem_cons.mpr ⟨fX8_42, List.forall_mem_cons.mpr ⟨fX8_49, List.forall_mem_cons.mpr ⟨fX8_56, List.forall_mem_cons.mpr ⟨fX8_63, List.forall_mem_cons.mpr ⟨fX8_78, List.forall_mem_cons.mpr ⟨fX8_86, List.forall_mem_cons.mpr ⟨fX8_97, List.forall_mem_cons.mpr ⟨fX8_107, List.forall_mem_cons.mpr ⟨fX8_127, List.forall_mem_cons.mpr ⟨fX8_142, List.forall_mem_cons.mpr ⟨fX8_197, List.forall_mem_cons.mpr ⟨fX8_203, List.forall_mem_cons.mpr ⟨fX8_210, List.forall_mem_cons.mpr ⟨fX8_218, List.forall_mem_cons.mpr ⟨fX8_222, List.forall_mem_cons.mpr ⟨fX8_239, List.forall_mem_cons.mpr ⟨fX8_245, List.forall_mem_cons.mpr ⟨fX8_248, List.forall_mem_cons.mpr ⟨fX8_251, List.forall_mem_cons.mpr ⟨fX8_254, List.forall_mem_cons.mpr ⟨fX8_257, List.forall_mem_cons.mpr ⟨fX8_260, fun _ h => absurd h List.not_mem_nil⟩⟩⟩⟩⟩⟩⟩⟩⟩⟩⟩⟩⟩⟩⟩⟩⟩⟩⟩⟩⟩⟩⟩⟩⟩⟩⟩
def flX9 : List (Nat × Nat × Nat) := [(7, 9, 5), (13, 9, 6), (16, 9, 7), (19, 9, 9), (22, 9, 11), (25, 9, 12), (28, 9, 13), (31, 9, 14), (34, 9, 15), (37, 9, 17), (40, 9, 20), (43, 9, 21), (46, 9, 29), (50, 9, 31), (54, 9, 32), (57, 9, 33), (60, 9, 34), (63, 9, 36), (66, 9, 37), (69, 9, 38), (72, 9, 39), (76, 9, 40), (79, 9, 41), (82, 9, 42), (85, 9, 43), (88, 9, 44), (91, 9, 45), (94, 9, 46), (97, 9, 47), (100, 9, 48), (103, 9, 49), (106, 9, 51), (109, 9, 52), (112, 9, 53), (115, 9, 54), (118, 9, 55), (125, 9, 0), (129, 9, 1), (133, 9, 2), (136, 9, 3), (139, 9, 4), (142, 9, 8), (145, 9, 10), (160, 9, 16), (171, 9, 18), (208, 9, 19), (218, 9, 23), (221, 9, 24), (224, 9, 22), (239, 9, 25), (246, 9, 26), (249, 9, 27), (252, 9, 28), (282, 9, 30), (300, 9, 35), (319, 9, 50), (334, 9, 56)]
theorem flX9_ok : ∀ q ∈ flX9, xfl RX9 q.1 q.2.1 q.2.2 := List.forall_mem_cons.mpr ⟨fX9_7, List.forall_mem_cons.mpr ⟨fX9_13, List.forall_mem_cons.mpr ⟨fX9_16, List.forall_mem_cons.mpr ⟨fX9_19, List.forall_mem_cons.mpr ⟨fX9_22, List.forall_mem_cons.mpr ⟨fX9_25, List.forall_mem_cons.mpr ⟨fX9_28, List.forall_mem_cons.mpr ⟨fX9_31, List.forall_mem_cons.mpr ⟨fX9_34, List.forall_mem_cons.mpr ⟨fX9_37, List.forall_mem_cons.mpr ⟨fX9_40, List.forall_mem_cons.mpr ⟨fX9_43, List.forall_mem_cons.mpr ⟨fX9_46, List.forall_mem_cons.mpr ⟨fX9_50, List.forall_mem_cons.mpr ⟨fX9_54, List.forall_mem_cons.mpr ⟨fX9_57, List.forall_mem_cons.mpr ⟨fX9_60, List.forall_mem_cons.mpr ⟨fX9_63, List.forall_mem_cons.mpr ⟨fX9_66, List.forall_mem_cons.mpr ⟨fX9_69, List.forall_mem_cons.mpr ⟨fX9_72, List.forall_mem_cons.mpr ⟨fX9_76, List.forall_mem_cons.mpr ⟨fX9_79, List.forall_mem_cons.mpr ⟨fX9_82, List.forall_mem_cons.mpr ⟨fX9_85, List.forall_mem_cons.mpr ⟨fX9_88, List.forall_mem_cons.mpr ⟨fX9_91, List.forall_mem_cons.mpr ⟨fX9_94, List.forall_mem_cons.mpr ⟨fX9_97, List.forall_mem_cons.mpr ⟨fX9_100, List.forall_mem_cons.mpr ⟨fX9_103, List.forall_mem_cons.mpr ⟨fX9_106, List.forall_mem_cons.mpr ⟨fX9_109, List.forall_mem_cons.mpr ⟨fX9_112, List.forall_mem_cons.mpr ⟨fX9_115, List.forall_mem_cons.mpr ⟨fX9_118, List.forall_mem_cons.mpr ⟨fX9_125, List.forall_mem_cons.mpr ⟨fX9_129, List.forall_mem_cons.mpr ⟨fX9_133, List.forall_mem_cons.mpr ⟨fX9_136, List.forall_mem_cons.mpr ⟨fX9_139, List.forall_mem_cons.mpr ⟨fX9_142, List.forall_mem_cons.mpr ⟨fX9_145, List.forall_mem_cons.mpr ⟨fX9_160, List.forall_mem_cons.mpr ⟨fX9_171, List.forall_mem_cons.mpr ⟨fX9_208, List.forall_mem_cons.mpr ⟨fX9_218, List.forall_mem_cons.mpr ⟨fX9_221, List.forall_mem_cons.mpr ⟨fX9_224, List.forall_mem_cons.mpr ⟨fX9_239, List.forall_mem_cons.mpr ⟨fX9_246, List.forall_mem_cons.mpr ⟨fX9_249, List.forall_mem_cons.mpr ⟨fX9_252, List.forall_mem_cons.mpr ⟨fX9_282, List.forall_mem_cons.mpr ⟨fX9_300, List.forall_mem_cons.mpr ⟨fX9_319, List.forall_mem_cons.mpr ⟨fX9_334, fun _ h => absurd h List.not_mem_nil⟩⟩⟩⟩⟩⟩⟩⟩⟩⟩⟩⟩⟩⟩⟩⟩⟩⟩⟩⟩⟩⟩⟩⟩⟩⟩⟩⟩⟩⟩⟩⟩⟩⟩⟩⟩⟩⟩⟩⟩⟩⟩⟩⟩⟩⟩⟩⟩⟩⟩⟩⟩⟩⟩⟩⟩⟩
def flL : List (Nat × Nat × Nat) := []
theorem flL_ok : ∀ q ∈ flL, xfl RL q.1 q.2.1 q.2.2 := fun _ h => absurd h List.not_mem_nil
def xfls (n : Nat) : List (Nat × Nat × Nat) := match n with
  | 0 => flX0
  | 1 => flX1
  | 2 => flX2
  | 3 => flX3
  | 4 => flX4
  | 5 => flX5
  | 6 => flX6
  | 7 => flX7
  | 8 => flX8
  | 9 => flX9
  | _ => flL
theorem xfls_ok {n idx ci k : Nat} (h : (xfls n).lookup idx = some (ci, k)) : xfl (xcn n) idx ci k := by
  have hm := xlook h
  match n, hm with
  | 0, hm => exact flX0_ok _ hm
  | 1, hm => exact flX1_ok _ hm
  | 2, hm => exact flX2_ok _ hm
  | 3, hm => exact flX3_ok _ hm
  | 4, hm => exact flX4_ok _ hm
  | 5, hm => exact flX5_ok _ hm
  | 6, hm => exact flX6_ok _ hm
  | 7, hm => exact flX7_ok _ hm
  | 8, hm => exact flX8_ok _ hm
  | 9, hm => exact flX9_ok _ hm
  | n + 10, hm => exact flL_ok _ hm
def xmeth (j : Nat) : xM := match j with
  | 0 => mX0_init
  | 1 => mX0_hasPart
  | 2 => mX0_putPart
  | 3 => mX0_joinOnto
  | 4 => mX0_clear
  | 5 => mX1_init
  | 6 => mX1_has
  | 7 => mX1_at
  | 8 => mX1_clear
  | 9 => mX1_push
  | 10 => mX1_pushRange
  | 11 => mX1_pushNumber
  | 12 => mX1_number
  | 13 => mX1_sum
  | 14 => mX1_xor
  | 15 => mX1_keepFirst
  | 16 => mX1_part
  | 17 => mX2_init
  | 18 => mX2_begin
  | 19 => mX2_title
  | 20 => mX2_needsName
  | 21 => mX2_putNeed
  | 22 => mX2_sealsGroup
  | 23 => mX2_putSeal
  | 24 => mX2_rowOf
  | 25 => mX2_hasRowOfGroup
  | 26 => mX2_putRow
  | 27 => mX2_pageLength
  | 28 => mX2_byteAt
  | 29 => mX2_putByte
  | 30 => mX2_putCopies
  | 31 => mX2_putLike
  | 32 => mX3_init
  | 33 => mX3_meeting
  | 34 => mX3_leansOn
  | 35 => mX3_hasOverlay
  | 36 => mX3_putOverlay
  | 37 => mX3_hasRowOf
  | 38 => mX4_init
  | 39 => mX4_from
  | 40 => mX4_step
  | 41 => mX4_ask
  | 42 => mX4_looksInto
  | 43 => mX5_init
  | 44 => mX5_wrongPlace
  | 45 => mX5_isSignedBy
  | 46 => mX5_handOver
  | 47 => mX5_next
  | 48 => mX5_isFine
  | 49 => mX5_refuseAt
  | 50 => mX5_hearTitle
  | 51 => mX5_hearNeeds
  | 52 => mX5_hearSeals
  | 53 => mX5_hearRows
  | 54 => mX5_hearPair
  | 55 => mX5_hearPages
  | 56 => mX5_lacking
  | 57 => mX5_hearPlainPage
  | 58 => mX5_hearPlain
  | 59 => mX5_hearPairs
  | 60 => mX5_hearOps
  | 61 => mX5_hearCopy
  | 62 => mX5_refuseIfLacking
  | 63 => mX5_hearEnd
  | 64 => mX6_init
  | 65 => mX6_write
  | 66 => mX6_writeHead
  | 67 => mX6_pushPair
  | 68 => mX6_writeBody
  | 69 => mX6_writePlain
  | 70 => mX6_writePairs
  | 71 => mX6_writeOps
  | 72 => mX6_writePlainOps
  | 73 => mX6_searchMatch
  | 74 => mX7_init
  | 75 => mX7_at
  | 76 => mX7_firstUnmet
  | 77 => mX7_leastSealed
  | 78 => mX7_put
  | 79 => mX7_overlayWith
  | 80 => mX7_ranked
  | 81 => mX7_leaning
  | 82 => mX7_meeting
  | 83 => mX7_suits
  | 84 => mX7_seenBy
  | 85 => mX7_isBetween
  | 86 => mX7_countAhead
  | 87 => mX8_init
  | 88 => mX8_draft
  | 89 => mX8_need
  | 90 => mX8_seal
  | 91 => mX8_row
  | 92 => mX8_add
  | 93 => mX8_again
  | 94 => mX8_pack
  | 95 => mX8_length
  | 96 => mX8_octet
  | 97 => mX8_spoil
  | 98 => mX8_trim
  | 99 => mX8_check
  | 100 => mX8_signer
  | 101 => mX8_parts
  | 102 => mX8_load
  | 103 => mX8_tape
  | 104 => mX8_bend
  | 105 => mX8_take
  | 106 => mX8_book
  | 107 => mX8_drop
  | 108 => mX8_open
  | 109 => mX8_why
  | 110 => mX8_entry
  | 111 => mX8_close
  | 112 => mX8_reopen
  | 113 => mX8_overlay
  | 114 => mX8_find
  | 115 => mX8_path
  | 116 => mX8_page
  | 117 => mX8_read
  | 118 => mX8_edition
  | 119 => mX8_needed
  | 120 => mX8_isBelow
  | 121 => mX8_isPartSize
  | 122 => mX8_partCount
  | 123 => mX8_xorByte
  | 124 => mX8_hasRowInDraft
  | 125 => mX8_packAt
  | 126 => mX8_bookAt
  | 127 => mX8_keepDesk
  | 128 => mX8_isReelSpoiled
  | 129 => mX8_refuse
  | 130 => mX8_setClosed
  | 131 => mX8_pageEntry
  | 132 => mX9_init
  | 133 => mX9_in
  | 134 => mX9_draft
  | 135 => mX9_has
  | 136 => mX9_need
  | 137 => mX9_seal
  | 138 => mX9_row
  | 139 => mX9_one
  | 140 => mX9_addByte
  | 141 => mX9_add
  | 142 => mX9_again
  | 143 => mX9_write
  | 144 => mX9_go
  | 145 => mX9_writeFour
  | 146 => mX9_writtenSum
  | 147 => mX9_squeeze
  | 148 => mX9_writePairs
  | 149 => mX9_likeAhead
  | 150 => mX9_bestBack
  | 151 => mX9_writeOps
  | 152 => mX9_writePlain
  | 153 => mX9_squeezeRow
  | 154 => mX9_writeHead
  | 155 => mX9_pack
  | 156 => mX9_isPack
  | 157 => mX9_isOctet
  | 158 => mX9_length
  | 159 => mX9_octet
  | 160 => mX9_spoil
  | 161 => mX9_trim
  | 162 => mX9_here
  | 163 => mX9_want
  | 164 => mX9_came
  | 165 => mX9_wantNew
  | 166 => mX9_exactly
  | 167 => mX9_wantTwo
  | 168 => mX9_readHead
  | 169 => mX9_readPlain
  | 170 => mX9_readPairs
  | 171 => mX9_readOps
  | 172 => mX9_sumOf
  | 173 => mX9_isSigned
  | 174 => mX9_wrong
  | 175 => mX9_check
  | 176 => mX9_signer
  | 177 => mX9_parts
  | 178 => mX9_tapeSum
  | 179 => mX9_load
  | 180 => mX9_tape
  | 181 => mX9_bend
  | 182 => mX9_isSpoiled
  | 183 => mX9_bookLength
  | 184 => mX9_emptyBook
  | 185 => mX9_join
  | 186 => mX9_take
  | 187 => mX9_book
  | 188 => mX9_drop
  | 189 => mX9_meeting
  | 190 => mX9_findSeen
  | 191 => mX9_hasRowOf
  | 192 => mX9_seals
  | 193 => mX9_sealedGroup
  | 194 => mX9_unpack
  | 195 => mX9_layDown
  | 196 => mX9_open
  | 197 => mX9_why
  | 198 => mX9_isEntry
  | 199 => mX9_entry
  | 200 => mX9_close
  | 201 => mX9_reopen
  | 202 => mX9_overlay
  | 203 => mX9_rowOf
  | 204 => mX9_looks
  | 205 => mX9_ask
  | 206 => mX9_find
  | 207 => mX9_path
  | 208 => mX9_page
  | 209 => mX9_read
  | 210 => mX9_edition
  | 211 => mX9_needed
  | 212 => mJ9_max_7cf53
  | _ => mJ9_min_7cf53
def mlX0 : List (Nat × Nat) := [(17, 120), (25, 16), (38, 8), (41, 10)]
theorem mlX0_ok : ∀ q ∈ mlX0, xlk RX0 q.1 (xmeth q.2) := List.forall_mem_cons.mpr ⟨lX0_17, List.forall_mem_cons.mpr ⟨lX0_25, List.forall_mem_cons.mpr ⟨lX0_38, List.forall_mem_cons.mpr ⟨lX0_41, fun _ h => absurd h List.not_mem_nil⟩⟩⟩⟩
def mlX1 : List (Nat × Nat) := [(9, 212), (25, 7), (29, 9), (34, 6), (38, 5), (40, 10)]
theorem mlX1_ok : ∀ q ∈ mlX1, xlk RX1 q.1 (xmeth q.2) := List.forall_mem_cons.mpr ⟨lX1_9, List.forall_mem_cons.mpr ⟨lX1_25, List.forall_mem_cons.mpr ⟨lX1_29, List.forall_mem_cons.mpr ⟨lX1_34, List.forall_mem_cons.mpr ⟨lX1_38, List.forall_mem_cons.mpr ⟨lX1_40, fun _ h => absurd h List.not_mem_nil⟩⟩⟩⟩⟩⟩
def mlX2 : List (Nat × Nat) := [(62, 120), (66, 27), (70, 28), (74, 29)]
theorem mlX2_ok : ∀ q ∈ mlX2, xlk RX2 q.1 (xmeth q.2) := List.forall_mem_cons.mpr ⟨lX2_62, List.forall_mem_cons.mpr ⟨lX2_66, List.forall_mem_cons.mpr ⟨lX2_70, List.forall_mem_cons.mpr ⟨lX2_74, fun _ h => absurd h List.not_mem_nil⟩⟩⟩⟩
def mlX3 : List (Nat × Nat) := [(31, 33), (38, 24)]
theorem mlX3_ok : ∀ q ∈ mlX3, xlk RX3 q.1 (xmeth q.2) := List.forall_mem_cons.mpr ⟨lX3_31, List.forall_mem_cons.mpr ⟨lX3_38, fun _ h => absurd h List.not_mem_nil⟩⟩
def mlX4 : List (Nat × Nat) := [(23, 41), (27, 120), (31, 75), (52, 42), (59, 33), (63, 37)]
theorem mlX4_ok : ∀ q ∈ mlX4, xlk RX4 q.1 (xmeth q.2) := List.forall_mem_cons.mpr ⟨lX4_23, List.forall_mem_cons.mpr ⟨lX4_27, List.forall_mem_cons.mpr ⟨lX4_31, List.forall_mem_cons.mpr ⟨lX4_52, List.forall_mem_cons.mpr ⟨lX4_59, List.forall_mem_cons.mpr ⟨lX4_63, fun _ h => absurd h List.not_mem_nil⟩⟩⟩⟩⟩⟩
def mlX5 : List (Nat × Nat) := [(20, 5), (29, 17), (41, 18), (44, 50), (47, 51), (50, 52), (53, 53), (56, 55), (59, 63), (69, 12), (73, 13), (77, 7), (80, 48), (84, 47), (87, 19), (91, 20), (95, 49), (98, 21), (102, 22), (105, 23), (108, 24), (111, 26), (115, 54), (124, 59), (127, 60), (130, 57), (133, 27), (136, 58), (139, 29), (142, 56), (145, 31), (148, 62), (151, 61), (154, 30)]
theorem mlX5_ok : ∀ q ∈ mlX5, xlk RX5 q.1 (xmeth q.2) := List.forall_mem_cons.mpr ⟨lX5_20, List.forall_mem_cons.mpr ⟨lX5_29, List.forall_mem_cons.mpr ⟨lX5_41, List.forall_mem_cons.mpr ⟨lX5_44, List.forall_mem_cons.mpr ⟨lX5_47, List.forall_mem_cons.mpr ⟨lX5_50, List.forall_mem_cons.mpr ⟨lX5_53, List.forall_mem_cons.mpr ⟨lX5_56, List.forall_mem_cons.mpr ⟨lX5_59, List.forall_mem_cons.mpr ⟨lX5_69, List.forall_mem_cons.mpr ⟨lX5_73, List.forall_mem_cons.mpr ⟨lX5_77, List.forall_mem_cons.mpr ⟨lX5_80, List.forall_mem_cons.mpr ⟨lX5_84, List.forall_mem_cons.mpr ⟨lX5_87, List.forall_mem_cons.mpr ⟨lX5_91, List.forall_mem_cons.mpr ⟨lX5_95, List.forall_mem_cons.mpr ⟨lX5_98, List.forall_mem_cons.mpr ⟨lX5_102, List.forall_mem_cons.mpr ⟨lX5_105, List.forall_mem_cons.mpr ⟨lX5_108, List.forall_mem_cons.mpr ⟨lX5_111, List.forall_mem_cons.mpr ⟨lX5_115, List.forall_mem_cons.mpr ⟨lX5_124, List.forall_mem_cons.mpr ⟨lX5_127, List.forall_mem_cons.mpr ⟨lX5_130, List.forall_mem_cons.mpr ⟨lX5_133, List.forall_mem_cons.mpr ⟨lX5_136, List.forall_mem_cons.mpr ⟨lX5_139, List.forall_mem_cons.mpr ⟨lX5_142, List.forall_mem_cons.mpr ⟨lX5_145, List.forall_mem_cons.mpr ⟨lX5_148, List.forall_mem_cons.mpr ⟨lX5_151, List.forall_mem_cons.mpr ⟨lX5_154, fun _ h => absurd h List.not_mem_nil⟩⟩⟩⟩⟩⟩⟩⟩⟩⟩⟩⟩⟩⟩⟩⟩⟩⟩⟩⟩⟩⟩⟩⟩⟩⟩⟩⟩⟩⟩⟩⟩⟩⟩
def mlX6 : List (Nat × Nat) := [(11, 5), (24, 68), (28, 8), (31, 66), (39, 10), (43, 13), (47, 11), (50, 9), (95, 67), (99, 70), (103, 71), (106, 27), (110, 69), (114, 28), (117, 73), (124, 72), (130, 213)]
theorem mlX6_ok : ∀ q ∈ mlX6, xlk RX6 q.1 (xmeth q.2) := List.forall_mem_cons.mpr ⟨lX6_11, List.forall_mem_cons.mpr ⟨lX6_24, List.forall_mem_cons.mpr ⟨lX6_28, List.forall_mem_cons.mpr ⟨lX6_31, List.forall_mem_cons.mpr ⟨lX6_39, List.forall_mem_cons.mpr ⟨lX6_43, List.forall_mem_cons.mpr ⟨lX6_47, List.forall_mem_cons.mpr ⟨lX6_50, List.forall_mem_cons.mpr ⟨lX6_95, List.forall_mem_cons.mpr ⟨lX6_99, List.forall_mem_cons.mpr ⟨lX6_103, List.forall_mem_cons.mpr ⟨lX6_106, List.forall_mem_cons.mpr ⟨lX6_110, List.forall_mem_cons.mpr ⟨lX6_114, List.forall_mem_cons.mpr ⟨lX6_117, List.forall_mem_cons.mpr ⟨lX6_124, List.forall_mem_cons.mpr ⟨lX6_130, fun _ h => absurd h List.not_mem_nil⟩⟩⟩⟩⟩⟩⟩⟩⟩⟩⟩⟩⟩⟩⟩⟩⟩
def mlX7 : List (Nat × Nat) := [(26, 82), (30, 84), (34, 75), (38, 85), (42, 32), (52, 37), (63, 86), (66, 34), (73, 83), (80, 120), (97, 22), (100, 25)]
theorem mlX7_ok : ∀ q ∈ mlX7, xlk RX7 q.1 (xmeth q.2) := List.forall_mem_cons.mpr ⟨lX7_26, List.forall_mem_cons.mpr ⟨lX7_30, List.forall_mem_cons.mpr ⟨lX7_34, List.forall_mem_cons.mpr ⟨lX7_38, List.forall_mem_cons.mpr ⟨lX7_42, List.forall_mem_cons.mpr ⟨lX7_52, List.forall_mem_cons.mpr ⟨lX7_63, List.forall_mem_cons.mpr ⟨lX7_66, List.forall_mem_cons.mpr ⟨lX7_73, List.forall_mem_cons.mpr ⟨lX7_80, List.forall_mem_cons.mpr ⟨lX7_97, List.forall_mem_cons.mpr ⟨lX7_100, fun _ h => absurd h List.not_mem_nil⟩⟩⟩⟩⟩⟩⟩⟩⟩⟩⟩⟩
def mlX8 : List (Nat × Nat) := [(11, 17), (22, 5), (38, 0), (41, 64), (48, 43), (55, 74), (62, 38), (67, 120), (71, 18), (74, 19), (82, 20), (90, 21), (94, 22), (100, 23), (103, 24), (110, 26), (114, 124), (118, 27), (121, 29), (124, 30), (130, 65), (134, 127), (138, 125), (145, 7), (148, 123), (152, 15), (155, 44), (159, 45), (162, 121), (165, 122), (169, 8), (172, 9), (175, 213), (180, 10), (184, 13), (187, 11), (190, 126), (194, 128), (200, 1), (206, 2), (213, 3), (217, 4), (219, 129), (225, 76), (229, 77), (232, 46), (236, 78), (242, 75), (263, 33), (266, 130), (270, 35), (273, 36), (276, 39), (280, 40), (283, 131), (286, 28), (289, 80), (292, 81), (295, 6), (298, 14), (301, 16), (305, 12), (308, 79)]
theorem mlX8_ok : ∀ q ∈ mlX8, xlk RX8 q.1 (xmeth q.2) := List.forall_mem_cons.mpr ⟨lX8_11, List.forall_mem_cons.mpr ⟨lX8_22, List.forall_mem_cons.mpr ⟨lX8_38, List.forall_mem_cons.mpr ⟨lX8_41, List.forall_mem_cons.mpr ⟨lX8_48, List.forall_mem_cons.mpr ⟨lX8_55, List.forall_mem_cons.mpr ⟨lX8_62, List.forall_mem_cons.mpr ⟨lX8_67, List.forall_mem_cons.mpr ⟨lX8_71, List.forall_mem_cons.mpr ⟨lX8_74, List.forall_mem_cons.mpr ⟨lX8_82, List.forall_mem_cons.mpr ⟨lX8_90, List.forall_mem_cons.mpr ⟨lX8_94, List.forall_mem_cons.mpr ⟨lX8_100, List.forall_mem_cons.mpr ⟨lX8_103, List.forall_mem_cons.mpr ⟨lX8_110, List.forall_mem_cons.mpr ⟨lX8_114, List.forall_mem_cons.mpr ⟨lX8_118, List.forall_mem_cons.mpr ⟨lX8_121, List.forall_mem_cons.mpr ⟨lX8_124, List.forall_mem_cons.mpr ⟨lX8_130, List.forall_mem_cons.mpr ⟨lX8_134, List.forall_mem_cons.mpr ⟨lX8_138, List.forall_mem_cons.mpr ⟨lX8_145, List.forall_mem_cons.mpr ⟨lX8_148, List.forall_mem_cons.mpr ⟨lX8_152, List.forall_mem_cons.mpr ⟨lX8_155, List.forall_mem_cons.mpr ⟨lX8_159, List.forall_mem_cons.mpr ⟨lX8_162, List.forall_mem_cons.mpr ⟨lX8_165, List.forall_mem_cons.mpr ⟨lX8_169, List.forall_mem_cons.mpr ⟨lX8_172, List.forall_mem_cons.mpr ⟨lX8_175, List.forall_mem_cons.mpr ⟨lX8_180, List.forall_mem_cons.mpr ⟨lX8_184, List.forall_mem_cons.mpr ⟨lX8_187, List.forall_mem_cons.mpr ⟨lX8_190, List.forall_mem_cons.mpr ⟨lX8_194, List.forall_mem_cons.mpr ⟨lX8_200, List.forall_mem_cons.mpr ⟨lX8_206, List.forall_mem_cons.mpr ⟨lX8_213, List.forall_mem_cons.mpr ⟨lX8_217, List.forall_mem_cons.mpr ⟨lX8_219, List.forall_mem_cons.mpr ⟨lX8_225, List.forall_mem_cons.mpr ⟨lX8_229, List.forall_mem_cons.mpr ⟨lX8_232, List.forall_mem_cons.mpr ⟨lX8_236, List.forall_mem_cons.mpr ⟨lX8_242, List.forall_mem_cons.mpr ⟨lX8_263, List.forall_mem_cons.mpr ⟨lX8_266, List.forall_mem_cons.mpr ⟨lX8_270, List.forall_mem_cons.mpr ⟨lX8_273, List.forall_mem_cons.mpr ⟨lX8_276, List.forall_mem_cons.mpr ⟨lX8_280, List.forall_mem_cons.mpr ⟨lX8_283, List.forall_mem_cons.mpr ⟨lX8_286, List.forall_mem_cons.mpr ⟨lX8_289, List.forall_mem_cons.mpr ⟨lX8_292, List.forall_mem_cons.mpr ⟨lX8_295, List.forall_mem_cons.mpr ⟨lX8_298, List.forall_mem_cons.mpr ⟨lX8_301, List.forall_mem_cons.mpr ⟨lX8_305, List.forall_mem_cons.mpr ⟨lX8_308, fun _ h => absurd h List.not_mem_nil⟩⟩⟩⟩⟩⟩⟩⟩⟩⟩⟩⟩⟩⟩⟩⟩⟩⟩⟩⟩⟩⟩⟩⟩⟩⟩⟩⟩⟩⟩⟩⟩⟩⟩⟩⟩⟩⟩⟩⟩⟩⟩⟩⟩⟩⟩⟩⟩⟩⟩⟩⟩⟩⟩⟩⟩⟩⟩⟩⟩⟩⟩⟩
def mlX9 : List (Nat × Nat) := [(121, 133), (148, 135), (152, 139), (156, 140), (164, 143), (167, 144), (174, 147), (177, 149), (181, 150), (185, 152), (189, 148), (192, 151), (195, 153), (198, 154), (201, 146), (205, 145), (211, 156), (215, 157), (227, 162), (230, 163), (233, 164), (236, 166), (242, 165), (255, 167), (258, 168), (261, 169), (264, 170), (267, 171), (270, 172), (273, 173), (277, 174), (280, 177), (285, 178), (288, 184), (291, 182), (294, 183), (297, 185), (303, 190), (306, 192), (308, 191), (311, 194), (315, 189), (322, 176), (325, 195), (328, 193), (331, 198), (337, 203), (340, 204), (343, 205), (346, 208)]
theorem mlX9_ok : ∀ q ∈ mlX9, xlk RX9 q.1 (xmeth q.2) := List.forall_mem_cons.mpr ⟨lX9_121, List.forall_mem_cons.mpr ⟨lX9_148, List.forall_mem_cons.mpr ⟨lX9_152, List.forall_mem_cons.mpr ⟨lX9_156, List.forall_mem_cons.mpr ⟨lX9_164, List.forall_mem_cons.mpr ⟨lX9_167, List.forall_mem_cons.mpr ⟨lX9_174, List.forall_mem_cons.mpr ⟨lX9_177, List.forall_mem_cons.mpr ⟨lX9_181, List.forall_mem_cons.mpr ⟨lX9_185, List.forall_mem_cons.mpr ⟨lX9_189, List.forall_mem_cons.mpr ⟨lX9_192, List.forall_mem_cons.mpr ⟨lX9_195, List.forall_mem_cons.mpr ⟨lX9_198, List.forall_mem_cons.mpr ⟨lX9_201, List.forall_mem_cons.mpr ⟨lX9_205, List.forall_mem_cons.mpr ⟨lX9_211, List.forall_mem_cons.mpr ⟨lX9_215, List.forall_mem_cons.mpr ⟨lX9_227, List.forall_mem_cons.mpr ⟨lX9_230, List.forall_mem_cons.mpr ⟨lX9_233, List.forall_mem_cons.mpr ⟨lX9_236, List.forall_mem_cons.mpr ⟨lX9_242, List.forall_mem_cons.mpr ⟨lX9_255, List.forall_mem_cons.mpr ⟨lX9_258, List.forall_mem_cons.mpr ⟨lX9_261, List.forall_mem_cons.mpr ⟨lX9_264, List.forall_mem_cons.mpr ⟨lX9_267, List.forall_mem_cons.mpr ⟨lX9_270, List.forall_mem_cons.mpr ⟨lX9_273, List.forall_mem_cons.mpr ⟨lX9_277, List.forall_mem_cons.mpr ⟨lX9_280, List.forall_mem_cons.mpr ⟨lX9_285, List.forall_mem_cons.mpr ⟨lX9_288, List.forall_mem_cons.mpr ⟨lX9_291, List.forall_mem_cons.mpr ⟨lX9_294, List.forall_mem_cons.mpr ⟨lX9_297, List.forall_mem_cons.mpr ⟨lX9_303, List.forall_mem_cons.mpr ⟨lX9_306, List.forall_mem_cons.mpr ⟨lX9_308, List.forall_mem_cons.mpr ⟨lX9_311, List.forall_mem_cons.mpr ⟨lX9_315, List.forall_mem_cons.mpr ⟨lX9_322, List.forall_mem_cons.mpr ⟨lX9_325, List.forall_mem_cons.mpr ⟨lX9_328, List.forall_mem_cons.mpr ⟨lX9_331, List.forall_mem_cons.mpr ⟨lX9_337, List.forall_mem_cons.mpr ⟨lX9_340, List.forall_mem_cons.mpr ⟨lX9_343, List.forall_mem_cons.mpr ⟨lX9_346, fun _ h => absurd h List.not_mem_nil⟩⟩⟩⟩⟩⟩⟩⟩⟩⟩⟩⟩⟩⟩⟩⟩⟩⟩⟩⟩⟩⟩⟩⟩⟩⟩⟩⟩⟩⟩⟩⟩⟩⟩⟩⟩⟩⟩⟩⟩⟩⟩⟩⟩⟩⟩⟩⟩⟩⟩
def mlL : List (Nat × Nat) := [(9, 87), (12, 132), (13, 88), (17, 134), (18, 89), (22, 136), (23, 90), (27, 137), (28, 91), (32, 138), (33, 92), (37, 141), (38, 93), (41, 142), (42, 94), (45, 155), (46, 95), (49, 158), (50, 96), (53, 159), (54, 97), (57, 160), (58, 98), (61, 161), (62, 99), (65, 175), (66, 100), (69, 176), (70, 101), (73, 177), (74, 102), (77, 179), (78, 103), (81, 180), (82, 104), (85, 181), (86, 105), (90, 186), (91, 106), (94, 187), (95, 107), (98, 188), (99, 108), (102, 196), (103, 109), (106, 197), (107, 110), (110, 199), (111, 111), (114, 200), (115, 112), (118, 201), (119, 113), (122, 202), (123, 114), (126, 206), (127, 115), (130, 207), (131, 116), (134, 208), (135, 117), (138, 209), (139, 118), (142, 210), (143, 119), (146, 211)]
theorem mlL_ok : ∀ q ∈ mlL, xlk RL q.1 (xmeth q.2) := List.forall_mem_cons.mpr ⟨lL_9, List.forall_mem_cons.mpr ⟨lL_12, List.forall_mem_cons.mpr ⟨lL_13, List.forall_mem_cons.mpr ⟨lL_17, List.forall_mem_cons.mpr ⟨lL_18, List.forall_mem_cons.mpr ⟨lL_22, List.forall_mem_cons.mpr ⟨lL_23, List.forall_mem_cons.mpr ⟨lL_27, List.forall_mem_cons.mpr ⟨lL_28, List.forall_mem_cons.mpr ⟨lL_32, List.forall_mem_cons.mpr ⟨lL_33, List.forall_mem_cons.mpr ⟨lL_37, List.forall_mem_cons.mpr ⟨lL_38, List.forall_mem_cons.mpr ⟨lL_41, List.forall_mem_cons.mpr ⟨lL_42, List.forall_mem_cons.mpr ⟨lL_45, List.forall_mem_cons.mpr ⟨lL_46, List.forall_mem_cons.mpr ⟨lL_49, List.forall_mem_cons.mpr ⟨lL_50, List.forall_mem_cons.mpr ⟨lL_53, List.forall_mem_cons.mpr ⟨lL_54, List.forall_mem_cons.mpr ⟨lL_57, List.forall_mem_cons.mpr ⟨lL_58, List.forall_mem_cons.mpr ⟨lL_61, List.forall_mem_cons.mpr ⟨lL_62, List.forall_mem_cons.mpr ⟨lL_65, List.forall_mem_cons.mpr ⟨lL_66, List.forall_mem_cons.mpr ⟨lL_69, List.forall_mem_cons.mpr ⟨lL_70, List.forall_mem_cons.mpr ⟨lL_73, List.forall_mem_cons.mpr ⟨lL_74, List.forall_mem_cons.mpr ⟨lL_77, List.forall_mem_cons.mpr ⟨lL_78, List.forall_mem_cons.mpr ⟨lL_81, List.forall_mem_cons.mpr ⟨lL_82, List.forall_mem_cons.mpr ⟨lL_85, List.forall_mem_cons.mpr ⟨lL_86, List.forall_mem_cons.mpr ⟨lL_90, List.forall_mem_cons.mpr ⟨lL_91, List.forall_mem_cons.mpr ⟨lL_94, List.forall_mem_cons.mpr ⟨lL_95, List.forall_mem_cons.mpr ⟨lL_98, List.forall_mem_cons.mpr ⟨lL_99, List.forall_mem_cons.mpr ⟨lL_102, List.forall_mem_cons.mpr ⟨lL_103, List.forall_mem_cons.mpr ⟨lL_106, List.forall_mem_cons.mpr ⟨lL_107, List.forall_mem_cons.mpr ⟨lL_110, List.forall_mem_cons.mpr ⟨lL_111, List.forall_mem_cons.mpr ⟨lL_114, List.forall_mem_cons.mpr ⟨lL_115, List.forall_mem_cons.mpr ⟨lL_118, List.forall_mem_cons.mpr ⟨lL_119, List.forall_mem_cons.mpr ⟨lL_122, List.forall_mem_cons.mpr ⟨lL_123, List.forall_mem_cons.mpr ⟨lL_126, List.forall_mem_cons.mpr ⟨lL_127, List.forall_mem_cons.mpr ⟨lL_130, List.forall_mem_cons.mpr ⟨lL_131, List.forall_mem_cons.mpr ⟨lL_134, List.forall_mem_cons.mpr ⟨lL_135, List.forall_mem_cons.mpr ⟨lL_138, List.forall_mem_cons.mpr ⟨lL_139, List.forall_mem_cons.mpr ⟨lL_142, List.forall_mem_cons.mpr ⟨lL_143, List.forall_mem_cons.mpr ⟨lL_146, fun _ h => absurd h List.not_mem_nil⟩⟩⟩⟩⟩⟩⟩⟩⟩⟩⟩⟩⟩⟩⟩⟩⟩⟩⟩⟩⟩⟩⟩⟩⟩⟩⟩⟩⟩⟩⟩⟩⟩⟩⟩⟩⟩⟩⟩⟩⟩⟩⟩⟩⟩⟩⟩⟩⟩⟩⟩⟩⟩⟩⟩⟩⟩⟩⟩⟩⟩⟩⟩⟩⟩⟩
def xmls (n : Nat) : List (Nat × Nat) := match n with
  | 0 => mlX0
  | 1 => mlX1
  | 2 => mlX2
  | 3 => mlX3
  | 4 => mlX4
  | 5 => mlX5
  | 6 => mlX6
  | 7 => mlX7
  | 8 => mlX8
  | 9 => mlX9
  | _ => mlL
theorem xmls_ok {n idx j : Nat} (h : (xmls n).lookup idx = some j) : xlk (xcn n) idx (xmeth j) := by
  have hm := xlook h
  match n, hm with
  | 0, hm => exact mlX0_ok _ hm
  | 1, hm => exact mlX1_ok _ hm
  | 2, hm => exact mlX2_ok _ hm
  | 3, hm => exact mlX3_ok _ hm
  | 4, hm => exact mlX4_ok _ hm
  | 5, hm => exact mlX5_ok _ hm
  | 6, hm => exact mlX6_ok _ hm
  | 7, hm => exact mlX7_ok _ hm
  | 8, hm => exact mlX8_ok _ hm
  | 9, hm => exact mlX9_ok _ hm
  | n + 10, hm => exact mlL_ok _ hm
end
section
section X7
variable {G : xG} {d : Nat} {M M' : xM} {pc : Nat} {lo : xL} {st : List Value} {σ : xS} {Q Q' : Option Value → xS → Prop}
/-- getfield -/
theorem xg (cn : Nat) (hcn : xcn cn = M.1.cls) {idx a ci k : Nat} {fs : List Value} {v : Value} (hd : M.2.2.2.2.lookup pc = some ((180, idx, 0), 3)) (hf : (xfls cn).lookup idx = some (ci, k)) (ha : σ.1 a = some (ci, fs)) (hv : fs[k]? = some v) (kk : xw G d M (pc + 3) lo (v :: st) σ Q) : xw G d M pc lo (rf G a :: st) σ Q :=
  xi_get hd (by rw [← hcn]; exact xfls_ok hf) ha hv kk
/-- putfield; the state goes on under a new name -/
theorem xp (cn : Nat) (hcn : xcn cn = M.1.cls) {idx a ci k : Nat} {fs : List Value} {v : Value} (hd : M.2.2.2.2.lookup pc = some ((181, idx, 0), 3)) (hf : (xfls cn).lookup idx = some (ci, k)) (ha : σ.1 a = some (ci, fs)) (hfin : xFin ci k = false) (hn : narrow (xTy ci k) v = v) (hfit : fits (xTy ci k) v = true)
    (kk : ∀ σ1 : xS, σ1.1 a = some (ci, fs.set k v) → (∀ q, q ≠ a → σ1.1 q = σ.1 q) → σ1.2 = σ.2 → xw G d M (pc + 3) lo st σ1 Q) : xw G d M pc lo (v :: rf G a :: st) σ Q :=
  xi_put hd (by rw [← hcn]; exact xfls_ok hf) ha hfin hn hfit (kk _ (if_pos rfl) (fun q hq => if_neg hq) rfl)
theorem xpF {idx a ci k : Nat} {fs : List Value} {v : Value} (hd : M.2.2.2.2.lookup pc = some ((181, idx, 0), 3)) (hf : ∃ r : vw_C, vwCl[ci]? = some r ∧ k < r.2.2 ∧ (r.2.1 k).1 = M.1.cls ∧ Cond.fieldLink M.1.cls idx (r.2.1 k).1 (r.2.1 k).2.1 (r.2.1 k).2.2.1 ∈ xGw) (hini : M.1.name = "<init>") (ha : σ.1 a = some (ci, fs)) (hfin : xFin ci k = true) (hn : narrow (xTy ci k) v = v) (hfit : fits (xTy ci k) v = true)
    (kk : ∀ σ1 : xS, σ1.1 a = some (ci, fs.set k v) → (∀ q, q ≠ a → σ1.1 q = σ.1 q) → σ1.2 = σ.2 → xw G d M (pc + 3) lo st σ1 Q) : xw G d M pc lo (v :: rf G a :: st) σ Q :=
  xi_putF hd hf hini ha hfin hn hfit (kk _ (if_pos rfl) (fun q hq => if_neg hq) rfl)
theorem xsi {a : Nat} {i x : Int32} {vs : List Value} (hd : M.2.2.2.2.lookup pc = some ((79, 0, 0), 1)) (ha : σ.1 a = some (11, vs)) (h0 : ¬ i < 0) (hv : i.toNatClampNeg < vs.length) (kk : ∀ σ1 : xS, σ1.1 a = some (11, vs.set i.toNatClampNeg (.int x)) → (∀ q, q ≠ a → σ1.1 q = σ.1 q) → σ1.2 = σ.2 → xw G d M (pc + 1) lo st σ1 Q) : xw G d M pc lo (.int x :: .int i :: rf G a :: st) σ Q :=
  xi_iast hd ha h0 hv (kk _ (if_pos rfl) (fun q hq => if_neg hq) rfl)
theorem xsb {a : Nat} {i x : Int32} {vs : List Value} (hd : M.2.2.2.2.lookup pc = some ((84, 0, 0), 1)) (ha : σ.1 a = some (10, vs)) (h0 : ¬ i < 0) (hv : i.toNatClampNeg < vs.length) (kk : ∀ σ1 : xS, σ1.1 a = some (10, vs.set i.toNatClampNeg (.int x.toInt8.toInt32)) → (∀ q, q ≠ a → σ1.1 q = σ.1 q) → σ1.2 = σ.2 → xw G d M (pc + 1) lo st σ1 Q) : xw G d M pc lo (.int x :: .int i :: rf G a :: st) σ Q :=
  xi_bast hd ha h0 hv (kk _ (if_pos rfl) (fun q hq => if_neg hq) rfl)
theorem xsz {a : Nat} {i x : Int32} {vs : List Value} (hd : M.2.2.2.2.lookup pc = some ((84, 0, 0), 1)) (ha : σ.1 a = some (12, vs)) (h0 : ¬ i < 0) (hv : i.toNatClampNeg < vs.length) (hx1 : x &&& 1 = x) (kk : ∀ σ1 : xS, σ1.1 a = some (12, vs.set i.toNatClampNeg (.int x)) → (∀ q, q ≠ a → σ1.1 q = σ.1 q) → σ1.2 = σ.2 → xw G d M (pc + 1) lo st σ1 Q) : xw G d M pc lo (.int x :: .int i :: rf G a :: st) σ Q :=
  xi_zast hd ha h0 hv hx1 (kk _ (if_pos rfl) (fun q hq => if_neg hq) rfl)
theorem xsa {a b t : Nat} {i : Int32} {vs fs : List Value} (hd : M.2.2.2.2.lookup pc = some ((83, 0, 0), 1)) (ha : σ.1 a = some (t, vs)) (h1 : 13 ≤ t) (h2 : t ≤ 15) (hb' : σ.1 b = some (xel t, fs)) (h0 : ¬ i < 0) (hv : i.toNatClampNeg < vs.length) (kk : ∀ σ1 : xS, σ1.1 a = some (t, vs.set i.toNatClampNeg (rf G b)) → (∀ q, q ≠ a → σ1.1 q = σ.1 q) → σ1.2 = σ.2 → xw G d M (pc + 1) lo st σ1 Q) : xw G d M pc lo (rf G b :: .int i :: rf G a :: st) σ Q :=
  xi_aast hd ha h1 h2 hb' h0 hv (kk _ (if_pos rfl) (fun q hq => if_neg hq) rfl)
theorem xsn {a t : Nat} {i : Int32} {vs : List Value} (hd : M.2.2.2.2.lookup pc = some ((83, 0, 0), 1)) (ha : σ.1 a = some (t, vs)) (h1 : 13 ≤ t) (h2 : t ≤ 15) (h0 : ¬ i < 0) (hv : i.toNatClampNeg < vs.length) (kk : ∀ σ1 : xS, σ1.1 a = some (t, vs.set i.toNatClampNeg .null) → (∀ q, q ≠ a → σ1.1 q = σ.1 q) → σ1.2 = σ.2 → xw G d M (pc + 1) lo st σ1 Q) : xw G d M pc lo (.null :: .int i :: rf G a :: st) σ Q :=
  xi_aastN hd ha h1 h2 h0 hv (kk _ (if_pos rfl) (fun q hq => if_neg hq) rfl)
/-- a virtual call -/
theorem xcV (cn : Nat) (hcn : xcn cn = M.1.cls) {idx b ci n j : Nat} {fs As rest : List Value} (hd : M.2.2.2.2.lookup pc = some ((182, idx, 0), 3)) (hl : (xmls cn).lookup idx = some j) (hm : xm G d M' (rf G b :: As) σ Q') (hj : xmeth j = M') (hml : xml M' n) (hin : ∀ w ∈ [Cond.instanceMethod M'.1, Cond.selects M'.1.cls M'.1 M'.1], w ∈ xGw)
    (ha : σ.1 b = some (ci, fs)) (hc : ∃ r : vw_C, vwCl[ci]? = some r ∧ r.1 = M'.1.cls) (hn : As.length = n) (hst : st = As.reverse ++ rf G b :: rest) (hrest : (rest.map fun v => v.category).sum ≤ 8)
    (kk : ∀ v σ', Q' v σ' → xw G (d + 1) M (pc + 3) lo (v.toList ++ rest) σ' Q) : xw G (d + 1) M pc lo st σ Q :=
  xi_callV hd hml hin (by rw [← hcn, ← hj]; exact xmls_ok hl) hm ha hc hn hst hrest kk
theorem xcI (cn : Nat) (hcn : xcn cn = M.1.cls) {idx b n j : Nat} {As rest : List Value} (hd : M.2.2.2.2.lookup pc = some ((183, idx, 0), 3)) (hl : (xmls cn).lookup idx = some j) (hm : xm G d M' (rf G b :: As) σ Q') (hj : xmeth j = M') (hml : xml M' n) (hin : Cond.instanceMethod M'.1 ∈ xGw) (hret : M'.2.2.2.1 = none) (hini : M'.1.name = "<init>")
    (hn : As.length = n) (hst : st = As.reverse ++ rf G b :: rest) (hrest : (rest.map fun v => v.category).sum ≤ 8)
    (kk : ∀ v σ', Q' v σ' → xw G (d + 1) M (pc + 3) lo (v.toList ++ rest) σ' Q) : xw G (d + 1) M pc lo st σ Q :=
  xi_callI hd hret hini hml hin (by rw [← hcn, ← hj]; exact xmls_ok hl) hm hn hst hrest kk
theorem xcS (cn : Nat) (hcn : xcn cn = M.1.cls) {idx n j : Nat} {As rest : List Value} (hd : M.2.2.2.2.lookup pc = some ((184, idx, 0), 3)) (hl : (xmls cn).lookup idx = some j) (hm : xm G d M' As σ Q') (hj : xmeth j = M') (hml : xml M' n) (hin : Cond.static M'.1 ∈ xGw)
    (hn : As.length = n) (hst : st = As.reverse ++ rest) (hrest : (rest.map fun v => v.category).sum ≤ 8)
    (kk : ∀ v σ', Q' v σ' → xw G (d + 1) M (pc + 3) lo (v.toList ++ rest) σ' Q) : xw G (d + 1) M pc lo st σ Q :=
  xi_callS hd hml hin (by rw [← hcn, ← hj]; exact xmls_ok hl) hm hn hst hrest kk
end X7
end
section
theorem xmaxw (own : String) (idx : Nat) (h : Cond.methodLink own idx Lib.Math.max.name ∈ xGw) : ∀ w ∈ [Cond.methodLink own idx Lib.Math.max.name, Cond.static Lib.Math.max.name, Cond.initialized "java/lang/Math", Cond.code Lib.Math.max.name Lib.Math.max.code 2 (some .int)], w ∈ xGw := List.forall_mem_cons.mpr ⟨h, xwords _ [195, 84, 196] (by decide +kernel) (by decide +kernel)⟩
theorem xminw (own : String) (idx : Nat) (h : Cond.methodLink own idx Lib.Math.min.name ∈ xGw) : ∀ w ∈ [Cond.methodLink own idx Lib.Math.min.name, Cond.static Lib.Math.min.name, Cond.initialized "java/lang/Math", Cond.code Lib.Math.min.name Lib.Math.min.code 2 (some .int)], w ∈ xGw := List.forall_mem_cons.mpr ⟨h, xwords _ [469, 84, 470] (by decide +kernel) (by decide +kernel)⟩
theorem gX1_9 : Cond.methodLink RX1 9 Lib.Math.max.name ∈ xGw := xGw_in (List.mem_of_getElem? (i := 194) (by decide +kernel)) rfl
theorem gX6_130 : Cond.methodLink RX6 130 Lib.Math.min.name ∈ xGw := xGw_in (List.mem_of_getElem? (i := 468) (by decide +kernel)) rfl
theorem gX8_175 : Cond.methodLink RX8 175 Lib.Math.min.name ∈ xGw := xGw_in (List.mem_of_getElem? (i := 673) (by decide +kernel)) rfl
section X8
variable {G : xG} {d : Nat} {M : xM} {pc : Nat} {lo : xL} {st : List Value} {σ : xS} {Q : Option Value → xS → Prop}
theorem xi_max {idx : Nat} {x y : Int32} (hd : M.2.2.2.2.lookup pc = some ((184, idx, 0), 3)) (hw : Cond.methodLink M.1.cls idx Lib.Math.max.name ∈ xGw) (hst : (st.map fun v => v.category).sum ≤ 8) (kk : xw G (d + 1) M (pc + 3) lo (.int (if x < y then y else x) :: st) σ Q) : xw G (d + 1) M pc lo (.int y :: .int x :: st) σ Q := by
  obtain ⟨v, σ', hq, h1, h2, k⟩ := kk
  refine ⟨v, σ', hq, h1, h2, fun n0 s0 p e R s m args below meth c H locs ls C a1 a2 hr hf hl => ?_⟩
  have hR1 : d + 1 ≤ R.frames := C.2.2.2.2.2.2.2.2.2.1
  have hR2 : 50 * (d + 1) ≤ R.locals := C.2.2.2.2.2.2.2.2.2.2.1
  have hRc : R.cells = σ'.2.1 - n0 := C.2.2.2.2.2.2.2.2.2.2.2.1
  have hRs : R.slots = σ'.2.2 - s0 := C.2.2.2.2.2.2.2.2.2.2.2.2.1
  have hts := C.2.2.2.2.2.2.2.1
  have hw' := xmaxw _ _ hw
  exact va_mmax C.1 C.2.1 (by rw [C.2.2.1]; exact hl.2.1.1.symm) C.2.2.2.2.2.1 (hts _ (hw' _ (by simp))) (hts _ (hw' _ (by simp))) (hts _ (hw' _ (by simp))) (hts _ (hw' _ (by simp))) (by omega) (by omega) (by omega) (by omega) (C.2.2.2.2.2.2.2.2.2.2.2.2.2.1 _ (xlook hd)).1 (k n0 s0 p e R s m args below meth c H locs ls C a1 a2 hr hf hl)
theorem xi_min {idx : Nat} {x y : Int32} (hd : M.2.2.2.2.lookup pc = some ((184, idx, 0), 3)) (hw : Cond.methodLink M.1.cls idx Lib.Math.min.name ∈ xGw) (hst : (st.map fun v => v.category).sum ≤ 8) (kk : xw G (d + 1) M (pc + 3) lo (.int (if y < x then y else x) :: st) σ Q) : xw G (d + 1) M pc lo (.int y :: .int x :: st) σ Q := by
  obtain ⟨v, σ', hq, h1, h2, k⟩ := kk
  refine ⟨v, σ', hq, h1, h2, fun n0 s0 p e R s m args below meth c H locs ls C a1 a2 hr hf hl => ?_⟩
  have hR1 : d + 1 ≤ R.frames := C.2.2.2.2.2.2.2.2.2.1
  have hR2 : 50 * (d + 1) ≤ R.locals := C.2.2.2.2.2.2.2.2.2.2.1
  have hRc : R.cells = σ'.2.1 - n0 := C.2.2.2.2.2.2.2.2.2.2.2.1
  have hRs : R.slots = σ'.2.2 - s0 := C.2.2.2.2.2.2.2.2.2.2.2.2.1
  have hts := C.2.2.2.2.2.2.2.1
  have hw' := xminw _ _ hw
  exact va_mmin C.1 C.2.1 (by rw [C.2.2.1]; exact hl.2.1.1.symm) C.2.2.2.2.2.1 (hts _ (hw' _ (by simp))) (hts _ (hw' _ (by simp))) (hts _ (hw' _ (by simp))) (hts _ (hw' _ (by simp))) (by omega) (by omega) (by omega) (by omega) (C.2.2.2.2.2.2.2.2.2.2.2.2.2.1 _ (xlook hd)).1 (k n0 s0 p e R s m args below meth c H locs ls C a1 a2 hr hf hl)
end X8
end
section
/-- simple instructions up to the place stop, at most n -/
def xrunT (tb : List (Nat × xE)) (stop : Nat) : Nat → Nat → xL → List Value → Nat × xL × List Value
  | 0, pc, lo, st => (pc, lo, st)
  | n + 1, pc, lo, st => match tb.lookup pc with
    | none => (pc, lo, st)
    | some e => match x1 e pc lo st with
      | none => (pc, lo, st)
      | some (pc', lo', st') => if pc' = stop then (pc', lo', st') else xrunT tb stop n pc' lo' st'
theorem xrs (n : Nat) : List.replicate (n + 1) (none : Option Value) = none :: List.replicate n none := rfl
theorem xr0 : List.replicate 0 (none : Option Value) = [] := rfl
section X9
variable {G : xG} {d : Nat} {M : xM} {pc : Nat} {lo : xL} {st : List Value} {σ : xS} {Q : Option Value → xS → Prop}
theorem xto (stop n : Nat) {pc' : Nat} {lo' : xL} {st' : List Value} (h : xrunT M.2.2.2.2 stop n pc lo st = (pc', lo', st')) (k : xw G d M pc' lo' st' σ Q) : xw G d M pc lo st σ Q := by
  induction n generalizing pc lo st with
  | zero => cases h; exact k
  | succ n ih =>
    unfold xrunT at h
    split at h
    next => cases h; exact k
    next e he =>
      split at h
      next => cases h; exact k
      next q1 q2 q3 h1 =>
        split at h
        next => cases h; exact xw.of_step (x1_step he h1) k
        next => exact xw.of_step (x1_step he h1) (ih h)
theorem xm_at {As : List Value} (n : Nat) (hn : M.2.2.1 = n) (hp : plainName M.1.cls = true) (hlen : As.length ≤ n) (hcat : ∀ v ∈ As, v.category = 1) (ht : xtok M.2.1 M.2.2.2.2) (h : xw G d M 0 (xlo0 As n) [] σ Q) : xm G d M As σ Q := by
  subst hn
  exact xm_of hp hlen hcat ht h
end X9
end
section
/-! ===== heaps: blocks, frames; ints ===== -/
abbrev vi (xs : List Int32) : List Value := xs.map Value.int
theorem vi_get {xs : List Int32} {i : Nat} {x : Int32} (h : xs[i]? = some x) : (vi xs)[i]? = some (.int x) := by rw [List.getElem?_map, h]; rfl
theorem vi_len (xs : List Int32) : (vi xs).length = xs.length := List.length_map _
theorem vi_set (xs : List Int32) (i : Nat) (x : Int32) : (vi xs).set i (.int x) = vi (xs.set i x) := (List.map_set ..).symm
theorem i_lt {x y : Int32} : x < y ↔ x.toInt < y.toInt := Int32.lt_iff_toInt_lt
theorem i_le {x y : Int32} : x ≤ y ↔ x.toInt ≤ y.toInt := Int32.le_iff_toInt_le
theorem i_eq {x y : Int32} : x = y ↔ x.toInt = y.toInt := Int32.toInt_inj.symm
theorem i_cl (x : Int32) : x.toNatClampNeg = x.toInt.toNat := rfl
theorem i_n {n : Nat} (h : n < 2 ^ 31) : (nI n).toInt = n := nI_toInt h
theorem i_rng (x : Int32) : -2147483648 ≤ x.toInt ∧ x.toInt < 2147483648 := ⟨Int32.le_toInt x, Int32.toInt_lt x⟩
/-- nothing but the n cells from a on has changed -/
def frz (h h' : Nat → Option xC) (a n : Nat) : Prop := ∀ q, (q < a ∨ a + n ≤ q) → h' q = h q
theorem frz.rf {h : Nat → Option xC} {a n : Nat} : frz h h a n := fun _ _ => rfl
theorem frz.tr {h h1 h2 : Nat → Option xC} {a n : Nat} (f : frz h h1 a n) (g : frz h1 h2 a n) : frz h h2 a n := fun q hq => (g q hq).trans (f q hq)
theorem frz.wide {h h1 : Nat → Option xC} {a n b k : Nat} (f : frz h h1 a n) (h1' : b ≤ a) (h2 : a + n ≤ b + k) : frz h h1 b k := fun q hq => f q (by omega)
theorem frz.at {h h1 : Nat → Option xC} {a n q : Nat} (f : frz h h1 a n) (hq : q < a ∨ a + n ≤ q) : h1 q = h q := f q hq
theorem frz.one {h h1 : Nat → Option xC} {a n b : Nat} (f : ∀ q, q ≠ b → h1 q = h q) (h1' : a ≤ b) (h2 : b < a + n) : frz h h1 a n := fun q hq => f q (by omega)
/-- a row of bytes: the object at a, its cells at a + 1, room cap, the bytes bs -/
def brr (G : xG) (h : Nat → Option xC) (a cap : Nat) (bs : List Int32) : Prop := ∃ xs : List Int32, h a = some (1, [rf G (a + 1), .int (nI bs.length)]) ∧ h (a + 1) = some (11, vi xs) ∧ xs.length = cap ∧ bs.length ≤ cap ∧ xs.take bs.length = bs ∧ cap < 100000
theorem brr.keep {G : xG} {h h' : Nat → Option xC} {a cap b n : Nat} {bs : List Int32} (H : brr G h a cap bs) (f : frz h h' b n) (hd : a + 2 ≤ b ∨ b + n ≤ a) : brr G h' a cap bs := by
  obtain ⟨xs, h1, h2, h3⟩ := H
  exact ⟨xs, by rw [f.at (by omega)]; exact h1, by rw [f.at (by omega)]; exact h2, h3⟩
theorem brr.len {G : xG} {h : Nat → Option xC} {a cap : Nat} {bs : List Int32} (H : brr G h a cap bs) : bs.length ≤ cap ∧ cap < 100000 := by
  obtain ⟨xs, h1, h2, h3, h4, h5, h6⟩ := H
  exact ⟨h4, h6⟩
theorem brr.obj {G : xG} {h : Nat → Option xC} {a cap : Nat} {bs : List Int32} (H : brr G h a cap bs) : h a = some (1, [rf G (a + 1), .int (nI bs.length)]) := by
  obtain ⟨xs, h1, -⟩ := H
  exact h1
theorem take_get {xs bs : List Int32} (h : xs.take bs.length = bs) {i : Nat} (hi : i < bs.length) : xs[i]? = bs[i]? := by
  have := congrArg (fun l => l[i]?) h
  rw [← this]
  simp [List.getElem?_take, hi]
theorem take_snoc {xs bs : List Int32} (h : xs.take bs.length = bs) {b : Int32} (hl : bs.length < xs.length) : (xs.set bs.length b).take (bs ++ [b]).length = bs ++ [b] := by
  apply List.ext_getElem?
  intro i
  rw [List.getElem?_take, List.length_append, List.length_singleton]
  by_cases h1 : i < bs.length
  · rw [if_pos (by omega), List.getElem?_set_ne (by omega), take_get h h1, List.getElem?_append_left h1]
  · by_cases h2 : i = bs.length
    · subst h2
      rw [if_pos (by omega), List.getElem?_set_self hl, List.getElem?_append_right (by omega)]
      simp
    · rw [if_neg (by omega), List.getElem?_eq_none (by simp; omega)]
/-- a byte of a row, -1 where there is none -/
def bat (bs : List Int32) (i : Int32) : Int32 := if i.toInt < 0 then -1 else bs.getD i.toInt.toNat (-1)
theorem bat_n {bs : List Int32} {j : Nat} (h : j < 2 ^ 31) : bat bs (nI j) = bs.getD j (-1) := by
  unfold bat
  rw [i_n h, if_neg (by omega)]
  rfl
theorem bat_out {bs : List Int32} {i : Int32} (h : i.toInt < 0 ∨ (bs.length : Int) ≤ i.toInt) : bat bs i = -1 := by
  unfold bat
  split
  · rfl
  · rw [List.getD_eq_getElem?_getD, List.getElem?_eq_none (by omega)]
    rfl
def bin (n : Nat) (i : Int32) : Bool := decide (0 ≤ i.toInt ∧ i.toInt < n)
/-- one byte into a sum -/
def sgo (s b : Int32) : Int32 := (((s ^^^ b) <<< ((11 : Int32) &&& 31)) ||| ((s ^^^ b).toUInt32 >>> ((21 : Int32).toUInt32 &&& Int32.toUInt32 31)).toInt32) * 16777619
def ssum (s : Int32) (bs : List Int32) : Int32 := bs.foldl sgo s
def bsh (n : Int32) (k : Int32) : Int32 := (n.toUInt32 >>> (k.toUInt32 &&& Int32.toUInt32 31)).toInt32 &&& 255
def four (n : Int32) : List Int32 := [bsh n 24, bsh n 16, bsh n 8, bsh n 0]
end
section
set_option maxRecDepth 100000 in
set_option maxHeartbeats 8000000 in
theorem c_isBelow {G : xG} {d : Nat} {x y : Int32} {σ : xS} : xm G d mX8_isBelow [.int x, .int y] σ (fun v σ' => v = some (.int (if 0 ≤ x.toInt ∧ x.toInt < y.toInt then 1 else 0)) ∧ σ' = σ) := by
  refine xm_at 2 rfl (by decide) (Nat.le_of_ble_eq_true rfl) (by simp [Value.category]) tX8_isBelow_ok ?_
  try simp only [xlo0, List.map_cons, List.map_nil, List.length_cons, List.length_nil, xrs, xr0, Nat.reduceAdd, Nat.reduceSub, List.cons_append, List.nil_append, List.set_cons_zero, List.set_cons_succ, Option.toList_none, Option.toList_some, nI_1]
  refine xgo 80 rfl ?_
  try simp only [xlo0, List.map_cons, List.map_nil, List.length_cons, List.length_nil, xrs, xr0, Nat.reduceAdd, Nat.reduceSub, List.cons_append, List.nil_append, List.set_cons_zero, List.set_cons_succ, Option.toList_none, Option.toList_some, nI_1]
  refine xi_iflt rfl (fun c => ?_) (fun c => ?_)
  · refine xgo 80 rfl ?_
    try simp only [xlo0, List.map_cons, List.map_nil, List.length_cons, List.length_nil, xrs, xr0, Nat.reduceAdd, Nat.reduceSub, List.cons_append, List.nil_append, List.set_cons_zero, List.set_cons_succ, Option.toList_none, Option.toList_some, nI_1]
    refine xi_ret_i rfl rfl (by decide) ⟨by rw [if_neg (by rw [i_lt] at c; have : (0 : Int32).toInt = 0 := rfl; omega)], rfl⟩
  · refine xgo 80 rfl ?_
    try simp only [xlo0, List.map_cons, List.map_nil, List.length_cons, List.length_nil, xrs, xr0, Nat.reduceAdd, Nat.reduceSub, List.cons_append, List.nil_append, List.set_cons_zero, List.set_cons_succ, Option.toList_none, Option.toList_some, nI_1]
    refine xi_icmpge rfl (fun c1 => ?_) (fun c1 => ?_)
    · refine xgo 80 rfl ?_
      try simp only [xlo0, List.map_cons, List.map_nil, List.length_cons, List.length_nil, xrs, xr0, Nat.reduceAdd, Nat.reduceSub, List.cons_append, List.nil_append, List.set_cons_zero, List.set_cons_succ, Option.toList_none, Option.toList_some, nI_1]
      refine xi_ret_i rfl rfl (by decide) ⟨by rw [if_neg (by rw [i_le] at c1; omega)], rfl⟩
    · refine xgo 80 rfl ?_
      try simp only [xlo0, List.map_cons, List.map_nil, List.length_cons, List.length_nil, xrs, xr0, Nat.reduceAdd, Nat.reduceSub, List.cons_append, List.nil_append, List.set_cons_zero, List.set_cons_succ, Option.toList_none, Option.toList_some, nI_1]
      refine xi_ret_i rfl rfl (by decide) ⟨by rw [if_pos (by rw [i_le] at c1; rw [i_lt] at c; have : (0 : Int32).toInt = 0 := rfl; omega)], rfl⟩
set_option maxRecDepth 100000 in
set_option maxHeartbeats 8000000 in
theorem c_BR_init {G : xG} {d a : Nat} {room : Int32} {fs : List Value} {σ : xS} (h : σ.1 a = some (1, [fs.head!, .int 0])) (h0 : 0 ≤ room.toInt) (h1 : room.toInt < 100000) (ha : a < σ.2.1) : xm G (d + 1) mX1_init [rf G a, .int room] σ (fun v σ' => v = none ∧ σ'.1 a = some (1, [rf G σ.2.1, .int 0]) ∧ σ'.1 σ.2.1 = some (11, List.replicate room.toInt.toNat (.int 0)) ∧ (∀ q, q ≠ a → q ≠ σ.2.1 → σ'.1 q = σ.1 q) ∧ σ'.2.1 = σ.2.1 + 1 ∧ σ'.2.2 = σ.2.2 + room.toInt.toNat) := by
  refine xm_at 2 rfl (by decide) (Nat.le_of_ble_eq_true rfl) (by simp [Value.category]) tX1_init_ok ?_
  try simp only [xlo0, List.map_cons, List.map_nil, List.length_cons, List.length_nil, xrs, xr0, Nat.reduceAdd, Nat.reduceSub, List.cons_append, List.nil_append, List.set_cons_zero, List.set_cons_succ, Option.toList_none, Option.toList_some, nI_1]
  refine xgo 80 rfl ?_
  try simp only [xlo0, List.map_cons, List.map_nil, List.length_cons, List.length_nil, xrs, xr0, Nat.reduceAdd, Nat.reduceSub, List.cons_append, List.nil_append, List.set_cons_zero, List.set_cons_succ, Option.toList_none, Option.toList_some, nI_1]
  refine xi_obj rfl oX1 (Nat.le_of_ble_eq_true rfl) ?_
  refine xgo 80 rfl ?_
  try simp only [xlo0, List.map_cons, List.map_nil, List.length_cons, List.length_nil, xrs, xr0, Nat.reduceAdd, Nat.reduceSub, List.cons_append, List.nil_append, List.set_cons_zero, List.set_cons_succ, Option.toList_none, Option.toList_some, nI_1]
  refine xi_max rfl gX1_9 (Nat.le_of_ble_eq_true rfl) ?_
  have hr : (if room < 0 then (0 : Int32) else room) = room := if_neg (by rw [i_lt]; have : (0 : Int32).toInt = 0 := rfl; omega)
  rw [hr]
  refine xgo 80 rfl ?_
  try simp only [xlo0, List.map_cons, List.map_nil, List.length_cons, List.length_nil, xrs, xr0, Nat.reduceAdd, Nat.reduceSub, List.cons_append, List.nil_append, List.set_cons_zero, List.set_cons_succ, Option.toList_none, Option.toList_some, nI_1]
  refine xi_newa (t := 11) (atype := .int) rfl rfl (by decide) (by decide) rfl a_11 (by rw [i_lt]; have : (0 : Int32).toInt = 0 := rfl; omega) rfl (by rw [i_cl]; omega) ?_
  have hn : (xnew σ (11, List.replicate room.toNatClampNeg (.int 0)) room.toNatClampNeg).1 a = some (1, [fs.head!, .int 0]) := (if_neg (by omega)).trans h
  refine xgo 80 rfl ?_
  try simp only [xlo0, List.map_cons, List.map_nil, List.length_cons, List.length_nil, xrs, xr0, Nat.reduceAdd, Nat.reduceSub, List.cons_append, List.nil_append, List.set_cons_zero, List.set_cons_succ, Option.toList_none, Option.toList_some, nI_1]
  refine xpF rfl fX1_15F rfl hn rfl rfl rfl (fun s2 n2 f2 e2 => ?_)
  refine xgo 80 rfl ?_
  try simp only [xlo0, List.map_cons, List.map_nil, List.length_cons, List.length_nil, xrs, xr0, Nat.reduceAdd, Nat.reduceSub, List.cons_append, List.nil_append, List.set_cons_zero, List.set_cons_succ, Option.toList_none, Option.toList_some, nI_1]
  refine xi_ret_v rfl rfl ⟨rfl, n2, (f2 _ (by omega)).trans (if_pos rfl), fun q h1 h2 => (f2 q h1).trans (if_neg h2), congrArg Prod.fst e2, congrArg Prod.snd e2⟩
set_option maxRecDepth 100000 in
set_option maxHeartbeats 8000000 in
theorem c_BR_has {G : xG} {d a cap : Nat} {bs : List Int32} {i : Int32} {σ : xS} (h : brr G σ.1 a cap bs) : xm G d mX1_has [rf G a, .int i] σ (fun v σ' => v = some (.int (if bin bs.length i then 1 else 0)) ∧ σ' = σ) := by
  obtain ⟨xs, h1, h2, h3, h4, h5, h6⟩ := h
  have hn : (nI bs.length).toInt = bs.length := i_n (by omega)
  have z : (0 : Int32).toInt = 0 := rfl
  refine xm_at 2 rfl (by decide) (Nat.le_of_ble_eq_true rfl) (by simp [Value.category]) tX1_has_ok ?_
  try simp only [xlo0, List.map_cons, List.map_nil, List.length_cons, List.length_nil, xrs, xr0, Nat.reduceAdd, Nat.reduceSub, List.cons_append, List.nil_append, List.set_cons_zero, List.set_cons_succ, Option.toList_none, Option.toList_some, nI_1]
  refine xgo 80 rfl ?_
  try simp only [xlo0, List.map_cons, List.map_nil, List.length_cons, List.length_nil, xrs, xr0, Nat.reduceAdd, Nat.reduceSub, List.cons_append, List.nil_append, List.set_cons_zero, List.set_cons_succ, Option.toList_none, Option.toList_some, nI_1]
  refine xi_iflt rfl (fun c => ?_) (fun c => ?_)
  · refine xgo 80 rfl ?_
    try simp only [xlo0, List.map_cons, List.map_nil, List.length_cons, List.length_nil, xrs, xr0, Nat.reduceAdd, Nat.reduceSub, List.cons_append, List.nil_append, List.set_cons_zero, List.set_cons_succ, Option.toList_none, Option.toList_some, nI_1]
    refine xi_ret_i rfl rfl (by decide) ⟨by rw [if_neg (by rw [i_lt] at c; simp [bin]; omega)], rfl⟩
  · refine xgo 80 rfl ?_
    try simp only [xlo0, List.map_cons, List.map_nil, List.length_cons, List.length_nil, xrs, xr0, Nat.reduceAdd, Nat.reduceSub, List.cons_append, List.nil_append, List.set_cons_zero, List.set_cons_succ, Option.toList_none, Option.toList_some, nI_1]
    refine xg 1 rfl rfl rfl h1 rfl ?_
    refine xgo 80 rfl ?_
    try simp only [xlo0, List.map_cons, List.map_nil, List.length_cons, List.length_nil, xrs, xr0, Nat.reduceAdd, Nat.reduceSub, List.cons_append, List.nil_append, List.set_cons_zero, List.set_cons_succ, Option.toList_none, Option.toList_some, nI_1]
    refine xi_icmpge rfl (fun c1 => ?_) (fun c1 => ?_)
    · refine xgo 80 rfl ?_
      try simp only [xlo0, List.map_cons, List.map_nil, List.length_cons, List.length_nil, xrs, xr0, Nat.reduceAdd, Nat.reduceSub, List.cons_append, List.nil_append, List.set_cons_zero, List.set_cons_succ, Option.toList_none, Option.toList_some, nI_1]
      refine xi_ret_i rfl rfl (by decide) ⟨by rw [if_neg (by rw [i_le] at c1; simp [bin]; omega)], rfl⟩
    · refine xgo 80 rfl ?_
      try simp only [xlo0, List.map_cons, List.map_nil, List.length_cons, List.length_nil, xrs, xr0, Nat.reduceAdd, Nat.reduceSub, List.cons_append, List.nil_append, List.set_cons_zero, List.set_cons_succ, Option.toList_none, Option.toList_some, nI_1]
      refine xi_ret_i rfl rfl (by decide) ⟨by rw [if_pos (by rw [i_le] at c1; rw [i_lt] at c; simp [bin]; omega)], rfl⟩
set_option maxRecDepth 100000 in
set_option maxHeartbeats 8000000 in
theorem c_BR_at {G : xG} {d a cap : Nat} {bs : List Int32} {i : Int32} {σ : xS} (h : brr G σ.1 a cap bs) : xm G d mX1_at [rf G a, .int i] σ (fun v σ' => v = some (.int (bat bs i)) ∧ σ' = σ) := by
  obtain ⟨xs, h1, h2, h3, h4, h5, h6⟩ := h
  have hn : (nI bs.length).toInt = bs.length := i_n (by omega)
  have z : (0 : Int32).toInt = 0 := rfl
  refine xm_at 2 rfl (by decide) (Nat.le_of_ble_eq_true rfl) (by simp [Value.category]) tX1_at_ok ?_
  try simp only [xlo0, List.map_cons, List.map_nil, List.length_cons, List.length_nil, xrs, xr0, Nat.reduceAdd, Nat.reduceSub, List.cons_append, List.nil_append, List.set_cons_zero, List.set_cons_succ, Option.toList_none, Option.toList_some, nI_1]
  refine xgo 80 rfl ?_
  try simp only [xlo0, List.map_cons, List.map_nil, List.length_cons, List.length_nil, xrs, xr0, Nat.reduceAdd, Nat.reduceSub, List.cons_append, List.nil_append, List.set_cons_zero, List.set_cons_succ, Option.toList_none, Option.toList_some, nI_1]
  refine xi_iflt rfl (fun c => ?_) (fun c => ?_)
  · refine xgo 80 rfl ?_
    try simp only [xlo0, List.map_cons, List.map_nil, List.length_cons, List.length_nil, xrs, xr0, Nat.reduceAdd, Nat.reduceSub, List.cons_append, List.nil_append, List.set_cons_zero, List.set_cons_succ, Option.toList_none, Option.toList_some, nI_1]
    refine xi_ret_i rfl rfl rfl ⟨by rw [bat_out (by rw [i_lt] at c; omega)], rfl⟩
  · refine xgo 80 rfl ?_
    try simp only [xlo0, List.map_cons, List.map_nil, List.length_cons, List.length_nil, xrs, xr0, Nat.reduceAdd, Nat.reduceSub, List.cons_append, List.nil_append, List.set_cons_zero, List.set_cons_succ, Option.toList_none, Option.toList_some, nI_1]
    refine xg 1 rfl rfl rfl h1 rfl ?_
    refine xgo 80 rfl ?_
    try simp only [xlo0, List.map_cons, List.map_nil, List.length_cons, List.length_nil, xrs, xr0, Nat.reduceAdd, Nat.reduceSub, List.cons_append, List.nil_append, List.set_cons_zero, List.set_cons_succ, Option.toList_none, Option.toList_some, nI_1]
    refine xi_icmpge rfl (fun c1 => ?_) (fun c1 => ?_)
    · refine xgo 80 rfl ?_
      try simp only [xlo0, List.map_cons, List.map_nil, List.length_cons, List.length_nil, xrs, xr0, Nat.reduceAdd, Nat.reduceSub, List.cons_append, List.nil_append, List.set_cons_zero, List.set_cons_succ, Option.toList_none, Option.toList_some, nI_1]
      refine xi_ret_i rfl rfl rfl ⟨by rw [bat_out (by rw [i_le] at c1; omega)], rfl⟩
    · rw [i_le] at c1
      rw [i_lt] at c
      have hi : i.toInt.toNat < bs.length := by omega
      have hg : xs[i.toNatClampNeg]? = some (bat bs i) := by
        rw [i_cl, take_get h5 hi, bat, if_neg (by omega), List.getD_eq_getElem?_getD, List.getElem?_eq_getElem hi]
        rfl
      refine xgo 80 rfl ?_
      try simp only [xlo0, List.map_cons, List.map_nil, List.length_cons, List.length_nil, xrs, xr0, Nat.reduceAdd, Nat.reduceSub, List.cons_append, List.nil_append, List.set_cons_zero, List.set_cons_succ, Option.toList_none, Option.toList_some, nI_1]
      refine xg 1 rfl rfl rfl h1 rfl ?_
      refine xgo 80 rfl ?_
      try simp only [xlo0, List.map_cons, List.map_nil, List.length_cons, List.length_nil, xrs, xr0, Nat.reduceAdd, Nat.reduceSub, List.cons_append, List.nil_append, List.set_cons_zero, List.set_cons_succ, Option.toList_none, Option.toList_some, nI_1]
      refine xi_iald rfl h2 (by rw [i_lt]; omega) (vi_get hg) ?_
      refine xgo 80 rfl ?_
      try simp only [xlo0, List.map_cons, List.map_nil, List.length_cons, List.length_nil, xrs, xr0, Nat.reduceAdd, Nat.reduceSub, List.cons_append, List.nil_append, List.set_cons_zero, List.set_cons_succ, Option.toList_none, Option.toList_some, nI_1]
      refine xi_ret_i rfl rfl rfl ⟨rfl, rfl⟩
set_option maxRecDepth 100000 in
set_option maxHeartbeats 8000000 in
theorem c_BR_clear {G : xG} {d a cap : Nat} {bs : List Int32} {σ : xS} (h : brr G σ.1 a cap bs) : xm G d mX1_clear [rf G a] σ (fun v σ' => v = none ∧ brr G σ'.1 a cap [] ∧ frz σ.1 σ'.1 a 2 ∧ σ'.2 = σ.2) := by
  obtain ⟨xs, h1, h2, h3, h4, h5, h6⟩ := h
  refine xm_at 1 rfl (by decide) (Nat.le_of_ble_eq_true rfl) (by simp [Value.category]) tX1_clear_ok ?_
  try simp only [xlo0, List.map_cons, List.map_nil, List.length_cons, List.length_nil, xrs, xr0, Nat.reduceAdd, Nat.reduceSub, List.cons_append, List.nil_append, List.set_cons_zero, List.set_cons_succ, Option.toList_none, Option.toList_some, nI_1]
  refine xgo 80 rfl ?_
  try simp only [xlo0, List.map_cons, List.map_nil, List.length_cons, List.length_nil, xrs, xr0, Nat.reduceAdd, Nat.reduceSub, List.cons_append, List.nil_append, List.set_cons_zero, List.set_cons_succ, Option.toList_none, Option.toList_some, nI_1]
  refine xp 1 rfl rfl rfl h1 rfl rfl rfl (fun s1 n1 f1 e1 => ?_)
  have h2 := (f1 _ (by omega)).trans h2
  refine xgo 80 rfl ?_
  try simp only [xlo0, List.map_cons, List.map_nil, List.length_cons, List.length_nil, xrs, xr0, Nat.reduceAdd, Nat.reduceSub, List.cons_append, List.nil_append, List.set_cons_zero, List.set_cons_succ, Option.toList_none, Option.toList_some, nI_1]
  refine xi_ret_v rfl rfl ⟨rfl, ⟨xs, n1, h2, h3, by simp, by simp, h6⟩, frz.one f1 (by omega) (by omega), e1⟩
set_option maxRecDepth 100000 in
set_option maxHeartbeats 8000000 in
theorem c_BR_push {G : xG} {d a cap : Nat} {bs : List Int32} {b : Int32} {σ : xS} (h : brr G σ.1 a cap bs) (hb : bs.length < cap) : xm G d mX1_push [rf G a, .int b] σ (fun v σ' => v = none ∧ brr G σ'.1 a cap (bs ++ [b]) ∧ frz σ.1 σ'.1 a 2 ∧ σ'.2 = σ.2) := by
  obtain ⟨xs, h1, h2, h3, h4, h5, h6⟩ := h
  have hcl : (nI bs.length).toNatClampNeg = bs.length := nI_clamp (by omega)
  refine xm_at 2 rfl (by decide) (Nat.le_of_ble_eq_true rfl) (by simp [Value.category]) tX1_push_ok ?_
  try simp only [xlo0, List.map_cons, List.map_nil, List.length_cons, List.length_nil, xrs, xr0, Nat.reduceAdd, Nat.reduceSub, List.cons_append, List.nil_append, List.set_cons_zero, List.set_cons_succ, Option.toList_none, Option.toList_some, nI_1]
  refine xgo 80 rfl ?_
  try simp only [xlo0, List.map_cons, List.map_nil, List.length_cons, List.length_nil, xrs, xr0, Nat.reduceAdd, Nat.reduceSub, List.cons_append, List.nil_append, List.set_cons_zero, List.set_cons_succ, Option.toList_none, Option.toList_some, nI_1]
  refine xg 1 rfl rfl rfl h1 rfl ?_
  refine xgo 80 rfl ?_
  try simp only [xlo0, List.map_cons, List.map_nil, List.length_cons, List.length_nil, xrs, xr0, Nat.reduceAdd, Nat.reduceSub, List.cons_append, List.nil_append, List.set_cons_zero, List.set_cons_succ, Option.toList_none, Option.toList_some, nI_1]
  refine xg 1 rfl rfl rfl h1 rfl ?_
  refine xgo 80 rfl ?_
  try simp only [xlo0, List.map_cons, List.map_nil, List.length_cons, List.length_nil, xrs, xr0, Nat.reduceAdd, Nat.reduceSub, List.cons_append, List.nil_append, List.set_cons_zero, List.set_cons_succ, Option.toList_none, Option.toList_some, nI_1]
  refine xi_alen rfl h2 (by decide) rfl ?_
  refine xgo 80 rfl ?_
  try simp only [xlo0, List.map_cons, List.map_nil, List.length_cons, List.length_nil, xrs, xr0, Nat.reduceAdd, Nat.reduceSub, List.cons_append, List.nil_append, List.set_cons_zero, List.set_cons_succ, Option.toList_none, Option.toList_some, nI_1]
  refine xi_icmpge rfl (fun c => ?_) (fun c => ?_)
  · exfalso
    rw [vi_len, h3] at c
    exact nI_ge hb (by omega) c
  refine xgo 80 rfl ?_
  try simp only [xlo0, List.map_cons, List.map_nil, List.length_cons, List.length_nil, xrs, xr0, Nat.reduceAdd, Nat.reduceSub, List.cons_append, List.nil_append, List.set_cons_zero, List.set_cons_succ, Option.toList_none, Option.toList_some, nI_1]
  refine xg 1 rfl rfl rfl h1 rfl ?_
  refine xgo 80 rfl ?_
  try simp only [xlo0, List.map_cons, List.map_nil, List.length_cons, List.length_nil, xrs, xr0, Nat.reduceAdd, Nat.reduceSub, List.cons_append, List.nil_append, List.set_cons_zero, List.set_cons_succ, Option.toList_none, Option.toList_some, nI_1]
  refine xg 1 rfl rfl rfl h1 rfl ?_
  refine xgo 80 rfl ?_
  try simp only [xlo0, List.map_cons, List.map_nil, List.length_cons, List.length_nil, xrs, xr0, Nat.reduceAdd, Nat.reduceSub, List.cons_append, List.nil_append, List.set_cons_zero, List.set_cons_succ, Option.toList_none, Option.toList_some, nI_1]
  refine xsi rfl h2 (nI_pos (by omega)) (by rw [hcl, vi_len]; omega) (fun s1 n1 f1 e1 => ?_)
  have h1 := (f1 _ (by omega)).trans h1
  refine xgo 80 rfl ?_
  try simp only [xlo0, List.map_cons, List.map_nil, List.length_cons, List.length_nil, xrs, xr0, Nat.reduceAdd, Nat.reduceSub, List.cons_append, List.nil_append, List.set_cons_zero, List.set_cons_succ, Option.toList_none, Option.toList_some, nI_1]
  refine xg 1 rfl rfl rfl h1 rfl ?_
  refine xgo 80 rfl ?_
  try simp only [xlo0, List.map_cons, List.map_nil, List.length_cons, List.length_nil, xrs, xr0, Nat.reduceAdd, Nat.reduceSub, List.cons_append, List.nil_append, List.set_cons_zero, List.set_cons_succ, Option.toList_none, Option.toList_some, nI_1]
  refine xp 1 rfl rfl rfl h1 rfl rfl rfl (fun s2 n2 f2 e2 => ?_)
  have n1 := (f2 _ (by omega)).trans n1
  refine xgo 80 rfl ?_
  try simp only [xlo0, List.map_cons, List.map_nil, List.length_cons, List.length_nil, xrs, xr0, Nat.reduceAdd, Nat.reduceSub, List.cons_append, List.nil_append, List.set_cons_zero, List.set_cons_succ, Option.toList_none, Option.toList_some, nI_1]
  refine xi_ret_v rfl rfl ⟨rfl, ⟨xs.set bs.length b, ?_, ?_, by simp [h3], by simp; omega, take_snoc h5 (by omega), h6⟩, (frz.one f1 (by omega) (by omega)).tr (frz.one f2 (by omega) (by omega)), e2.trans e1⟩
  · rw [n2]
    simp [nI_1]
  · rw [n1, hcl, vi_set]
end
section
theorem nI_inc (j : Nat) : nI j + 1 = nI (j + 1) := nI_1 j
theorem seg_snoc {os : List Int32} {i j : Nat} (h1 : i ≤ j) (h2 : j < os.length) : (os.drop i).take (j + 1 - i) = (os.drop i).take (j - i) ++ [os.getD j (-1)] := by
  rw [show j + 1 - i = (j - i) + 1 by omega, List.take_succ, List.getElem?_drop, show i + (j - i) = j by omega, List.getD_eq_getElem?_getD, List.getElem?_eq_getElem h2]
  rfl
set_option maxRecDepth 100000 in
set_option maxHeartbeats 8000000 in
theorem l_BR_pushRange {G : xG} {d a o cap ocap i e : Nat} {bs os : List Int32} {σ : xS} (hd : a + 2 ≤ o ∨ o + 2 ≤ a) (he : e ≤ os.length) (hol : os.length < 100000) (hc : bs.length + (e - i) ≤ cap) : ∀ (n j : Nat) (bs' : List Int32) (s : xS), j + n = e → i ≤ j → bs' = bs ++ (os.drop i).take (j - i) → brr G s.1 a cap bs' → brr G s.1 o ocap os → frz σ.1 s.1 a 2 → s.2 = σ.2 →
    xw G (d + 1) mX1_pushRange 3 [some (rf G a), some (rf G o), some (.int (nI i)), some (.int (nI e)), some (.int (nI j))] [] s (fun v σ' => v = none ∧ brr G σ'.1 a cap (bs ++ (os.drop i).take (e - i)) ∧ frz σ.1 σ'.1 a 2 ∧ σ'.2 = σ.2) := by
  intro n
  induction n with
  | zero =>
    intro j bs' s hj hij hb h1 h2 hf h3
    have : j = e := by omega
    subst this
    refine xgo 80 rfl ?_
    try simp only [xlo0, List.map_cons, List.map_nil, List.length_cons, List.length_nil, xrs, xr0, Nat.reduceAdd, Nat.reduceSub, List.cons_append, List.nil_append, List.set_cons_zero, List.set_cons_succ, Option.toList_none, Option.toList_some, nI_1]
    refine xi_icmpge rfl (fun c => ?_) (fun c => ?_)
    · refine xgo 80 rfl ?_
      try simp only [xlo0, List.map_cons, List.map_nil, List.length_cons, List.length_nil, xrs, xr0, Nat.reduceAdd, Nat.reduceSub, List.cons_append, List.nil_append, List.set_cons_zero, List.set_cons_succ, Option.toList_none, Option.toList_some, nI_1]
      refine xi_ret_v rfl rfl ⟨rfl, by rw [← hb]; exact h1, hf, h3⟩
    · exact absurd (i_le.mpr (Int.le_refl _)) c
  | succ n ih =>
    intro j bs' s hj hij hb h1 h2 hf h3
    refine xgo 80 rfl ?_
    try simp only [xlo0, List.map_cons, List.map_nil, List.length_cons, List.length_nil, xrs, xr0, Nat.reduceAdd, Nat.reduceSub, List.cons_append, List.nil_append, List.set_cons_zero, List.set_cons_succ, Option.toList_none, Option.toList_some, nI_1]
    refine xi_icmpge rfl (fun c => ?_) (fun c => ?_)
    · exfalso
      rw [i_le, i_n (by omega), i_n (by omega)] at c
      omega
    · have hjl : j < os.length := by omega
      have hbl : bs'.length = bs.length + (j - i) := by rw [hb]; simp; omega
      refine xgo 80 rfl ?_
      try simp only [xlo0, List.map_cons, List.map_nil, List.length_cons, List.length_nil, xrs, xr0, Nat.reduceAdd, Nat.reduceSub, List.cons_append, List.nil_append, List.set_cons_zero, List.set_cons_succ, Option.toList_none, Option.toList_some, nI_1]
      refine xcV 1 rfl rfl rfl (c_BR_at h2) rfl kX1_at iX1_at h2.obj ⟨_, rfl, rfl⟩ rfl rfl (Nat.le_of_ble_eq_true rfl) (fun v1 s1 q1 => ?_)
      obtain ⟨rfl, rfl⟩ := q1
      rw [bat_n (by omega)]
      refine xgo 80 rfl ?_
      try simp only [xlo0, List.map_cons, List.map_nil, List.length_cons, List.length_nil, xrs, xr0, Nat.reduceAdd, Nat.reduceSub, List.cons_append, List.nil_append, List.set_cons_zero, List.set_cons_succ, Option.toList_none, Option.toList_some, nI_1]
      refine xcV 1 rfl rfl rfl (c_BR_push h1 (by omega)) rfl kX1_push iX1_push h1.obj ⟨_, rfl, rfl⟩ rfl rfl (Nat.le_of_ble_eq_true rfl) (fun v2 s2 q2 => ?_)
      obtain ⟨rfl, p1, p2, p3⟩ := q2
      refine xto 3 80 rfl ?_
      try simp only [xlo0, List.map_cons, List.map_nil, List.length_cons, List.length_nil, xrs, xr0, Nat.reduceAdd, Nat.reduceSub, List.cons_append, List.nil_append, List.set_cons_zero, List.set_cons_succ, Option.toList_none, Option.toList_some, nI_1]
      refine ih (j + 1) _ _ (by omega) (by omega) ?_ p1 (h2.keep p2 (by omega)) (hf.tr p2) (p3.trans h3)
      rw [hb, seg_snoc hij hjl, List.append_assoc]
set_option maxRecDepth 100000 in
set_option maxHeartbeats 8000000 in
theorem c_BR_pushRange {G : xG} {d a o cap ocap i e : Nat} {bs os : List Int32} {σ : xS} (h1 : brr G σ.1 a cap bs) (h2 : brr G σ.1 o ocap os) (hd : a + 2 ≤ o ∨ o + 2 ≤ a) (hi : i ≤ e) (he : e ≤ os.length) (hc : bs.length + (e - i) ≤ cap) : xm G (d + 1) mX1_pushRange [rf G a, rf G o, .int (nI i), .int (nI e)] σ (fun v σ' => v = none ∧ brr G σ'.1 a cap (bs ++ (os.drop i).take (e - i)) ∧ frz σ.1 σ'.1 a 2 ∧ σ'.2 = σ.2) := by
  refine xm_at 5 rfl (by decide) (Nat.le_of_ble_eq_true rfl) (by simp [Value.category]) tX1_pushRange_ok ?_
  try simp only [xlo0, List.map_cons, List.map_nil, List.length_cons, List.length_nil, xrs, xr0, Nat.reduceAdd, Nat.reduceSub, List.cons_append, List.nil_append, List.set_cons_zero, List.set_cons_succ, Option.toList_none, Option.toList_some, nI_1]
  refine xto 3 80 rfl ?_
  try simp only [xlo0, List.map_cons, List.map_nil, List.length_cons, List.length_nil, xrs, xr0, Nat.reduceAdd, Nat.reduceSub, List.cons_append, List.nil_append, List.set_cons_zero, List.set_cons_succ, Option.toList_none, Option.toList_some, nI_1]
  exact l_BR_pushRange hd he (Nat.lt_of_le_of_lt h2.len.1 h2.len.2) hc (e - i) i bs σ (by omega) (Nat.le_refl _) (by simp) h1 h2 frz.rf rfl
set_option maxRecDepth 100000 in
set_option maxHeartbeats 8000000 in
theorem c_BR_pushNumber {G : xG} {d a cap : Nat} {bs : List Int32} {n : Int32} {σ : xS} (h1 : brr G σ.1 a cap bs) (hc : bs.length + 4 ≤ cap) : xm G (d + 1) mX1_pushNumber [rf G a, .int n] σ (fun v σ' => v = none ∧ brr G σ'.1 a cap (bs ++ four n) ∧ frz σ.1 σ'.1 a 2 ∧ σ'.2 = σ.2) := by
  refine xm_at 3 rfl (by decide) (Nat.le_of_ble_eq_true rfl) (by simp [Value.category]) tX1_pushNumber_ok ?_
  try simp only [xlo0, List.map_cons, List.map_nil, List.length_cons, List.length_nil, xrs, xr0, Nat.reduceAdd, Nat.reduceSub, List.cons_append, List.nil_append, List.set_cons_zero, List.set_cons_succ, Option.toList_none, Option.toList_some, nI_1]
  refine xgo 80 rfl ?_
  try simp only [xlo0, List.map_cons, List.map_nil, List.length_cons, List.length_nil, xrs, xr0, Nat.reduceAdd, Nat.reduceSub, List.cons_append, List.nil_append, List.set_cons_zero, List.set_cons_succ, Option.toList_none, Option.toList_some, nI_1]
  refine xi_iflt rfl (fun c => ?_) (fun c => ?_)
  · exact absurd c (by decide)
  refine xgo 80 rfl ?_
  try simp only [xlo0, List.map_cons, List.map_nil, List.length_cons, List.length_nil, xrs, xr0, Nat.reduceAdd, Nat.reduceSub, List.cons_append, List.nil_append, List.set_cons_zero, List.set_cons_succ, Option.toList_none, Option.toList_some, nI_1]
  refine xcV 1 rfl rfl rfl (c_BR_push h1 (by omega)) rfl kX1_push iX1_push h1.obj ⟨_, rfl, rfl⟩ rfl rfl (Nat.le_of_ble_eq_true rfl) (fun v1 s1 q1 => ?_)
  obtain ⟨rfl, p1, p2, p3⟩ := q1
  refine xgo 80 rfl ?_
  try simp only [xlo0, List.map_cons, List.map_nil, List.length_cons, List.length_nil, xrs, xr0, Nat.reduceAdd, Nat.reduceSub, List.cons_append, List.nil_append, List.set_cons_zero, List.set_cons_succ, Option.toList_none, Option.toList_some, nI_1]
  refine xi_iflt rfl (fun c => ?_) (fun c => ?_)
  · exact absurd c (by decide)
  refine xgo 80 rfl ?_
  try simp only [xlo0, List.map_cons, List.map_nil, List.length_cons, List.length_nil, xrs, xr0, Nat.reduceAdd, Nat.reduceSub, List.cons_append, List.nil_append, List.set_cons_zero, List.set_cons_succ, Option.toList_none, Option.toList_some, nI_1]
  refine xcV 1 rfl rfl rfl (c_BR_push p1 (by simp; omega)) rfl kX1_push iX1_push p1.obj ⟨_, rfl, rfl⟩ rfl rfl (Nat.le_of_ble_eq_true rfl) (fun v2 s2 q2 => ?_)
  obtain ⟨rfl, r1, r2, r3⟩ := q2
  refine xgo 80 rfl ?_
  try simp only [xlo0, List.map_cons, List.map_nil, List.length_cons, List.length_nil, xrs, xr0, Nat.reduceAdd, Nat.reduceSub, List.cons_append, List.nil_append, List.set_cons_zero, List.set_cons_succ, Option.toList_none, Option.toList_some, nI_1]
  refine xi_iflt rfl (fun c => ?_) (fun c => ?_)
  · exact absurd c (by decide)
  refine xgo 80 rfl ?_
  try simp only [xlo0, List.map_cons, List.map_nil, List.length_cons, List.length_nil, xrs, xr0, Nat.reduceAdd, Nat.reduceSub, List.cons_append, List.nil_append, List.set_cons_zero, List.set_cons_succ, Option.toList_none, Option.toList_some, nI_1]
  refine xcV 1 rfl rfl rfl (c_BR_push r1 (by simp; omega)) rfl kX1_push iX1_push r1.obj ⟨_, rfl, rfl⟩ rfl rfl (Nat.le_of_ble_eq_true rfl) (fun v3 s3 q3 => ?_)
  obtain ⟨rfl, t1, t2, t3⟩ := q3
  refine xgo 80 rfl ?_
  try simp only [xlo0, List.map_cons, List.map_nil, List.length_cons, List.length_nil, xrs, xr0, Nat.reduceAdd, Nat.reduceSub, List.cons_append, List.nil_append, List.set_cons_zero, List.set_cons_succ, Option.toList_none, Option.toList_some, nI_1]
  refine xi_iflt rfl (fun c => ?_) (fun c => ?_)
  · exact absurd c (by decide)
  refine xgo 80 rfl ?_
  try simp only [xlo0, List.map_cons, List.map_nil, List.length_cons, List.length_nil, xrs, xr0, Nat.reduceAdd, Nat.reduceSub, List.cons_append, List.nil_append, List.set_cons_zero, List.set_cons_succ, Option.toList_none, Option.toList_some, nI_1]
  refine xcV 1 rfl rfl rfl (c_BR_push t1 (by simp; omega)) rfl kX1_push iX1_push t1.obj ⟨_, rfl, rfl⟩ rfl rfl (Nat.le_of_ble_eq_true rfl) (fun v4 s4 q4 => ?_)
  obtain ⟨rfl, u1, u2, u3⟩ := q4
  refine xgo 80 rfl ?_
  try simp only [xlo0, List.map_cons, List.map_nil, List.length_cons, List.length_nil, xrs, xr0, Nat.reduceAdd, Nat.reduceSub, List.cons_append, List.nil_append, List.set_cons_zero, List.set_cons_succ, Option.toList_none, Option.toList_some, nI_1]
  refine xi_iflt rfl (fun c => ?_) (fun c => ?_)
  · refine xgo 80 rfl ?_
    try simp only [xlo0, List.map_cons, List.map_nil, List.length_cons, List.length_nil, xrs, xr0, Nat.reduceAdd, Nat.reduceSub, List.cons_append, List.nil_append, List.set_cons_zero, List.set_cons_succ, Option.toList_none, Option.toList_some, nI_1]
    refine xi_ret_v rfl rfl ⟨rfl, ?_, ((p2.tr r2).tr t2).tr u2, u3.trans (t3.trans (r3.trans p3))⟩
    simp only [List.append_assoc, List.cons_append, List.nil_append] at u1
    exact u1
  · exact absurd (by decide) c
/-- the number that four bytes at i make -/
def num4 (bs : List Int32) (i : Int32) : Int32 := ((((((((0 : Int32) <<< ((8 : Int32) &&& 31)) ||| (bat bs (i + 0) &&& 255)) <<< ((8 : Int32) &&& 31)) ||| (bat bs (i + 0 + 1) &&& 255)) <<< ((8 : Int32) &&& 31)) ||| (bat bs (i + 0 + 1 + 1) &&& 255)) <<< ((8 : Int32) &&& 31)) ||| (bat bs (i + 0 + 1 + 1 + 1) &&& 255)
set_option maxRecDepth 100000 in
set_option maxHeartbeats 8000000 in
theorem c_BR_number {G : xG} {d a cap : Nat} {bs : List Int32} {i : Int32} {σ : xS} (h1 : brr G σ.1 a cap bs) : xm G (d + 1) mX1_number [rf G a, .int i] σ (fun v σ' => v = some (.int (num4 bs i)) ∧ σ' = σ) := by
  refine xm_at 4 rfl (by decide) (Nat.le_of_ble_eq_true rfl) (by simp [Value.category]) tX1_number_ok ?_
  try simp only [xlo0, List.map_cons, List.map_nil, List.length_cons, List.length_nil, xrs, xr0, Nat.reduceAdd, Nat.reduceSub, List.cons_append, List.nil_append, List.set_cons_zero, List.set_cons_succ, Option.toList_none, Option.toList_some, nI_1]
  refine xgo 80 rfl ?_
  try simp only [xlo0, List.map_cons, List.map_nil, List.length_cons, List.length_nil, xrs, xr0, Nat.reduceAdd, Nat.reduceSub, List.cons_append, List.nil_append, List.set_cons_zero, List.set_cons_succ, Option.toList_none, Option.toList_some, nI_1]
  refine xi_icmpge rfl (fun c => ?_) (fun c => ?_)
  · exact absurd c (by decide)
  refine xgo 80 rfl ?_
  try simp only [xlo0, List.map_cons, List.map_nil, List.length_cons, List.length_nil, xrs, xr0, Nat.reduceAdd, Nat.reduceSub, List.cons_append, List.nil_append, List.set_cons_zero, List.set_cons_succ, Option.toList_none, Option.toList_some, nI_1]
  refine xcV 1 rfl rfl rfl (c_BR_at h1) rfl kX1_at iX1_at h1.obj ⟨_, rfl, rfl⟩ rfl rfl (Nat.le_of_ble_eq_true rfl) (fun v1 s1 q1 => ?_)
  obtain ⟨rfl, rfl⟩ := q1
  refine xgo 80 rfl ?_
  try simp only [xlo0, List.map_cons, List.map_nil, List.length_cons, List.length_nil, xrs, xr0, Nat.reduceAdd, Nat.reduceSub, List.cons_append, List.nil_append, List.set_cons_zero, List.set_cons_succ, Option.toList_none, Option.toList_some, nI_1]
  refine xi_icmpge rfl (fun c => ?_) (fun c => ?_)
  · exact absurd c (by decide)
  refine xgo 80 rfl ?_
  try simp only [xlo0, List.map_cons, List.map_nil, List.length_cons, List.length_nil, xrs, xr0, Nat.reduceAdd, Nat.reduceSub, List.cons_append, List.nil_append, List.set_cons_zero, List.set_cons_succ, Option.toList_none, Option.toList_some, nI_1]
  refine xcV 1 rfl rfl rfl (c_BR_at h1) rfl kX1_at iX1_at h1.obj ⟨_, rfl, rfl⟩ rfl rfl (Nat.le_of_ble_eq_true rfl) (fun v2 s2 q2 => ?_)
  obtain ⟨rfl, rfl⟩ := q2
  refine xgo 80 rfl ?_
  try simp only [xlo0, List.map_cons, List.map_nil, List.length_cons, List.length_nil, xrs, xr0, Nat.reduceAdd, Nat.reduceSub, List.cons_append, List.nil_append, List.set_cons_zero, List.set_cons_succ, Option.toList_none, Option.toList_some, nI_1]
  refine xi_icmpge rfl (fun c => ?_) (fun c => ?_)
  · exact absurd c (by decide)
  refine xgo 80 rfl ?_
  try simp only [xlo0, List.map_cons, List.map_nil, List.length_cons, List.length_nil, xrs, xr0, Nat.reduceAdd, Nat.reduceSub, List.cons_append, List.nil_append, List.set_cons_zero, List.set_cons_succ, Option.toList_none, Option.toList_some, nI_1]
  refine xcV 1 rfl rfl rfl (c_BR_at h1) rfl kX1_at iX1_at h1.obj ⟨_, rfl, rfl⟩ rfl rfl (Nat.le_of_ble_eq_true rfl) (fun v3 s3 q3 => ?_)
  obtain ⟨rfl, rfl⟩ := q3
  refine xgo 80 rfl ?_
  try simp only [xlo0, List.map_cons, List.map_nil, List.length_cons, List.length_nil, xrs, xr0, Nat.reduceAdd, Nat.reduceSub, List.cons_append, List.nil_append, List.set_cons_zero, List.set_cons_succ, Option.toList_none, Option.toList_some, nI_1]
  refine xi_icmpge rfl (fun c => ?_) (fun c => ?_)
  · exact absurd c (by decide)
  refine xgo 80 rfl ?_
  try simp only [xlo0, List.map_cons, List.map_nil, List.length_cons, List.length_nil, xrs, xr0, Nat.reduceAdd, Nat.reduceSub, List.cons_append, List.nil_append, List.set_cons_zero, List.set_cons_succ, Option.toList_none, Option.toList_some, nI_1]
  refine xcV 1 rfl rfl rfl (c_BR_at h1) rfl kX1_at iX1_at h1.obj ⟨_, rfl, rfl⟩ rfl rfl (Nat.le_of_ble_eq_true rfl) (fun v4 s4 q4 => ?_)
  obtain ⟨rfl, rfl⟩ := q4
  refine xgo 80 rfl ?_
  try simp only [xlo0, List.map_cons, List.map_nil, List.length_cons, List.length_nil, xrs, xr0, Nat.reduceAdd, Nat.reduceSub, List.cons_append, List.nil_append, List.set_cons_zero, List.set_cons_succ, Option.toList_none, Option.toList_some, nI_1]
  refine xi_icmpge rfl (fun c => ?_) (fun c => ?_)
  · refine xgo 80 rfl ?_
    try simp only [xlo0, List.map_cons, List.map_nil, List.length_cons, List.length_nil, xrs, xr0, Nat.reduceAdd, Nat.reduceSub, List.cons_append, List.nil_append, List.set_cons_zero, List.set_cons_succ, Option.toList_none, Option.toList_some, nI_1]
    refine xi_ret_i rfl rfl rfl ⟨?_, rfl⟩
    simp only [num4, Int32.add_assoc]
  · exact absurd (by decide) c
theorem ssum_snoc (s : Int32) (bs : List Int32) (b : Int32) : ssum s (bs ++ [b]) = sgo (ssum s bs) b := by simp [ssum]
set_option maxRecDepth 100000 in
set_option maxHeartbeats 8000000 in
theorem l_BR_sum {G : xG} {d a cap e : Nat} {bs : List Int32} {s0 : Int32} {σ : xS} (h1 : brr G σ.1 a cap bs) (he : e ≤ bs.length) : ∀ (n j : Nat), j + n = e →
    xw G (d + 1) mX1_sum 5 [some (rf G a), some (.int s0), some (.int (nI e)), some (.int (ssum s0 (bs.take j))), some (.int (nI j))] [] σ (fun v σ' => v = some (.int (ssum s0 (bs.take e))) ∧ σ' = σ) := by
  have hl := h1.len
  intro n
  induction n with
  | zero =>
    intro j hj
    have : j = e := by omega
    subst this
    refine xgo 80 rfl ?_
    try simp only [xlo0, List.map_cons, List.map_nil, List.length_cons, List.length_nil, xrs, xr0, Nat.reduceAdd, Nat.reduceSub, List.cons_append, List.nil_append, List.set_cons_zero, List.set_cons_succ, Option.toList_none, Option.toList_some, nI_1]
    refine xi_icmpge rfl (fun c => ?_) (fun c => ?_)
    · refine xgo 80 rfl ?_
      try simp only [xlo0, List.map_cons, List.map_nil, List.length_cons, List.length_nil, xrs, xr0, Nat.reduceAdd, Nat.reduceSub, List.cons_append, List.nil_append, List.set_cons_zero, List.set_cons_succ, Option.toList_none, Option.toList_some, nI_1]
      refine xi_ret_i rfl rfl rfl ⟨rfl, rfl⟩
    · exact absurd (i_le.mpr (Int.le_refl _)) c
  | succ n ih =>
    intro j hj
    refine xgo 80 rfl ?_
    try simp only [xlo0, List.map_cons, List.map_nil, List.length_cons, List.length_nil, xrs, xr0, Nat.reduceAdd, Nat.reduceSub, List.cons_append, List.nil_append, List.set_cons_zero, List.set_cons_succ, Option.toList_none, Option.toList_some, nI_1]
    refine xi_icmpge rfl (fun c => ?_) (fun c => ?_)
    · exfalso
      rw [i_le, i_n (by omega), i_n (by omega)] at c
      omega
    · refine xgo 80 rfl ?_
      try simp only [xlo0, List.map_cons, List.map_nil, List.length_cons, List.length_nil, xrs, xr0, Nat.reduceAdd, Nat.reduceSub, List.cons_append, List.nil_append, List.set_cons_zero, List.set_cons_succ, Option.toList_none, Option.toList_some, nI_1]
      refine xcV 1 rfl rfl rfl (c_BR_at h1) rfl kX1_at iX1_at h1.obj ⟨_, rfl, rfl⟩ rfl rfl (Nat.le_of_ble_eq_true rfl) (fun v1 s1 q1 => ?_)
      obtain ⟨rfl, rfl⟩ := q1
      rw [bat_n (by omega)]
      refine xgo 80 rfl ?_
      try simp only [xlo0, List.map_cons, List.map_nil, List.length_cons, List.length_nil, xrs, xr0, Nat.reduceAdd, Nat.reduceSub, List.cons_append, List.nil_append, List.set_cons_zero, List.set_cons_succ, Option.toList_none, Option.toList_some, nI_1]
      refine xgo 80 rfl ?_
      try simp only [xlo0, List.map_cons, List.map_nil, List.length_cons, List.length_nil, xrs, xr0, Nat.reduceAdd, Nat.reduceSub, List.cons_append, List.nil_append, List.set_cons_zero, List.set_cons_succ, Option.toList_none, Option.toList_some, nI_1]
      refine xi_ldc rfl qX1_33 ?_
      refine xto 5 80 rfl ?_
      try simp only [xlo0, List.map_cons, List.map_nil, List.length_cons, List.length_nil, xrs, xr0, Nat.reduceAdd, Nat.reduceSub, List.cons_append, List.nil_append, List.set_cons_zero, List.set_cons_succ, Option.toList_none, Option.toList_some, nI_1]
      have e1 : bs.take (j + 1) = bs.take j ++ [bs.getD j (-1)] := by
        have := seg_snoc (os := bs) (i := 0) (j := j) (Nat.zero_le _) (by omega)
        simpa using this
      have := ih (j + 1) (by omega)
      rw [e1, ssum_snoc] at this
      exact this
set_option maxRecDepth 100000 in
set_option maxHeartbeats 8000000 in
theorem c_BR_sum {G : xG} {d a cap e : Nat} {bs : List Int32} {s0 : Int32} {σ : xS} (h1 : brr G σ.1 a cap bs) (he : e ≤ bs.length) : xm G (d + 1) mX1_sum [rf G a, .int s0, .int (nI e)] σ (fun v σ' => v = some (.int (ssum s0 (bs.take e))) ∧ σ' = σ) := by
  refine xm_at 5 rfl (by decide) (Nat.le_of_ble_eq_true rfl) (by simp [Value.category]) tX1_sum_ok ?_
  try simp only [xlo0, List.map_cons, List.map_nil, List.length_cons, List.length_nil, xrs, xr0, Nat.reduceAdd, Nat.reduceSub, List.cons_append, List.nil_append, List.set_cons_zero, List.set_cons_succ, Option.toList_none, Option.toList_some, nI_1]
  refine xto 5 80 rfl ?_
  try simp only [xlo0, List.map_cons, List.map_nil, List.length_cons, List.length_nil, xrs, xr0, Nat.reduceAdd, Nat.reduceSub, List.cons_append, List.nil_append, List.set_cons_zero, List.set_cons_succ, Option.toList_none, Option.toList_some, nI_1]
  exact l_BR_sum h1 he e 0 (by omega)
set_option maxRecDepth 100000 in
set_option maxHeartbeats 8000000 in
theorem c_BR_xor {G : xG} {d a cap : Nat} {bs : List Int32} {i m : Int32} {σ : xS} (h : brr G σ.1 a cap bs) (hi : bin bs.length i = true) : xm G (d + 1) mX1_xor [rf G a, .int i, .int m] σ (fun v σ' => v = none ∧ brr G σ'.1 a cap (bs.set i.toInt.toNat (bat bs i ^^^ m)) ∧ frz σ.1 σ'.1 a 2 ∧ σ'.2 = σ.2) := by
  have h' := h
  obtain ⟨xs, h1, h2, h3, h4, h5, h6⟩ := h
  have hi' : 0 ≤ i.toInt ∧ i.toInt < bs.length := by simpa [bin] using hi
  have z : (0 : Int32).toInt = 0 := rfl
  have hlt : i.toInt.toNat < bs.length := by omega
  have hg : xs[i.toNatClampNeg]? = some (bat bs i) := by
    rw [i_cl, take_get h5 hlt, bat, if_neg (by omega), List.getD_eq_getElem?_getD, List.getElem?_eq_getElem hlt]
    rfl
  refine xm_at 3 rfl (by decide) (Nat.le_of_ble_eq_true rfl) (by simp [Value.category]) tX1_xor_ok ?_
  try simp only [xlo0, List.map_cons, List.map_nil, List.length_cons, List.length_nil, xrs, xr0, Nat.reduceAdd, Nat.reduceSub, List.cons_append, List.nil_append, List.set_cons_zero, List.set_cons_succ, Option.toList_none, Option.toList_some, nI_1]
  refine xgo 80 rfl ?_
  try simp only [xlo0, List.map_cons, List.map_nil, List.length_cons, List.length_nil, xrs, xr0, Nat.reduceAdd, Nat.reduceSub, List.cons_append, List.nil_append, List.set_cons_zero, List.set_cons_succ, Option.toList_none, Option.toList_some, nI_1]
  refine xcV 1 rfl rfl rfl (c_BR_has h') rfl kX1_has iX1_has h1 ⟨_, rfl, rfl⟩ rfl rfl (Nat.le_of_ble_eq_true rfl) (fun v1 s1 q1 => ?_)
  obtain ⟨rfl, rfl⟩ := q1
  rw [if_pos hi]
  refine xgo 80 rfl ?_
  try simp only [xlo0, List.map_cons, List.map_nil, List.length_cons, List.length_nil, xrs, xr0, Nat.reduceAdd, Nat.reduceSub, List.cons_append, List.nil_append, List.set_cons_zero, List.set_cons_succ, Option.toList_none, Option.toList_some, nI_1]
  refine xi_ifeq rfl (fun c => ?_) (fun c => ?_)
  · exact absurd c (by decide)
  refine xgo 80 rfl ?_
  try simp only [xlo0, List.map_cons, List.map_nil, List.length_cons, List.length_nil, xrs, xr0, Nat.reduceAdd, Nat.reduceSub, List.cons_append, List.nil_append, List.set_cons_zero, List.set_cons_succ, Option.toList_none, Option.toList_some, nI_1]
  refine xg 1 rfl rfl rfl h1 rfl ?_
  refine xgo 80 rfl ?_
  try simp only [xlo0, List.map_cons, List.map_nil, List.length_cons, List.length_nil, xrs, xr0, Nat.reduceAdd, Nat.reduceSub, List.cons_append, List.nil_append, List.set_cons_zero, List.set_cons_succ, Option.toList_none, Option.toList_some, nI_1]
  refine xi_iald rfl h2 (by rw [i_lt]; omega) (vi_get hg) ?_
  refine xgo 80 rfl ?_
  try simp only [xlo0, List.map_cons, List.map_nil, List.length_cons, List.length_nil, xrs, xr0, Nat.reduceAdd, Nat.reduceSub, List.cons_append, List.nil_append, List.set_cons_zero, List.set_cons_succ, Option.toList_none, Option.toList_some, nI_1]
  refine xsi rfl h2 (by rw [i_lt]; omega) (by rw [vi_len, i_cl]; omega) (fun s2 n2 f2 e2 => ?_)
  have h1 := (f2 _ (by omega)).trans h1
  refine xgo 80 rfl ?_
  try simp only [xlo0, List.map_cons, List.map_nil, List.length_cons, List.length_nil, xrs, xr0, Nat.reduceAdd, Nat.reduceSub, List.cons_append, List.nil_append, List.set_cons_zero, List.set_cons_succ, Option.toList_none, Option.toList_some, nI_1]
  refine xi_ret_v rfl rfl ⟨rfl, ⟨xs.set i.toInt.toNat (bat bs i ^^^ m), by rw [List.length_set]; exact h1, by rw [n2, vi_set, i_cl], by rw [List.length_set]; exact h3, by rw [List.length_set]; exact h4, ?_, h6⟩, frz.one f2 (by omega) (by omega), e2⟩
  rw [List.length_set, List.take_set, h5]
set_option maxRecDepth 100000 in
set_option maxHeartbeats 8000000 in
theorem c_BR_keepFirst {G : xG} {d a cap n : Nat} {bs : List Int32} {σ : xS} (h : brr G σ.1 a cap bs) (hn : n ≤ bs.length) : xm G d mX1_keepFirst [rf G a, .int (nI n)] σ (fun v σ' => v = none ∧ brr G σ'.1 a cap (bs.take n) ∧ frz σ.1 σ'.1 a 2 ∧ σ'.2 = σ.2) := by
  have h' := h
  obtain ⟨xs, h1, h2, h3, h4, h5, h6⟩ := h
  have e1 : (nI n).toInt = n := i_n (by omega)
  have e2 : (nI bs.length).toInt = bs.length := i_n (by omega)
  have z : (0 : Int32).toInt = 0 := rfl
  refine xm_at 2 rfl (by decide) (Nat.le_of_ble_eq_true rfl) (by simp [Value.category]) tX1_keepFirst_ok ?_
  try simp only [xlo0, List.map_cons, List.map_nil, List.length_cons, List.length_nil, xrs, xr0, Nat.reduceAdd, Nat.reduceSub, List.cons_append, List.nil_append, List.set_cons_zero, List.set_cons_succ, Option.toList_none, Option.toList_some, nI_1]
  refine xgo 80 rfl ?_
  try simp only [xlo0, List.map_cons, List.map_nil, List.length_cons, List.length_nil, xrs, xr0, Nat.reduceAdd, Nat.reduceSub, List.cons_append, List.nil_append, List.set_cons_zero, List.set_cons_succ, Option.toList_none, Option.toList_some, nI_1]
  refine xi_iflt rfl (fun c => ?_) (fun c => ?_)
  · exact absurd c (by rw [i_lt]; omega)
  refine xgo 80 rfl ?_
  try simp only [xlo0, List.map_cons, List.map_nil, List.length_cons, List.length_nil, xrs, xr0, Nat.reduceAdd, Nat.reduceSub, List.cons_append, List.nil_append, List.set_cons_zero, List.set_cons_succ, Option.toList_none, Option.toList_some, nI_1]
  refine xg 1 rfl rfl rfl h1 rfl ?_
  refine xgo 80 rfl ?_
  try simp only [xlo0, List.map_cons, List.map_nil, List.length_cons, List.length_nil, xrs, xr0, Nat.reduceAdd, Nat.reduceSub, List.cons_append, List.nil_append, List.set_cons_zero, List.set_cons_succ, Option.toList_none, Option.toList_some, nI_1]
  refine xi_icmpge rfl (fun c1 => ?_) (fun c1 => ?_)
  · rw [i_le] at c1
    have : n = bs.length := by omega
    subst this
    refine xgo 80 rfl ?_
    try simp only [xlo0, List.map_cons, List.map_nil, List.length_cons, List.length_nil, xrs, xr0, Nat.reduceAdd, Nat.reduceSub, List.cons_append, List.nil_append, List.set_cons_zero, List.set_cons_succ, Option.toList_none, Option.toList_some, nI_1]
    refine xi_ret_v rfl rfl ⟨rfl, by rw [List.take_length]; exact h', frz.rf, rfl⟩
  · refine xgo 80 rfl ?_
    try simp only [xlo0, List.map_cons, List.map_nil, List.length_cons, List.length_nil, xrs, xr0, Nat.reduceAdd, Nat.reduceSub, List.cons_append, List.nil_append, List.set_cons_zero, List.set_cons_succ, Option.toList_none, Option.toList_some, nI_1]
    refine xp 1 rfl rfl rfl h1 rfl rfl rfl (fun s1 n1 f1 e1 => ?_)
    have h2 := (f1 _ (by omega)).trans h2
    refine xgo 80 rfl ?_
    try simp only [xlo0, List.map_cons, List.map_nil, List.length_cons, List.length_nil, xrs, xr0, Nat.reduceAdd, Nat.reduceSub, List.cons_append, List.nil_append, List.set_cons_zero, List.set_cons_succ, Option.toList_none, Option.toList_some, nI_1]
    refine xi_ret_v rfl rfl ⟨rfl, ⟨xs, by rw [n1, List.length_take, Nat.min_eq_left hn]; rfl, h2, h3, by simp; omega, ?_, h6⟩, frz.one f1 (by omega) (by omega), e1⟩
    rw [List.length_take, Nat.min_eq_left hn, ← h5, List.take_take, Nat.min_eq_left hn]
end
section
/-! ===== Content ===== -/
abbrev cV : Type := (Int32 × Int32 × Int32 × Int32) × List (Int32 × Int32 × Int32) × List Int32 × List (Int32 × Int32 × List Int32)
abbrev cobj (G : xG) (c : Nat) (K : cV) : xC := (2, [.int K.1.1, .int K.1.2.1, .int K.1.2.2.1, .int K.1.2.2.2, rf G (c + 1), rf G (c + 2), rf G (c + 3), .int (nI K.2.1.length), rf G (c + 4), .int (nI K.2.2.1.length), rf G (c + 5), rf G (c + 6), rf G (c + 7), rf G (c + 8), .int (nI K.2.2.2.length)])
abbrev cpgs (G : xG) (c : Nat) : List Value := (List.range 8).map (fun r => rf G (c + 9 + r))
def cneeds (nd : List (Int32 × Int32 × Int32)) (nn ne nx : List Int32) : Prop := nd.length ≤ 4 ∧ nn.length = 4 ∧ ne.length = 4 ∧ nx.length = 4 ∧ ∀ (i : Nat) (e : Int32 × Int32 × Int32), nd[i]? = some e → nn[i]? = some e.1 ∧ ne[i]? = some e.2.1 ∧ nx[i]? = some e.2.2
def cseals (sl sa : List Int32) : Prop := sl.length ≤ 4 ∧ sa.length = 4 ∧ ∀ (i : Nat) (e : Int32), sl[i]? = some e → sa[i]? = some e
def crows (rw : List (Int32 × Int32 × List Int32)) (ks ps ln : List Int32) (pg : Nat → List Int32) : Prop := rw.length ≤ 8 ∧ ks.length = 8 ∧ ps.length = 8 ∧ ln.length = 8 ∧ (∀ r, (pg r).length = 120) ∧ ∀ (r : Nat) (e : Int32 × Int32 × List Int32), rw[r]? = some e → ks[r]? = some e.1 ∧ ps[r]? = some e.2.1 ∧ ln[r]? = some (nI e.2.2.length) ∧ e.2.2.length ≤ 120 ∧ (pg r).take e.2.2.length = e.2.2
/-- a Content at c: what it says -/
def cont (G : xG) (h : Nat → Option xC) (c : Nat) (K : cV) : Prop := ∃ (nn ne nx sa ks ps ln : List Int32) (pg : Nat → List Int32), h c = some (cobj G c K) ∧ h (c + 1) = some (11, vi nn) ∧ h (c + 2) = some (11, vi ne) ∧ h (c + 3) = some (12, vi nx) ∧ h (c + 4) = some (11, vi sa) ∧ h (c + 5) = some (11, vi ks) ∧ h (c + 6) = some (11, vi ps) ∧ h (c + 7) = some (11, vi ln) ∧ h (c + 8) = some (16, cpgs G c) ∧ (∀ r, r < 8 → h (c + 9 + r) = some (11, vi (pg r))) ∧ cneeds K.2.1 nn ne nx ∧ cseals K.2.2.1 sa ∧ crows K.2.2.2 ks ps ln pg
theorem cont.keep {G : xG} {h h' : Nat → Option xC} {c b n : Nat} {K : cV} (H : cont G h c K) (f : frz h h' b n) (hd : c + 17 ≤ b ∨ b + n ≤ c) : cont G h' c K := by
  obtain ⟨nn, ne, nx, sa, ks, ps, ln, pg, h0, h1, h2, h3, h4, h5, h6, h7, h8, hp, r⟩ := H
  exact ⟨nn, ne, nx, sa, ks, ps, ln, pg, by rw [f.at (by omega)]; exact h0, by rw [f.at (by omega)]; exact h1, by rw [f.at (by omega)]; exact h2, by rw [f.at (by omega)]; exact h3, by rw [f.at (by omega)]; exact h4, by rw [f.at (by omega)]; exact h5, by rw [f.at (by omega)]; exact h6, by rw [f.at (by omega)]; exact h7, by rw [f.at (by omega)]; exact h8, fun r hr => by rw [f.at (by omega)]; exact hp r hr, r⟩
theorem cont.obj {G : xG} {h : Nat → Option xC} {c : Nat} {K : cV} (H : cont G h c K) : h c = some (cobj G c K) := by
  obtain ⟨nn, ne, nx, sa, ks, ps, ln, pg, h0, -⟩ := H
  exact h0
theorem cont.bnd {G : xG} {h : Nat → Option xC} {c : Nat} {K : cV} (H : cont G h c K) : K.2.1.length ≤ 4 ∧ K.2.2.1.length ≤ 4 ∧ K.2.2.2.length ≤ 8 := by
  obtain ⟨nn, ne, nx, sa, ks, ps, ln, pg, h0, h1, h2, h3, h4, h5, h6, h7, h8, hp, r1, r2, r3⟩ := H
  exact ⟨r1.1, r2.1, r3.1⟩
theorem cont.row {G : xG} {h : Nat → Option xC} {c : Nat} {K : cV} (H : cont G h c K) {r : Nat} {e : Int32 × Int32 × List Int32} (he : K.2.2.2[r]? = some e) : e.2.2.length ≤ 120 := by
  obtain ⟨nn, ne, nx, sa, ks, ps, ln, pg, h0, h1, h2, h3, h4, h5, h6, h7, h8, hp, r1, r2, r3⟩ := H
  exact (r3.2.2.2.2.2 r e he).2.2.2.1
/-- the same cells but the object -/
theorem cont.reobj {G : xG} {h h' : Nat → Option xC} {c : Nat} {K K' : cV} (H : cont G h c K) (f : ∀ q, q ≠ c → h' q = h q) (h0' : h' c = some (cobj G c K')) (e1 : K'.2.1 = K.2.1 ∨ K'.2.1 = []) (e2 : K'.2.2.1 = K.2.2.1 ∨ K'.2.2.1 = []) (e3 : K'.2.2.2 = K.2.2.2 ∨ K'.2.2.2 = []) : cont G h' c K' := by
  obtain ⟨nn, ne, nx, sa, ks, ps, ln, pg, h0, h1, h2, h3, h4, h5, h6, h7, h8, hp, r1, r2, r3⟩ := H
  refine ⟨nn, ne, nx, sa, ks, ps, ln, pg, h0', by rw [f _ (by omega)]; exact h1, by rw [f _ (by omega)]; exact h2, by rw [f _ (by omega)]; exact h3, by rw [f _ (by omega)]; exact h4, by rw [f _ (by omega)]; exact h5, by rw [f _ (by omega)]; exact h6, by rw [f _ (by omega)]; exact h7, by rw [f _ (by omega)]; exact h8, fun r hr => by rw [f _ (by omega)]; exact hp r hr, ?_, ?_, ?_⟩
  · rcases e1 with e | e
    · rw [e]; exact r1
    · rw [e]; exact ⟨by simp, r1.2.1, r1.2.2.1, r1.2.2.2.1, fun i e h => by simp at h⟩
  · rcases e2 with e | e
    · rw [e]; exact r2
    · rw [e]; exact ⟨by simp, r2.2.1, fun i e h => by simp at h⟩
  · rcases e3 with e | e
    · rw [e]; exact r3
    · rw [e]; exact ⟨by simp, r3.2.1, r3.2.2.1, r3.2.2.2.1, r3.2.2.2.2.1, fun i e h => by simp at h⟩
set_option maxRecDepth 100000 in
set_option maxHeartbeats 8000000 in
theorem c_CT_begin {G : xG} {d c : Nat} {K : cV} {σ : xS} (h : cont G σ.1 c K) : xm G d mX2_begin [rf G c] σ (fun v σ' => v = none ∧ cont G σ'.1 c ((K.1.1, K.1.2.1, K.1.2.2.1, 0), [], [], []) ∧ frz σ.1 σ'.1 c 17 ∧ σ'.2 = σ.2) := by
  have h0 := h.obj
  refine xm_at 1 rfl (by decide) (Nat.le_of_ble_eq_true rfl) (by simp [Value.category]) tX2_begin_ok ?_
  try simp only [xlo0, List.map_cons, List.map_nil, List.length_cons, List.length_nil, xrs, xr0, Nat.reduceAdd, Nat.reduceSub, List.cons_append, List.nil_append, List.set_cons_zero, List.set_cons_succ, Option.toList_none, Option.toList_some, nI_1]
  refine xgo 80 rfl ?_
  try simp only [xlo0, List.map_cons, List.map_nil, List.length_cons, List.length_nil, xrs, xr0, Nat.reduceAdd, Nat.reduceSub, List.cons_append, List.nil_append, List.set_cons_zero, List.set_cons_succ, Option.toList_none, Option.toList_some, nI_1]
  refine xp 2 rfl rfl rfl h0 rfl rfl rfl (fun s1 n1 f1 e1 => ?_)
  refine xgo 80 rfl ?_
  try simp only [xlo0, List.map_cons, List.map_nil, List.length_cons, List.length_nil, xrs, xr0, Nat.reduceAdd, Nat.reduceSub, List.cons_append, List.nil_append, List.set_cons_zero, List.set_cons_succ, Option.toList_none, Option.toList_some, nI_1]
  refine xp 2 rfl rfl rfl n1 rfl rfl rfl (fun s2 n2 f2 e2 => ?_)
  refine xgo 80 rfl ?_
  try simp only [xlo0, List.map_cons, List.map_nil, List.length_cons, List.length_nil, xrs, xr0, Nat.reduceAdd, Nat.reduceSub, List.cons_append, List.nil_append, List.set_cons_zero, List.set_cons_succ, Option.toList_none, Option.toList_some, nI_1]
  refine xp 2 rfl rfl rfl n2 rfl rfl rfl (fun s3 n3 f3 e3 => ?_)
  refine xgo 80 rfl ?_
  try simp only [xlo0, List.map_cons, List.map_nil, List.length_cons, List.length_nil, xrs, xr0, Nat.reduceAdd, Nat.reduceSub, List.cons_append, List.nil_append, List.set_cons_zero, List.set_cons_succ, Option.toList_none, Option.toList_some, nI_1]
  refine xp 2 rfl rfl rfl n3 rfl rfl rfl (fun s4 n4 f4 e4 => ?_)
  refine xgo 80 rfl ?_
  try simp only [xlo0, List.map_cons, List.map_nil, List.length_cons, List.length_nil, xrs, xr0, Nat.reduceAdd, Nat.reduceSub, List.cons_append, List.nil_append, List.set_cons_zero, List.set_cons_succ, Option.toList_none, Option.toList_some, nI_1]
  refine xi_ret_v rfl rfl ⟨rfl, h.reobj (fun q hq => by rw [f4 q hq, f3 q hq, f2 q hq, f1 q hq]) n4 (Or.inr rfl) (Or.inr rfl) (Or.inr rfl), fun q hq => by rw [f4 q (by omega), f3 q (by omega), f2 q (by omega), f1 q (by omega)], by rw [e4, e3, e2, e1]⟩
set_option maxRecDepth 100000 in
set_option maxHeartbeats 8000000 in
theorem c_CT_title {G : xG} {d c : Nat} {K : cV} {x y z : Int32} {σ : xS} (h : cont G σ.1 c K) : xm G d mX2_title [rf G c, .int x, .int y, .int z] σ (fun v σ' => v = none ∧ cont G σ'.1 c ((x, y, z, K.1.2.2.2), K.2) ∧ frz σ.1 σ'.1 c 17 ∧ σ'.2 = σ.2) := by
  have h0 := h.obj
  refine xm_at 4 rfl (by decide) (Nat.le_of_ble_eq_true rfl) (by simp [Value.category]) tX2_title_ok ?_
  try simp only [xlo0, List.map_cons, List.map_nil, List.length_cons, List.length_nil, xrs, xr0, Nat.reduceAdd, Nat.reduceSub, List.cons_append, List.nil_append, List.set_cons_zero, List.set_cons_succ, Option.toList_none, Option.toList_some, nI_1]
  refine xgo 80 rfl ?_
  try simp only [xlo0, List.map_cons, List.map_nil, List.length_cons, List.length_nil, xrs, xr0, Nat.reduceAdd, Nat.reduceSub, List.cons_append, List.nil_append, List.set_cons_zero, List.set_cons_succ, Option.toList_none, Option.toList_some, nI_1]
  refine xp 2 rfl rfl rfl h0 rfl rfl rfl (fun s1 n1 f1 e1 => ?_)
  refine xgo 80 rfl ?_
  try simp only [xlo0, List.map_cons, List.map_nil, List.length_cons, List.length_nil, xrs, xr0, Nat.reduceAdd, Nat.reduceSub, List.cons_append, List.nil_append, List.set_cons_zero, List.set_cons_succ, Option.toList_none, Option.toList_some, nI_1]
  refine xp 2 rfl rfl rfl n1 rfl rfl rfl (fun s2 n2 f2 e2 => ?_)
  refine xgo 80 rfl ?_
  try simp only [xlo0, List.map_cons, List.map_nil, List.length_cons, List.length_nil, xrs, xr0, Nat.reduceAdd, Nat.reduceSub, List.cons_append, List.nil_append, List.set_cons_zero, List.set_cons_succ, Option.toList_none, Option.toList_some, nI_1]
  refine xp 2 rfl rfl rfl n2 rfl rfl rfl (fun s3 n3 f3 e3 => ?_)
  refine xgo 80 rfl ?_
  try simp only [xlo0, List.map_cons, List.map_nil, List.length_cons, List.length_nil, xrs, xr0, Nat.reduceAdd, Nat.reduceSub, List.cons_append, List.nil_append, List.set_cons_zero, List.set_cons_succ, Option.toList_none, Option.toList_some, nI_1]
  refine xi_ret_v rfl rfl ⟨rfl, h.reobj (fun q hq => by rw [f3 q hq, f2 q hq, f1 q hq]) n3 (Or.inl rfl) (Or.inl rfl) (Or.inl rfl), fun q hq => by rw [f3 q (by omega), f2 q (by omega), f1 q (by omega)], by rw [e3, e2, e1]⟩
theorem snoc_get {α : Type} {l : List α} {a e : α} {i : Nat} (h : (l ++ [a])[i]? = some e) : (i < l.length ∧ l[i]? = some e) ∨ (i = l.length ∧ e = a) := by
  by_cases hi : i < l.length
  · rw [List.getElem?_append_left hi] at h
    exact Or.inl ⟨hi, h⟩
  · rw [List.getElem?_append_right (by omega)] at h
    by_cases h0 : i = l.length
    · subst h0
      simp at h
      exact Or.inr ⟨rfl, h.symm⟩
    · rw [List.getElem?_eq_none (by simp; omega)] at h
      cases h
theorem set_lt {l : List Int32} {i n : Nat} {x e : Int32} (hi : i < n) (h : l[i]? = some e) : (l.set n x)[i]? = some e := by rw [List.getElem?_set_ne (by omega)]; exact h
theorem set_eq {l : List Int32} {n : Nat} {x : Int32} (hn : n < l.length) : (l.set n x)[n]? = some x := List.getElem?_set_self hn
set_option maxRecDepth 100000 in
set_option maxHeartbeats 8000000 in
theorem c_CT_putSeal {G : xG} {d c : Nat} {K : cV} {x : Int32} {σ : xS} (h : cont G σ.1 c K) (hl : K.2.2.1.length < 4) : xm G d mX2_putSeal [rf G c, .int x] σ (fun v σ' => v = none ∧ cont G σ'.1 c (K.1, K.2.1, K.2.2.1 ++ [x], K.2.2.2) ∧ frz σ.1 σ'.1 c 17 ∧ σ'.2 = σ.2) := by
  obtain ⟨nn, ne, nx, sa, ks, ps, ln, pg, h0, h1, h2, h3, h4, h5, h6, h7, h8, hp, r1, r2, r3⟩ := h
  have hcl : (nI K.2.2.1.length).toNatClampNeg = K.2.2.1.length := nI_clamp (by omega)
  have hsa := r2.2.1
  refine xm_at 2 rfl (by decide) (Nat.le_of_ble_eq_true rfl) (by simp [Value.category]) tX2_putSeal_ok ?_
  try simp only [xlo0, List.map_cons, List.map_nil, List.length_cons, List.length_nil, xrs, xr0, Nat.reduceAdd, Nat.reduceSub, List.cons_append, List.nil_append, List.set_cons_zero, List.set_cons_succ, Option.toList_none, Option.toList_some, nI_1]
  refine xgo 80 rfl ?_
  try simp only [xlo0, List.map_cons, List.map_nil, List.length_cons, List.length_nil, xrs, xr0, Nat.reduceAdd, Nat.reduceSub, List.cons_append, List.nil_append, List.set_cons_zero, List.set_cons_succ, Option.toList_none, Option.toList_some, nI_1]
  refine xg 2 rfl rfl rfl h0 rfl ?_
  refine xgo 80 rfl ?_
  try simp only [xlo0, List.map_cons, List.map_nil, List.length_cons, List.length_nil, xrs, xr0, Nat.reduceAdd, Nat.reduceSub, List.cons_append, List.nil_append, List.set_cons_zero, List.set_cons_succ, Option.toList_none, Option.toList_some, nI_1]
  refine xi_icmpge rfl (fun c1 => ?_) (fun c1 => ?_)
  · exact absurd c1 (by rw [i_le, i_n (by omega)]; have : (4 : Int32).toInt = 4 := rfl; omega)
  refine xgo 80 rfl ?_
  try simp only [xlo0, List.map_cons, List.map_nil, List.length_cons, List.length_nil, xrs, xr0, Nat.reduceAdd, Nat.reduceSub, List.cons_append, List.nil_append, List.set_cons_zero, List.set_cons_succ, Option.toList_none, Option.toList_some, nI_1]
  refine xg 2 rfl rfl rfl h0 rfl ?_
  refine xgo 80 rfl ?_
  try simp only [xlo0, List.map_cons, List.map_nil, List.length_cons, List.length_nil, xrs, xr0, Nat.reduceAdd, Nat.reduceSub, List.cons_append, List.nil_append, List.set_cons_zero, List.set_cons_succ, Option.toList_none, Option.toList_some, nI_1]
  refine xg 2 rfl rfl rfl h0 rfl ?_
  refine xgo 80 rfl ?_
  try simp only [xlo0, List.map_cons, List.map_nil, List.length_cons, List.length_nil, xrs, xr0, Nat.reduceAdd, Nat.reduceSub, List.cons_append, List.nil_append, List.set_cons_zero, List.set_cons_succ, Option.toList_none, Option.toList_some, nI_1]
  refine xsi rfl h4 (nI_pos (by omega)) (by rw [hcl, vi_len]; omega) (fun s1 n1 f1 e1 => ?_)
  have h0 := (f1 _ (by omega)).trans h0
  have h1 := (f1 _ (by omega)).trans h1
  have h2 := (f1 _ (by omega)).trans h2
  have h3 := (f1 _ (by omega)).trans h3
  have h5 := (f1 _ (by omega)).trans h5
  have h6 := (f1 _ (by omega)).trans h6
  have h7 := (f1 _ (by omega)).trans h7
  have h8 := (f1 _ (by omega)).trans h8
  have hp := fun r (hr : r < 8) => (f1 _ (by omega)).trans (hp r hr)
  refine xgo 80 rfl ?_
  try simp only [xlo0, List.map_cons, List.map_nil, List.length_cons, List.length_nil, xrs, xr0, Nat.reduceAdd, Nat.reduceSub, List.cons_append, List.nil_append, List.set_cons_zero, List.set_cons_succ, Option.toList_none, Option.toList_some, nI_1]
  refine xg 2 rfl rfl rfl h0 rfl ?_
  refine xgo 80 rfl ?_
  try simp only [xlo0, List.map_cons, List.map_nil, List.length_cons, List.length_nil, xrs, xr0, Nat.reduceAdd, Nat.reduceSub, List.cons_append, List.nil_append, List.set_cons_zero, List.set_cons_succ, Option.toList_none, Option.toList_some, nI_1]
  refine xp 2 rfl rfl rfl h0 rfl rfl rfl (fun s2 n2 f2 e2 => ?_)
  have h1 := (f2 _ (by omega)).trans h1
  have h2 := (f2 _ (by omega)).trans h2
  have h3 := (f2 _ (by omega)).trans h3
  have n1 := (f2 _ (by omega)).trans n1
  have h5 := (f2 _ (by omega)).trans h5
  have h6 := (f2 _ (by omega)).trans h6
  have h7 := (f2 _ (by omega)).trans h7
  have h8 := (f2 _ (by omega)).trans h8
  have hp := fun r (hr : r < 8) => (f2 _ (by omega)).trans (hp r hr)
  refine xgo 80 rfl ?_
  try simp only [xlo0, List.map_cons, List.map_nil, List.length_cons, List.length_nil, xrs, xr0, Nat.reduceAdd, Nat.reduceSub, List.cons_append, List.nil_append, List.set_cons_zero, List.set_cons_succ, Option.toList_none, Option.toList_some, nI_1]
  refine xi_ret_v rfl rfl ⟨rfl, ⟨nn, ne, nx, sa.set K.2.2.1.length x, ks, ps, ln, pg, by rw [n2]; simp [cobj, nI_1], h1, h2, h3, by rw [n1, hcl, vi_set], h5, h6, h7, h8, hp, r1, ⟨by simp; omega, by simp [hsa], fun i e he => ?_⟩, r3⟩, fun q hq => by rw [f2 q (by omega), f1 q (by omega)], by rw [e2, e1]⟩
  rcases snoc_get he with ⟨q1, q2⟩ | ⟨q1, q2⟩
  · exact set_lt q1 (r2.2.2 i e q2)
  · rw [q1, q2]; exact set_eq (by omega)
set_option maxRecDepth 100000 in
set_option maxHeartbeats 8000000 in
theorem c_CT_putNeed {G : xG} {d c : Nat} {K : cV} {x y z : Int32} {σ : xS} (h : cont G σ.1 c K) (hl : K.2.1.length < 4) (hz : z &&& 1 = z) : xm G d mX2_putNeed [rf G c, .int x, .int y, .int z] σ (fun v σ' => v = none ∧ cont G σ'.1 c (K.1, K.2.1 ++ [(x, y, z)], K.2.2) ∧ frz σ.1 σ'.1 c 17 ∧ σ'.2 = σ.2) := by
  obtain ⟨nn, ne, nx, sa, ks, ps, ln, pg, h0, h1, h2, h3, h4, h5, h6, h7, h8, hp, r1, r2, r3⟩ := h
  have hcl : (nI K.2.1.length).toNatClampNeg = K.2.1.length := nI_clamp (by omega)
  obtain ⟨_, l1, l2, l3, hc⟩ := r1
  refine xm_at 4 rfl (by decide) (Nat.le_of_ble_eq_true rfl) (by simp [Value.category]) tX2_putNeed_ok ?_
  try simp only [xlo0, List.map_cons, List.map_nil, List.length_cons, List.length_nil, xrs, xr0, Nat.reduceAdd, Nat.reduceSub, List.cons_append, List.nil_append, List.set_cons_zero, List.set_cons_succ, Option.toList_none, Option.toList_some, nI_1]
  refine xgo 80 rfl ?_
  try simp only [xlo0, List.map_cons, List.map_nil, List.length_cons, List.length_nil, xrs, xr0, Nat.reduceAdd, Nat.reduceSub, List.cons_append, List.nil_append, List.set_cons_zero, List.set_cons_succ, Option.toList_none, Option.toList_some, nI_1]
  refine xg 2 rfl rfl rfl h0 rfl ?_
  refine xgo 80 rfl ?_
  try simp only [xlo0, List.map_cons, List.map_nil, List.length_cons, List.length_nil, xrs, xr0, Nat.reduceAdd, Nat.reduceSub, List.cons_append, List.nil_append, List.set_cons_zero, List.set_cons_succ, Option.toList_none, Option.toList_some, nI_1]
  refine xi_icmpge rfl (fun c1 => ?_) (fun c1 => ?_)
  · exact absurd c1 (by rw [i_le, i_n (by omega)]; have : (4 : Int32).toInt = 4 := rfl; omega)
  refine xgo 80 rfl ?_
  try simp only [xlo0, List.map_cons, List.map_nil, List.length_cons, List.length_nil, xrs, xr0, Nat.reduceAdd, Nat.reduceSub, List.cons_append, List.nil_append, List.set_cons_zero, List.set_cons_succ, Option.toList_none, Option.toList_some, nI_1]
  refine xg 2 rfl rfl rfl h0 rfl ?_
  refine xgo 80 rfl ?_
  try simp only [xlo0, List.map_cons, List.map_nil, List.length_cons, List.length_nil, xrs, xr0, Nat.reduceAdd, Nat.reduceSub, List.cons_append, List.nil_append, List.set_cons_zero, List.set_cons_succ, Option.toList_none, Option.toList_some, nI_1]
  refine xg 2 rfl rfl rfl h0 rfl ?_
  refine xgo 80 rfl ?_
  try simp only [xlo0, List.map_cons, List.map_nil, List.length_cons, List.length_nil, xrs, xr0, Nat.reduceAdd, Nat.reduceSub, List.cons_append, List.nil_append, List.set_cons_zero, List.set_cons_succ, Option.toList_none, Option.toList_some, nI_1]
  refine xsi rfl h1 (nI_pos (by omega)) (by rw [hcl, vi_len]; omega) (fun s1 n1 f1 e1 => ?_)
  have h0 := (f1 _ (by omega)).trans h0
  have h2 := (f1 _ (by omega)).trans h2
  have h3 := (f1 _ (by omega)).trans h3
  have h4 := (f1 _ (by omega)).trans h4
  have h5 := (f1 _ (by omega)).trans h5
  have h6 := (f1 _ (by omega)).trans h6
  have h7 := (f1 _ (by omega)).trans h7
  have h8 := (f1 _ (by omega)).trans h8
  have hp := fun r (hr : r < 8) => (f1 _ (by omega)).trans (hp r hr)
  refine xgo 80 rfl ?_
  try simp only [xlo0, List.map_cons, List.map_nil, List.length_cons, List.length_nil, xrs, xr0, Nat.reduceAdd, Nat.reduceSub, List.cons_append, List.nil_append, List.set_cons_zero, List.set_cons_succ, Option.toList_none, Option.toList_some, nI_1]
  refine xg 2 rfl rfl rfl h0 rfl ?_
  refine xgo 80 rfl ?_
  try simp only [xlo0, List.map_cons, List.map_nil, List.length_cons, List.length_nil, xrs, xr0, Nat.reduceAdd, Nat.reduceSub, List.cons_append, List.nil_append, List.set_cons_zero, List.set_cons_succ, Option.toList_none, Option.toList_some, nI_1]
  refine xg 2 rfl rfl rfl h0 rfl ?_
  refine xgo 80 rfl ?_
  try simp only [xlo0, List.map_cons, List.map_nil, List.length_cons, List.length_nil, xrs, xr0, Nat.reduceAdd, Nat.reduceSub, List.cons_append, List.nil_append, List.set_cons_zero, List.set_cons_succ, Option.toList_none, Option.toList_some, nI_1]
  refine xsi rfl h2 (nI_pos (by omega)) (by rw [hcl, vi_len]; omega) (fun s2 n2 f2 e2 => ?_)
  have h0 := (f2 _ (by omega)).trans h0
  have n1 := (f2 _ (by omega)).trans n1
  have h3 := (f2 _ (by omega)).trans h3
  have h4 := (f2 _ (by omega)).trans h4
  have h5 := (f2 _ (by omega)).trans h5
  have h6 := (f2 _ (by omega)).trans h6
  have h7 := (f2 _ (by omega)).trans h7
  have h8 := (f2 _ (by omega)).trans h8
  have hp := fun r (hr : r < 8) => (f2 _ (by omega)).trans (hp r hr)
  refine xgo 80 rfl ?_
  try simp only [xlo0, List.map_cons, List.map_nil, List.length_cons, List.length_nil, xrs, xr0, Nat.reduceAdd, Nat.reduceSub, List.cons_append, List.nil_append, List.set_cons_zero, List.set_cons_succ, Option.toList_none, Option.toList_some, nI_1]
  refine xg 2 rfl rfl rfl h0 rfl ?_
  refine xgo 80 rfl ?_
  try simp only [xlo0, List.map_cons, List.map_nil, List.length_cons, List.length_nil, xrs, xr0, Nat.reduceAdd, Nat.reduceSub, List.cons_append, List.nil_append, List.set_cons_zero, List.set_cons_succ, Option.toList_none, Option.toList_some, nI_1]
  refine xg 2 rfl rfl rfl h0 rfl ?_
  refine xgo 80 rfl ?_
  try simp only [xlo0, List.map_cons, List.map_nil, List.length_cons, List.length_nil, xrs, xr0, Nat.reduceAdd, Nat.reduceSub, List.cons_append, List.nil_append, List.set_cons_zero, List.set_cons_succ, Option.toList_none, Option.toList_some, nI_1]
  refine xsz rfl h3 (nI_pos (by omega)) (by rw [hcl, vi_len]; omega) hz (fun s3 n3 f3 e3 => ?_)
  have h0 := (f3 _ (by omega)).trans h0
  have n1 := (f3 _ (by omega)).trans n1
  have n2 := (f3 _ (by omega)).trans n2
  have h4 := (f3 _ (by omega)).trans h4
  have h5 := (f3 _ (by omega)).trans h5
  have h6 := (f3 _ (by omega)).trans h6
  have h7 := (f3 _ (by omega)).trans h7
  have h8 := (f3 _ (by omega)).trans h8
  have hp := fun r (hr : r < 8) => (f3 _ (by omega)).trans (hp r hr)
  refine xgo 80 rfl ?_
  try simp only [xlo0, List.map_cons, List.map_nil, List.length_cons, List.length_nil, xrs, xr0, Nat.reduceAdd, Nat.reduceSub, List.cons_append, List.nil_append, List.set_cons_zero, List.set_cons_succ, Option.toList_none, Option.toList_some, nI_1]
  refine xg 2 rfl rfl rfl h0 rfl ?_
  refine xgo 80 rfl ?_
  try simp only [xlo0, List.map_cons, List.map_nil, List.length_cons, List.length_nil, xrs, xr0, Nat.reduceAdd, Nat.reduceSub, List.cons_append, List.nil_append, List.set_cons_zero, List.set_cons_succ, Option.toList_none, Option.toList_some, nI_1]
  refine xp 2 rfl rfl rfl h0 rfl rfl rfl (fun s4 n4 f4 e4 => ?_)
  have n1 := (f4 _ (by omega)).trans n1
  have n2 := (f4 _ (by omega)).trans n2
  have n3 := (f4 _ (by omega)).trans n3
  have h4 := (f4 _ (by omega)).trans h4
  have h5 := (f4 _ (by omega)).trans h5
  have h6 := (f4 _ (by omega)).trans h6
  have h7 := (f4 _ (by omega)).trans h7
  have h8 := (f4 _ (by omega)).trans h8
  have hp := fun r (hr : r < 8) => (f4 _ (by omega)).trans (hp r hr)
  refine xgo 80 rfl ?_
  try simp only [xlo0, List.map_cons, List.map_nil, List.length_cons, List.length_nil, xrs, xr0, Nat.reduceAdd, Nat.reduceSub, List.cons_append, List.nil_append, List.set_cons_zero, List.set_cons_succ, Option.toList_none, Option.toList_some, nI_1]
  refine xi_ret_v rfl rfl ⟨rfl, ⟨nn.set K.2.1.length x, ne.set K.2.1.length y, nx.set K.2.1.length z, sa, ks, ps, ln, pg, by rw [n4]; simp [cobj, nI_1], by rw [n1, hcl, vi_set], by rw [n2, hcl, vi_set], by rw [n3, hcl, vi_set], h4, h5, h6, h7, h8, hp, ⟨by simp; omega, by simp [l1], by simp [l2], by simp [l3], fun i e he => ?_⟩, r2, r3⟩, fun q hq => by rw [f4 q (by omega), f3 q (by omega), f2 q (by omega), f1 q (by omega)], by rw [e4, e3, e2, e1]⟩
  rcases snoc_get he with ⟨q1, q2⟩ | ⟨q1, q2⟩
  · obtain ⟨a1, a2, a3⟩ := hc i e q2
    exact ⟨set_lt q1 a1, set_lt q1 a2, set_lt q1 a3⟩
  · rw [q1, q2]; exact ⟨set_eq (by omega), set_eq (by omega), set_eq (by omega)⟩
set_option maxRecDepth 100000 in
set_option maxHeartbeats 8000000 in
theorem c_CT_putRow {G : xG} {d c : Nat} {K : cV} {x y : Int32} {σ : xS} (h : cont G σ.1 c K) (hl : K.2.2.2.length < 8) : xm G d mX2_putRow [rf G c, .int x, .int y] σ (fun v σ' => v = none ∧ cont G σ'.1 c (K.1, K.2.1, K.2.2.1, K.2.2.2 ++ [(x, y, [])]) ∧ frz σ.1 σ'.1 c 17 ∧ σ'.2 = σ.2) := by
  obtain ⟨nn, ne, nx, sa, ks, ps, ln, pg, h0, h1, h2, h3, h4, h5, h6, h7, h8, hp, r1, r2, r3⟩ := h
  have hcl : (nI K.2.2.2.length).toNatClampNeg = K.2.2.2.length := nI_clamp (by omega)
  obtain ⟨_, l1, l2, l3, lp, hc⟩ := r3
  refine xm_at 3 rfl (by decide) (Nat.le_of_ble_eq_true rfl) (by simp [Value.category]) tX2_putRow_ok ?_
  try simp only [xlo0, List.map_cons, List.map_nil, List.length_cons, List.length_nil, xrs, xr0, Nat.reduceAdd, Nat.reduceSub, List.cons_append, List.nil_append, List.set_cons_zero, List.set_cons_succ, Option.toList_none, Option.toList_some, nI_1]
  refine xgo 80 rfl ?_
  try simp only [xlo0, List.map_cons, List.map_nil, List.length_cons, List.length_nil, xrs, xr0, Nat.reduceAdd, Nat.reduceSub, List.cons_append, List.nil_append, List.set_cons_zero, List.set_cons_succ, Option.toList_none, Option.toList_some, nI_1]
  refine xg 2 rfl rfl rfl h0 rfl ?_
  refine xgo 80 rfl ?_
  try simp only [xlo0, List.map_cons, List.map_nil, List.length_cons, List.length_nil, xrs, xr0, Nat.reduceAdd, Nat.reduceSub, List.cons_append, List.nil_append, List.set_cons_zero, List.set_cons_succ, Option.toList_none, Option.toList_some, nI_1]
  refine xi_icmpge rfl (fun c1 => ?_) (fun c1 => ?_)
  · exact absurd c1 (by rw [i_le, i_n (by omega)]; have : (8 : Int32).toInt = 8 := rfl; omega)
  refine xgo 80 rfl ?_
  try simp only [xlo0, List.map_cons, List.map_nil, List.length_cons, List.length_nil, xrs, xr0, Nat.reduceAdd, Nat.reduceSub, List.cons_append, List.nil_append, List.set_cons_zero, List.set_cons_succ, Option.toList_none, Option.toList_some, nI_1]
  refine xg 2 rfl rfl rfl h0 rfl ?_
  refine xgo 80 rfl ?_
  try simp only [xlo0, List.map_cons, List.map_nil, List.length_cons, List.length_nil, xrs, xr0, Nat.reduceAdd, Nat.reduceSub, List.cons_append, List.nil_append, List.set_cons_zero, List.set_cons_succ, Option.toList_none, Option.toList_some, nI_1]
  refine xg 2 rfl rfl rfl h0 rfl ?_
  refine xgo 80 rfl ?_
  try simp only [xlo0, List.map_cons, List.map_nil, List.length_cons, List.length_nil, xrs, xr0, Nat.reduceAdd, Nat.reduceSub, List.cons_append, List.nil_append, List.set_cons_zero, List.set_cons_succ, Option.toList_none, Option.toList_some, nI_1]
  refine xsi rfl h5 (nI_pos (by omega)) (by rw [hcl, vi_len]; omega) (fun s1 n1 f1 e1 => ?_)
  have h0 := (f1 _ (by omega)).trans h0
  have h1 := (f1 _ (by omega)).trans h1
  have h2 := (f1 _ (by omega)).trans h2
  have h3 := (f1 _ (by omega)).trans h3
  have h4 := (f1 _ (by omega)).trans h4
  have h6 := (f1 _ (by omega)).trans h6
  have h7 := (f1 _ (by omega)).trans h7
  have h8 := (f1 _ (by omega)).trans h8
  have hp := fun r (hr : r < 8) => (f1 _ (by omega)).trans (hp r hr)
  refine xgo 80 rfl ?_
  try simp only [xlo0, List.map_cons, List.map_nil, List.length_cons, List.length_nil, xrs, xr0, Nat.reduceAdd, Nat.reduceSub, List.cons_append, List.nil_append, List.set_cons_zero, List.set_cons_succ, Option.toList_none, Option.toList_some, nI_1]
  refine xg 2 rfl rfl rfl h0 rfl ?_
  refine xgo 80 rfl ?_
  try simp only [xlo0, List.map_cons, List.map_nil, List.length_cons, List.length_nil, xrs, xr0, Nat.reduceAdd, Nat.reduceSub, List.cons_append, List.nil_append, List.set_cons_zero, List.set_cons_succ, Option.toList_none, Option.toList_some, nI_1]
  refine xg 2 rfl rfl rfl h0 rfl ?_
  refine xgo 80 rfl ?_
  try simp only [xlo0, List.map_cons, List.map_nil, List.length_cons, List.length_nil, xrs, xr0, Nat.reduceAdd, Nat.reduceSub, List.cons_append, List.nil_append, List.set_cons_zero, List.set_cons_succ, Option.toList_none, Option.toList_some, nI_1]
  refine xsi rfl h6 (nI_pos (by omega)) (by rw [hcl, vi_len]; omega) (fun s2 n2 f2 e2 => ?_)
  have h0 := (f2 _ (by omega)).trans h0
  have h1 := (f2 _ (by omega)).trans h1
  have h2 := (f2 _ (by omega)).trans h2
  have h3 := (f2 _ (by omega)).trans h3
  have h4 := (f2 _ (by omega)).trans h4
  have n1 := (f2 _ (by omega)).trans n1
  have h7 := (f2 _ (by omega)).trans h7
  have h8 := (f2 _ (by omega)).trans h8
  have hp := fun r (hr : r < 8) => (f2 _ (by omega)).trans (hp r hr)
  refine xgo 80 rfl ?_
  try simp only [xlo0, List.map_cons, List.map_nil, List.length_cons, List.length_nil, xrs, xr0, Nat.reduceAdd, Nat.reduceSub, List.cons_append, List.nil_append, List.set_cons_zero, List.set_cons_succ, Option.toList_none, Option.toList_some, nI_1]
  refine xg 2 rfl rfl rfl h0 rfl ?_
  refine xgo 80 rfl ?_
  try simp only [xlo0, List.map_cons, List.map_nil, List.length_cons, List.length_nil, xrs, xr0, Nat.reduceAdd, Nat.reduceSub, List.cons_append, List.nil_append, List.set_cons_zero, List.set_cons_succ, Option.toList_none, Option.toList_some, nI_1]
  refine xg 2 rfl rfl rfl h0 rfl ?_
  refine xgo 80 rfl ?_
  try simp only [xlo0, List.map_cons, List.map_nil, List.length_cons, List.length_nil, xrs, xr0, Nat.reduceAdd, Nat.reduceSub, List.cons_append, List.nil_append, List.set_cons_zero, List.set_cons_succ, Option.toList_none, Option.toList_some, nI_1]
  refine xsi rfl h7 (nI_pos (by omega)) (by rw [hcl, vi_len]; omega) (fun s3 n3 f3 e3 => ?_)
  have h0 := (f3 _ (by omega)).trans h0
  have h1 := (f3 _ (by omega)).trans h1
  have h2 := (f3 _ (by omega)).trans h2
  have h3 := (f3 _ (by omega)).trans h3
  have h4 := (f3 _ (by omega)).trans h4
  have n1 := (f3 _ (by omega)).trans n1
  have n2 := (f3 _ (by omega)).trans n2
  have h8 := (f3 _ (by omega)).trans h8
  have hp := fun r (hr : r < 8) => (f3 _ (by omega)).trans (hp r hr)
  refine xgo 80 rfl ?_
  try simp only [xlo0, List.map_cons, List.map_nil, List.length_cons, List.length_nil, xrs, xr0, Nat.reduceAdd, Nat.reduceSub, List.cons_append, List.nil_append, List.set_cons_zero, List.set_cons_succ, Option.toList_none, Option.toList_some, nI_1]
  refine xg 2 rfl rfl rfl h0 rfl ?_
  refine xgo 80 rfl ?_
  try simp only [xlo0, List.map_cons, List.map_nil, List.length_cons, List.length_nil, xrs, xr0, Nat.reduceAdd, Nat.reduceSub, List.cons_append, List.nil_append, List.set_cons_zero, List.set_cons_succ, Option.toList_none, Option.toList_some, nI_1]
  refine xp 2 rfl rfl rfl h0 rfl rfl rfl (fun s4 n4 f4 e4 => ?_)
  have h1 := (f4 _ (by omega)).trans h1
  have h2 := (f4 _ (by omega)).trans h2
  have h3 := (f4 _ (by omega)).trans h3
  have h4 := (f4 _ (by omega)).trans h4
  have n1 := (f4 _ (by omega)).trans n1
  have n2 := (f4 _ (by omega)).trans n2
  have n3 := (f4 _ (by omega)).trans n3
  have h8 := (f4 _ (by omega)).trans h8
  have hp := fun r (hr : r < 8) => (f4 _ (by omega)).trans (hp r hr)
  refine xgo 80 rfl ?_
  try simp only [xlo0, List.map_cons, List.map_nil, List.length_cons, List.length_nil, xrs, xr0, Nat.reduceAdd, Nat.reduceSub, List.cons_append, List.nil_append, List.set_cons_zero, List.set_cons_succ, Option.toList_none, Option.toList_some, nI_1]
  refine xi_ret_v rfl rfl ⟨rfl, ⟨nn, ne, nx, sa, ks.set K.2.2.2.length x, ps.set K.2.2.2.length y, ln.set K.2.2.2.length 0, pg, by rw [n4]; simp [cobj, nI_1], h1, h2, h3, h4, by rw [n1, hcl, vi_set], by rw [n2, hcl, vi_set], by rw [n3, hcl, vi_set], h8, hp, r1, r2, ⟨by simp; omega, by simp [l1], by simp [l2], by simp [l3], lp, fun i e he => ?_⟩⟩, fun q hq => by rw [f4 q (by omega), f3 q (by omega), f2 q (by omega), f1 q (by omega)], by rw [e4, e3, e2, e1]⟩
  rcases snoc_get he with ⟨q1, q2⟩ | ⟨q1, q2⟩
  · obtain ⟨a1, a2, a3, a4, a5⟩ := hc i e q2
    exact ⟨set_lt q1 a1, set_lt q1 a2, set_lt q1 a3, a4, a5⟩
  · rw [q1, q2]; exact ⟨set_eq (by omega), set_eq (by omega), set_eq (by omega), by simp, by simp⟩
end
section
theorem any_t {α : Type} {l : List α} {p : α → Bool} {j : Nat} {e : α} (hj : l[j]? = some e) (hp : p e = true) : l.any p = true := List.any_eq_true.mpr ⟨e, List.mem_of_getElem? hj, hp⟩
theorem any_f {α : Type} {l : List α} {p : α → Bool} (h : ∀ i e, i < l.length → l[i]? = some e → p e = false) : l.any p = false := by
  rw [List.any_eq_false]
  intro e he
  obtain ⟨i, hi⟩ := List.getElem?_of_mem he
  rw [h i e (List.getElem?_eq_some_iff.mp hi).1 hi]
  decide
theorem fi_t {α : Type} {l : List α} {p : α → Bool} {j : Nat} {e : α} (h : ∀ i e, i < j → l[i]? = some e → p e = false) (hj : l[j]? = some e) (hp : p e = true) : l.findIdx? p = some j := by
  rw [List.findIdx?_eq_some_iff_getElem]
  obtain ⟨h1, h2⟩ := List.getElem?_eq_some_iff.mp hj
  refine ⟨h1, by rw [h2]; exact hp, fun i hi => ?_⟩
  have := h i l[i] hi (List.getElem?_eq_getElem (by omega))
  rw [this]
  decide
theorem fi_f {α : Type} {l : List α} {p : α → Bool} (h : ∀ i e, i < l.length → l[i]? = some e → p e = false) : l.findIdx? p = none := by
  rw [List.findIdx?_eq_none_iff]
  intro e he
  obtain ⟨i, hi⟩ := List.getElem?_of_mem he
  exact h i e (List.getElem?_eq_some_iff.mp hi).1 hi
def oI (o : Option Nat) : Int32 := match o with
  | some i => nI i
  | none => -1
def bI (b : Bool) : Int32 := if b then 1 else 0
theorem lt_get {α : Type} {l : List α} {j : Nat} (h : j < l.length) : ∃ e, l[j]? = some e := ⟨l[j], List.getElem?_eq_getElem h⟩
set_option maxRecDepth 100000 in
set_option maxHeartbeats 8000000 in
theorem l_CT_needsName {G : xG} {d c : Nat} {K : cV} {x : Int32} {σ : xS} (h : cont G σ.1 c K) : ∀ (n j : Nat), j + n = K.2.1.length → (∀ i e, i < j → K.2.1[i]? = some e → (e.1 == x) = false) →
    xw G d mX2_needsName 2 [some (rf G c), some (.int x), some (.int (nI j))] [] σ (fun v σ' => v = some (.int (bI (K.2.1.any (fun e => e.1 == x)))) ∧ σ' = σ) := by
  obtain ⟨nn, ne, nx, sa, ks, ps, ln, pg, h0, h1, h2, h3, h4, h5, h6, h7, h8, hp, r1, r2, r3⟩ := h
  have hb := r1.1
  intro n
  induction n with
  | zero =>
    intro j hj hi
    have hj' : j = K.2.1.length := by omega
    subst hj'
    refine xgo 80 rfl ?_
    try simp only [xlo0, List.map_cons, List.map_nil, List.length_cons, List.length_nil, xrs, xr0, Nat.reduceAdd, Nat.reduceSub, List.cons_append, List.nil_append, List.set_cons_zero, List.set_cons_succ, Option.toList_none, Option.toList_some, nI_1]
    refine xg 2 rfl rfl rfl h0 rfl ?_
    refine xgo 80 rfl ?_
    try simp only [xlo0, List.map_cons, List.map_nil, List.length_cons, List.length_nil, xrs, xr0, Nat.reduceAdd, Nat.reduceSub, List.cons_append, List.nil_append, List.set_cons_zero, List.set_cons_succ, Option.toList_none, Option.toList_some, nI_1]
    refine xi_icmpge rfl (fun c1 => ?_) (fun c1 => ?_)
    · refine xgo 80 rfl ?_
      try simp only [xlo0, List.map_cons, List.map_nil, List.length_cons, List.length_nil, xrs, xr0, Nat.reduceAdd, Nat.reduceSub, List.cons_append, List.nil_append, List.set_cons_zero, List.set_cons_succ, Option.toList_none, Option.toList_some, nI_1]
      refine xi_ret_i rfl rfl (by decide) ⟨by rw [any_f hi]; rfl, rfl⟩
    · exact absurd (i_le.mpr (Int.le_refl _)) c1
  | succ n ih =>
    intro j hj hi
    refine xgo 80 rfl ?_
    try simp only [xlo0, List.map_cons, List.map_nil, List.length_cons, List.length_nil, xrs, xr0, Nat.reduceAdd, Nat.reduceSub, List.cons_append, List.nil_append, List.set_cons_zero, List.set_cons_succ, Option.toList_none, Option.toList_some, nI_1]
    refine xg 2 rfl rfl rfl h0 rfl ?_
    refine xgo 80 rfl ?_
    try simp only [xlo0, List.map_cons, List.map_nil, List.length_cons, List.length_nil, xrs, xr0, Nat.reduceAdd, Nat.reduceSub, List.cons_append, List.nil_append, List.set_cons_zero, List.set_cons_succ, Option.toList_none, Option.toList_some, nI_1]
    refine xi_icmpge rfl (fun c1 => ?_) (fun c1 => ?_)
    · exact absurd c1 (by rw [i_le, i_n (by omega), i_n (by omega)]; omega)
    · obtain ⟨e, he⟩ := lt_get (l := K.2.1) (j := j) (by omega)
      have hcl : (nI j).toNatClampNeg = j := nI_clamp (by omega)
      refine xgo 80 rfl ?_
      try simp only [xlo0, List.map_cons, List.map_nil, List.length_cons, List.length_nil, xrs, xr0, Nat.reduceAdd, Nat.reduceSub, List.cons_append, List.nil_append, List.set_cons_zero, List.set_cons_succ, Option.toList_none, Option.toList_some, nI_1]
      refine xg 2 rfl rfl rfl h0 rfl ?_
      refine xgo 80 rfl ?_
      try simp only [xlo0, List.map_cons, List.map_nil, List.length_cons, List.length_nil, xrs, xr0, Nat.reduceAdd, Nat.reduceSub, List.cons_append, List.nil_append, List.set_cons_zero, List.set_cons_succ, Option.toList_none, Option.toList_some, nI_1]
      refine xi_iald rfl h1 (nI_pos (by omega)) (by rw [hcl]; exact vi_get (r1.2.2.2.2 j e he).1) ?_
      refine xgo 80 rfl ?_
      try simp only [xlo0, List.map_cons, List.map_nil, List.length_cons, List.length_nil, xrs, xr0, Nat.reduceAdd, Nat.reduceSub, List.cons_append, List.nil_append, List.set_cons_zero, List.set_cons_succ, Option.toList_none, Option.toList_some, nI_1]
      refine xi_icmpne rfl (fun c2 => ?_) (fun c2 => ?_)
      · refine xto 2 80 rfl ?_
        try simp only [xlo0, List.map_cons, List.map_nil, List.length_cons, List.length_nil, xrs, xr0, Nat.reduceAdd, Nat.reduceSub, List.cons_append, List.nil_append, List.set_cons_zero, List.set_cons_succ, Option.toList_none, Option.toList_some, nI_1]
        exact ih (j + 1) (by omega) (fun i e' h1 h2 => by
          by_cases hij : i = j
          · subst hij
            rw [he] at h2
            cases h2
            simpa using c2
          · exact hi i e' (by omega) h2)
      · refine xgo 80 rfl ?_
        try simp only [xlo0, List.map_cons, List.map_nil, List.length_cons, List.length_nil, xrs, xr0, Nat.reduceAdd, Nat.reduceSub, List.cons_append, List.nil_append, List.set_cons_zero, List.set_cons_succ, Option.toList_none, Option.toList_some, nI_1]
        refine xi_ret_i rfl rfl (by decide) ⟨by rw [any_t he (by simpa using c2)]; rfl, rfl⟩
set_option maxRecDepth 100000 in
set_option maxHeartbeats 8000000 in
theorem c_CT_needsName {G : xG} {d c : Nat} {K : cV} {x : Int32} {σ : xS} (h : cont G σ.1 c K) : xm G d mX2_needsName [rf G c, .int x] σ (fun v σ' => v = some (.int (bI (K.2.1.any (fun e => e.1 == x)))) ∧ σ' = σ) := by
  refine xm_at 3 rfl (by decide) (Nat.le_of_ble_eq_true rfl) (by simp [Value.category]) tX2_needsName_ok ?_
  try simp only [xlo0, List.map_cons, List.map_nil, List.length_cons, List.length_nil, xrs, xr0, Nat.reduceAdd, Nat.reduceSub, List.cons_append, List.nil_append, List.set_cons_zero, List.set_cons_succ, Option.toList_none, Option.toList_some, nI_1]
  refine xto 2 80 rfl ?_
  try simp only [xlo0, List.map_cons, List.map_nil, List.length_cons, List.length_nil, xrs, xr0, Nat.reduceAdd, Nat.reduceSub, List.cons_append, List.nil_append, List.set_cons_zero, List.set_cons_succ, Option.toList_none, Option.toList_some, nI_1]
  exact l_CT_needsName h K.2.1.length 0 (by omega) (fun i e h => by omega)
set_option maxRecDepth 100000 in
set_option maxHeartbeats 8000000 in
theorem l_CT_sealsGroup {G : xG} {d c : Nat} {K : cV} {x : Int32} {σ : xS} (h : cont G σ.1 c K) : ∀ (n j : Nat), j + n = K.2.2.1.length → (∀ i e, i < j → K.2.2.1[i]? = some e → (e == x) = false) →
    xw G d mX2_sealsGroup 2 [some (rf G c), some (.int x), some (.int (nI j))] [] σ (fun v σ' => v = some (.int (bI (K.2.2.1.any (fun e => e == x)))) ∧ σ' = σ) := by
  obtain ⟨nn, ne, nx, sa, ks, ps, ln, pg, h0, h1, h2, h3, h4, h5, h6, h7, h8, hp, r1, r2, r3⟩ := h
  have hb := r2.1
  intro n
  induction n with
  | zero =>
    intro j hj hi
    have hj' : j = K.2.2.1.length := by omega
    subst hj'
    refine xgo 80 rfl ?_
    try simp only [xlo0, List.map_cons, List.map_nil, List.length_cons, List.length_nil, xrs, xr0, Nat.reduceAdd, Nat.reduceSub, List.cons_append, List.nil_append, List.set_cons_zero, List.set_cons_succ, Option.toList_none, Option.toList_some, nI_1]
    refine xg 2 rfl rfl rfl h0 rfl ?_
    refine xgo 80 rfl ?_
    try simp only [xlo0, List.map_cons, List.map_nil, List.length_cons, List.length_nil, xrs, xr0, Nat.reduceAdd, Nat.reduceSub, List.cons_append, List.nil_append, List.set_cons_zero, List.set_cons_succ, Option.toList_none, Option.toList_some, nI_1]
    refine xi_icmpge rfl (fun c1 => ?_) (fun c1 => ?_)
    · refine xgo 80 rfl ?_
      try simp only [xlo0, List.map_cons, List.map_nil, List.length_cons, List.length_nil, xrs, xr0, Nat.reduceAdd, Nat.reduceSub, List.cons_append, List.nil_append, List.set_cons_zero, List.set_cons_succ, Option.toList_none, Option.toList_some, nI_1]
      refine xi_ret_i rfl rfl (by decide) ⟨by rw [any_f hi]; rfl, rfl⟩
    · exact absurd (i_le.mpr (Int.le_refl _)) c1
  | succ n ih =>
    intro j hj hi
    refine xgo 80 rfl ?_
    try simp only [xlo0, List.map_cons, List.map_nil, List.length_cons, List.length_nil, xrs, xr0, Nat.reduceAdd, Nat.reduceSub, List.cons_append, List.nil_append, List.set_cons_zero, List.set_cons_succ, Option.toList_none, Option.toList_some, nI_1]
    refine xg 2 rfl rfl rfl h0 rfl ?_
    refine xgo 80 rfl ?_
    try simp only [xlo0, List.map_cons, List.map_nil, List.length_cons, List.length_nil, xrs, xr0, Nat.reduceAdd, Nat.reduceSub, List.cons_append, List.nil_append, List.set_cons_zero, List.set_cons_succ, Option.toList_none, Option.toList_some, nI_1]
    refine xi_icmpge rfl (fun c1 => ?_) (fun c1 => ?_)
    · exact absurd c1 (by rw [i_le, i_n (by omega), i_n (by omega)]; omega)
    · obtain ⟨e, he⟩ := lt_get (l := K.2.2.1) (j := j) (by omega)
      have hcl : (nI j).toNatClampNeg = j := nI_clamp (by omega)
      refine xgo 80 rfl ?_
      try simp only [xlo0, List.map_cons, List.map_nil, List.length_cons, List.length_nil, xrs, xr0, Nat.reduceAdd, Nat.reduceSub, List.cons_append, List.nil_append, List.set_cons_zero, List.set_cons_succ, Option.toList_none, Option.toList_some, nI_1]
      refine xg 2 rfl rfl rfl h0 rfl ?_
      refine xgo 80 rfl ?_
      try simp only [xlo0, List.map_cons, List.map_nil, List.length_cons, List.length_nil, xrs, xr0, Nat.reduceAdd, Nat.reduceSub, List.cons_append, List.nil_append, List.set_cons_zero, List.set_cons_succ, Option.toList_none, Option.toList_some, nI_1]
      refine xi_iald rfl h4 (nI_pos (by omega)) (by rw [hcl]; exact vi_get (r2.2.2 j e he)) ?_
      refine xgo 80 rfl ?_
      try simp only [xlo0, List.map_cons, List.map_nil, List.length_cons, List.length_nil, xrs, xr0, Nat.reduceAdd, Nat.reduceSub, List.cons_append, List.nil_append, List.set_cons_zero, List.set_cons_succ, Option.toList_none, Option.toList_some, nI_1]
      refine xi_icmpne rfl (fun c2 => ?_) (fun c2 => ?_)
      · refine xto 2 80 rfl ?_
        try simp only [xlo0, List.map_cons, List.map_nil, List.length_cons, List.length_nil, xrs, xr0, Nat.reduceAdd, Nat.reduceSub, List.cons_append, List.nil_append, List.set_cons_zero, List.set_cons_succ, Option.toList_none, Option.toList_some, nI_1]
        exact ih (j + 1) (by omega) (fun i e' h1 h2 => by
          by_cases hij : i = j
          · subst hij
            rw [he] at h2
            cases h2
            simpa using c2
          · exact hi i e' (by omega) h2)
      · refine xgo 80 rfl ?_
        try simp only [xlo0, List.map_cons, List.map_nil, List.length_cons, List.length_nil, xrs, xr0, Nat.reduceAdd, Nat.reduceSub, List.cons_append, List.nil_append, List.set_cons_zero, List.set_cons_succ, Option.toList_none, Option.toList_some, nI_1]
        refine xi_ret_i rfl rfl (by decide) ⟨by rw [any_t he (by simpa using c2)]; rfl, rfl⟩
set_option maxRecDepth 100000 in
set_option maxHeartbeats 8000000 in
theorem c_CT_sealsGroup {G : xG} {d c : Nat} {K : cV} {x : Int32} {σ : xS} (h : cont G σ.1 c K) : xm G d mX2_sealsGroup [rf G c, .int x] σ (fun v σ' => v = some (.int (bI (K.2.2.1.any (fun e => e == x)))) ∧ σ' = σ) := by
  refine xm_at 3 rfl (by decide) (Nat.le_of_ble_eq_true rfl) (by simp [Value.category]) tX2_sealsGroup_ok ?_
  try simp only [xlo0, List.map_cons, List.map_nil, List.length_cons, List.length_nil, xrs, xr0, Nat.reduceAdd, Nat.reduceSub, List.cons_append, List.nil_append, List.set_cons_zero, List.set_cons_succ, Option.toList_none, Option.toList_some, nI_1]
  refine xto 2 80 rfl ?_
  try simp only [xlo0, List.map_cons, List.map_nil, List.length_cons, List.length_nil, xrs, xr0, Nat.reduceAdd, Nat.reduceSub, List.cons_append, List.nil_append, List.set_cons_zero, List.set_cons_succ, Option.toList_none, Option.toList_some, nI_1]
  exact l_CT_sealsGroup h K.2.2.1.length 0 (by omega) (fun i e h => by omega)
set_option maxRecDepth 100000 in
set_option maxHeartbeats 8000000 in
theorem l_CT_rowOf {G : xG} {d c : Nat} {K : cV} {x : Int32} {σ : xS} (h : cont G σ.1 c K) : ∀ (n j : Nat), j + n = K.2.2.2.length → (∀ i e, i < j → K.2.2.2[i]? = some e → (e.1 == x) = false) →
    xw G d mX2_rowOf 2 [some (rf G c), some (.int x), some (.int (nI j))] [] σ (fun v σ' => v = some (.int (oI (K.2.2.2.findIdx? (fun e => e.1 == x)))) ∧ σ' = σ) := by
  obtain ⟨nn, ne, nx, sa, ks, ps, ln, pg, h0, h1, h2, h3, h4, h5, h6, h7, h8, hp, r1, r2, r3⟩ := h
  have hb := r3.1
  intro n
  induction n with
  | zero =>
    intro j hj hi
    have hj' : j = K.2.2.2.length := by omega
    subst hj'
    refine xgo 80 rfl ?_
    try simp only [xlo0, List.map_cons, List.map_nil, List.length_cons, List.length_nil, xrs, xr0, Nat.reduceAdd, Nat.reduceSub, List.cons_append, List.nil_append, List.set_cons_zero, List.set_cons_succ, Option.toList_none, Option.toList_some, nI_1]
    refine xg 2 rfl rfl rfl h0 rfl ?_
    refine xgo 80 rfl ?_
    try simp only [xlo0, List.map_cons, List.map_nil, List.length_cons, List.length_nil, xrs, xr0, Nat.reduceAdd, Nat.reduceSub, List.cons_append, List.nil_append, List.set_cons_zero, List.set_cons_succ, Option.toList_none, Option.toList_some, nI_1]
    refine xi_icmpge rfl (fun c1 => ?_) (fun c1 => ?_)
    · refine xgo 80 rfl ?_
      try simp only [xlo0, List.map_cons, List.map_nil, List.length_cons, List.length_nil, xrs, xr0, Nat.reduceAdd, Nat.reduceSub, List.cons_append, List.nil_append, List.set_cons_zero, List.set_cons_succ, Option.toList_none, Option.toList_some, nI_1]
      refine xi_ret_i rfl rfl rfl ⟨by rw [fi_f hi]; rfl, rfl⟩
    · exact absurd (i_le.mpr (Int.le_refl _)) c1
  | succ n ih =>
    intro j hj hi
    refine xgo 80 rfl ?_
    try simp only [xlo0, List.map_cons, List.map_nil, List.length_cons, List.length_nil, xrs, xr0, Nat.reduceAdd, Nat.reduceSub, List.cons_append, List.nil_append, List.set_cons_zero, List.set_cons_succ, Option.toList_none, Option.toList_some, nI_1]
    refine xg 2 rfl rfl rfl h0 rfl ?_
    refine xgo 80 rfl ?_
    try simp only [xlo0, List.map_cons, List.map_nil, List.length_cons, List.length_nil, xrs, xr0, Nat.reduceAdd, Nat.reduceSub, List.cons_append, List.nil_append, List.set_cons_zero, List.set_cons_succ, Option.toList_none, Option.toList_some, nI_1]
    refine xi_icmpge rfl (fun c1 => ?_) (fun c1 => ?_)
    · exact absurd c1 (by rw [i_le, i_n (by omega), i_n (by omega)]; omega)
    · obtain ⟨e, he⟩ := lt_get (l := K.2.2.2) (j := j) (by omega)
      have hcl : (nI j).toNatClampNeg = j := nI_clamp (by omega)
      refine xgo 80 rfl ?_
      try simp only [xlo0, List.map_cons, List.map_nil, List.length_cons, List.length_nil, xrs, xr0, Nat.reduceAdd, Nat.reduceSub, List.cons_append, List.nil_append, List.set_cons_zero, List.set_cons_succ, Option.toList_none, Option.toList_some, nI_1]
      refine xg 2 rfl rfl rfl h0 rfl ?_
      refine xgo 80 rfl ?_
      try simp only [xlo0, List.map_cons, List.map_nil, List.length_cons, List.length_nil, xrs, xr0, Nat.reduceAdd, Nat.reduceSub, List.cons_append, List.nil_append, List.set_cons_zero, List.set_cons_succ, Option.toList_none, Option.toList_some, nI_1]
      refine xi_iald rfl h5 (nI_pos (by omega)) (by rw [hcl]; exact vi_get (r3.2.2.2.2.2 j e he).1) ?_
      refine xgo 80 rfl ?_
      try simp only [xlo0, List.map_cons, List.map_nil, List.length_cons, List.length_nil, xrs, xr0, Nat.reduceAdd, Nat.reduceSub, List.cons_append, List.nil_append, List.set_cons_zero, List.set_cons_succ, Option.toList_none, Option.toList_some, nI_1]
      refine xi_icmpne rfl (fun c2 => ?_) (fun c2 => ?_)
      · refine xto 2 80 rfl ?_
        try simp only [xlo0, List.map_cons, List.map_nil, List.length_cons, List.length_nil, xrs, xr0, Nat.reduceAdd, Nat.reduceSub, List.cons_append, List.nil_append, List.set_cons_zero, List.set_cons_succ, Option.toList_none, Option.toList_some, nI_1]
        exact ih (j + 1) (by omega) (fun i e' h1 h2 => by
          by_cases hij : i = j
          · subst hij
            rw [he] at h2
            cases h2
            simpa using c2
          · exact hi i e' (by omega) h2)
      · refine xgo 80 rfl ?_
        try simp only [xlo0, List.map_cons, List.map_nil, List.length_cons, List.length_nil, xrs, xr0, Nat.reduceAdd, Nat.reduceSub, List.cons_append, List.nil_append, List.set_cons_zero, List.set_cons_succ, Option.toList_none, Option.toList_some, nI_1]
        refine xi_ret_i rfl rfl rfl ⟨by rw [fi_t hi he (by simpa using c2)]; rfl, rfl⟩
set_option maxRecDepth 100000 in
set_option maxHeartbeats 8000000 in
theorem c_CT_rowOf {G : xG} {d c : Nat} {K : cV} {x : Int32} {σ : xS} (h : cont G σ.1 c K) : xm G d mX2_rowOf [rf G c, .int x] σ (fun v σ' => v = some (.int (oI (K.2.2.2.findIdx? (fun e => e.1 == x)))) ∧ σ' = σ) := by
  refine xm_at 3 rfl (by decide) (Nat.le_of_ble_eq_true rfl) (by simp [Value.category]) tX2_rowOf_ok ?_
  try simp only [xlo0, List.map_cons, List.map_nil, List.length_cons, List.length_nil, xrs, xr0, Nat.reduceAdd, Nat.reduceSub, List.cons_append, List.nil_append, List.set_cons_zero, List.set_cons_succ, Option.toList_none, Option.toList_some, nI_1]
  refine xto 2 80 rfl ?_
  try simp only [xlo0, List.map_cons, List.map_nil, List.length_cons, List.length_nil, xrs, xr0, Nat.reduceAdd, Nat.reduceSub, List.cons_append, List.nil_append, List.set_cons_zero, List.set_cons_succ, Option.toList_none, Option.toList_some, nI_1]
  exact l_CT_rowOf h K.2.2.2.length 0 (by omega) (fun i e h => by omega)
set_option maxRecDepth 100000 in
set_option maxHeartbeats 8000000 in
theorem l_CT_hasRowOfGroup {G : xG} {d c : Nat} {K : cV} {x : Int32} {σ : xS} (h : cont G σ.1 c K) : ∀ (n j : Nat), j + n = K.2.2.2.length → (∀ i e, i < j → K.2.2.2[i]? = some e → (e.1 / 16 == x) = false) →
    xw G d mX2_hasRowOfGroup 2 [some (rf G c), some (.int x), some (.int (nI j))] [] σ (fun v σ' => v = some (.int (bI (K.2.2.2.any (fun e => e.1 / 16 == x)))) ∧ σ' = σ) := by
  obtain ⟨nn, ne, nx, sa, ks, ps, ln, pg, h0, h1, h2, h3, h4, h5, h6, h7, h8, hp, r1, r2, r3⟩ := h
  have hb := r3.1
  intro n
  induction n with
  | zero =>
    intro j hj hi
    have hj' : j = K.2.2.2.length := by omega
    subst hj'
    refine xgo 80 rfl ?_
    try simp only [xlo0, List.map_cons, List.map_nil, List.length_cons, List.length_nil, xrs, xr0, Nat.reduceAdd, Nat.reduceSub, List.cons_append, List.nil_append, List.set_cons_zero, List.set_cons_succ, Option.toList_none, Option.toList_some, nI_1]
    refine xg 2 rfl rfl rfl h0 rfl ?_
    refine xgo 80 rfl ?_
    try simp only [xlo0, List.map_cons, List.map_nil, List.length_cons, List.length_nil, xrs, xr0, Nat.reduceAdd, Nat.reduceSub, List.cons_append, List.nil_append, List.set_cons_zero, List.set_cons_succ, Option.toList_none, Option.toList_some, nI_1]
    refine xi_icmpge rfl (fun c1 => ?_) (fun c1 => ?_)
    · refine xgo 80 rfl ?_
      try simp only [xlo0, List.map_cons, List.map_nil, List.length_cons, List.length_nil, xrs, xr0, Nat.reduceAdd, Nat.reduceSub, List.cons_append, List.nil_append, List.set_cons_zero, List.set_cons_succ, Option.toList_none, Option.toList_some, nI_1]
      refine xi_ret_i rfl rfl (by decide) ⟨by rw [any_f hi]; rfl, rfl⟩
    · exact absurd (i_le.mpr (Int.le_refl _)) c1
  | succ n ih =>
    intro j hj hi
    refine xgo 80 rfl ?_
    try simp only [xlo0, List.map_cons, List.map_nil, List.length_cons, List.length_nil, xrs, xr0, Nat.reduceAdd, Nat.reduceSub, List.cons_append, List.nil_append, List.set_cons_zero, List.set_cons_succ, Option.toList_none, Option.toList_some, nI_1]
    refine xg 2 rfl rfl rfl h0 rfl ?_
    refine xgo 80 rfl ?_
    try simp only [xlo0, List.map_cons, List.map_nil, List.length_cons, List.length_nil, xrs, xr0, Nat.reduceAdd, Nat.reduceSub, List.cons_append, List.nil_append, List.set_cons_zero, List.set_cons_succ, Option.toList_none, Option.toList_some, nI_1]
    refine xi_icmpge rfl (fun c1 => ?_) (fun c1 => ?_)
    · exact absurd c1 (by rw [i_le, i_n (by omega), i_n (by omega)]; omega)
    · obtain ⟨e, he⟩ := lt_get (l := K.2.2.2) (j := j) (by omega)
      have hcl : (nI j).toNatClampNeg = j := nI_clamp (by omega)
      refine xgo 80 rfl ?_
      try simp only [xlo0, List.map_cons, List.map_nil, List.length_cons, List.length_nil, xrs, xr0, Nat.reduceAdd, Nat.reduceSub, List.cons_append, List.nil_append, List.set_cons_zero, List.set_cons_succ, Option.toList_none, Option.toList_some, nI_1]
      refine xg 2 rfl rfl rfl h0 rfl ?_
      refine xgo 80 rfl ?_
      try simp only [xlo0, List.map_cons, List.map_nil, List.length_cons, List.length_nil, xrs, xr0, Nat.reduceAdd, Nat.reduceSub, List.cons_append, List.nil_append, List.set_cons_zero, List.set_cons_succ, Option.toList_none, Option.toList_some, nI_1]
      refine xi_iald rfl h5 (nI_pos (by omega)) (by rw [hcl]; exact vi_get (r3.2.2.2.2.2 j e he).1) ?_
      refine xgo 80 rfl ?_
      try simp only [xlo0, List.map_cons, List.map_nil, List.length_cons, List.length_nil, xrs, xr0, Nat.reduceAdd, Nat.reduceSub, List.cons_append, List.nil_append, List.set_cons_zero, List.set_cons_succ, Option.toList_none, Option.toList_some, nI_1]
      refine xi_idiv rfl (by decide) ?_
      refine xgo 80 rfl ?_
      try simp only [xlo0, List.map_cons, List.map_nil, List.length_cons, List.length_nil, xrs, xr0, Nat.reduceAdd, Nat.reduceSub, List.cons_append, List.nil_append, List.set_cons_zero, List.set_cons_succ, Option.toList_none, Option.toList_some, nI_1]
      refine xi_icmpne rfl (fun c2 => ?_) (fun c2 => ?_)
      · refine xto 2 80 rfl ?_
        try simp only [xlo0, List.map_cons, List.map_nil, List.length_cons, List.length_nil, xrs, xr0, Nat.reduceAdd, Nat.reduceSub, List.cons_append, List.nil_append, List.set_cons_zero, List.set_cons_succ, Option.toList_none, Option.toList_some, nI_1]
        exact ih (j + 1) (by omega) (fun i e' h1 h2 => by
          by_cases hij : i = j
          · subst hij
            rw [he] at h2
            cases h2
            simpa using c2
          · exact hi i e' (by omega) h2)
      · refine xgo 80 rfl ?_
        try simp only [xlo0, List.map_cons, List.map_nil, List.length_cons, List.length_nil, xrs, xr0, Nat.reduceAdd, Nat.reduceSub, List.cons_append, List.nil_append, List.set_cons_zero, List.set_cons_succ, Option.toList_none, Option.toList_some, nI_1]
        refine xi_ret_i rfl rfl (by decide) ⟨by rw [any_t he (by simpa using c2)]; rfl, rfl⟩
set_option maxRecDepth 100000 in
set_option maxHeartbeats 8000000 in
theorem c_CT_hasRowOfGroup {G : xG} {d c : Nat} {K : cV} {x : Int32} {σ : xS} (h : cont G σ.1 c K) : xm G d mX2_hasRowOfGroup [rf G c, .int x] σ (fun v σ' => v = some (.int (bI (K.2.2.2.any (fun e => e.1 / 16 == x)))) ∧ σ' = σ) := by
  refine xm_at 3 rfl (by decide) (Nat.le_of_ble_eq_true rfl) (by simp [Value.category]) tX2_hasRowOfGroup_ok ?_
  try simp only [xlo0, List.map_cons, List.map_nil, List.length_cons, List.length_nil, xrs, xr0, Nat.reduceAdd, Nat.reduceSub, List.cons_append, List.nil_append, List.set_cons_zero, List.set_cons_succ, Option.toList_none, Option.toList_some, nI_1]
  refine xto 2 80 rfl ?_
  try simp only [xlo0, List.map_cons, List.map_nil, List.length_cons, List.length_nil, xrs, xr0, Nat.reduceAdd, Nat.reduceSub, List.cons_append, List.nil_append, List.set_cons_zero, List.set_cons_succ, Option.toList_none, Option.toList_some, nI_1]
  exact l_CT_hasRowOfGroup h K.2.2.2.length 0 (by omega) (fun i e h => by omega)
/-- the bytes of row r -/
def rby (rw : List (Int32 × Int32 × List Int32)) (r : Int32) : List Int32 := if r.toInt < 0 then [] else match rw[r.toInt.toNat]? with
  | some e => e.2.2
  | none => []
theorem rby_n {rw : List (Int32 × Int32 × List Int32)} {r : Nat} {e : Int32 × Int32 × List Int32} (h : rw[r]? = some e) (hr : r < 2 ^ 31) : rby rw (nI r) = e.2.2 := by
  unfold rby
  rw [i_n hr, if_neg (by omega)]
  simp [h]
theorem rby_out {rw : List (Int32 × Int32 × List Int32)} {r : Int32} (h : r.toInt < 0 ∨ (rw.length : Int) ≤ r.toInt) : rby rw r = [] := by
  unfold rby
  split
  · rfl
  · rw [List.getElem?_eq_none (by omega)]
theorem bat_nil (i : Int32) : bat [] i = -1 := by
  unfold bat
  split <;> rfl
set_option maxRecDepth 100000 in
set_option maxHeartbeats 8000000 in
theorem c_CT_pageLength {G : xG} {d c : Nat} {K : cV} {r : Int32} {σ : xS} (h : cont G σ.1 c K) : xm G (d + 1) mX2_pageLength [rf G c, .int r] σ (fun v σ' => v = some (.int (nI (rby K.2.2.2 r).length)) ∧ σ' = σ) := by
  obtain ⟨nn, ne, nx, sa, ks, ps, ln, pg, h0, h1, h2, h3, h4, h5, h6, h7, h8, hp, r1, r2, r3⟩ := h
  have hb := r3.1
  have hn : (nI K.2.2.2.length).toInt = K.2.2.2.length := i_n (by omega)
  refine xm_at 2 rfl (by decide) (Nat.le_of_ble_eq_true rfl) (by simp [Value.category]) tX2_pageLength_ok ?_
  try simp only [xlo0, List.map_cons, List.map_nil, List.length_cons, List.length_nil, xrs, xr0, Nat.reduceAdd, Nat.reduceSub, List.cons_append, List.nil_append, List.set_cons_zero, List.set_cons_succ, Option.toList_none, Option.toList_some, nI_1]
  refine xgo 80 rfl ?_
  try simp only [xlo0, List.map_cons, List.map_nil, List.length_cons, List.length_nil, xrs, xr0, Nat.reduceAdd, Nat.reduceSub, List.cons_append, List.nil_append, List.set_cons_zero, List.set_cons_succ, Option.toList_none, Option.toList_some, nI_1]
  refine xg 2 rfl rfl rfl h0 rfl ?_
  refine xgo 80 rfl ?_
  try simp only [xlo0, List.map_cons, List.map_nil, List.length_cons, List.length_nil, xrs, xr0, Nat.reduceAdd, Nat.reduceSub, List.cons_append, List.nil_append, List.set_cons_zero, List.set_cons_succ, Option.toList_none, Option.toList_some, nI_1]
  refine xcS 2 rfl rfl rfl c_isBelow rfl kX8_isBelow iX8_isBelow rfl rfl (Nat.le_of_ble_eq_true rfl) (fun v1 s1 q1 => ?_)
  obtain ⟨rfl, rfl⟩ := q1
  by_cases hin : 0 ≤ r.toInt ∧ r.toInt < (nI K.2.2.2.length).toInt
  · rw [if_pos hin]
    refine xgo 80 rfl ?_
    try simp only [xlo0, List.map_cons, List.map_nil, List.length_cons, List.length_nil, xrs, xr0, Nat.reduceAdd, Nat.reduceSub, List.cons_append, List.nil_append, List.set_cons_zero, List.set_cons_succ, Option.toList_none, Option.toList_some, nI_1]
    refine xi_ifeq rfl (fun c1 => ?_) (fun c1 => ?_)
    · exact absurd c1 (by decide)
    · obtain ⟨e, he⟩ := lt_get (l := K.2.2.2) (j := r.toInt.toNat) (by omega)
      have hr : rby K.2.2.2 r = e.2.2 := by
        unfold rby
        rw [if_neg (by omega), he]
      refine xgo 80 rfl ?_
      try simp only [xlo0, List.map_cons, List.map_nil, List.length_cons, List.length_nil, xrs, xr0, Nat.reduceAdd, Nat.reduceSub, List.cons_append, List.nil_append, List.set_cons_zero, List.set_cons_succ, Option.toList_none, Option.toList_some, nI_1]
      refine xg 2 rfl rfl rfl h0 rfl ?_
      refine xgo 80 rfl ?_
      try simp only [xlo0, List.map_cons, List.map_nil, List.length_cons, List.length_nil, xrs, xr0, Nat.reduceAdd, Nat.reduceSub, List.cons_append, List.nil_append, List.set_cons_zero, List.set_cons_succ, Option.toList_none, Option.toList_some, nI_1]
      refine xi_iald rfl h7 (by rw [i_lt]; have : (0 : Int32).toInt = 0 := rfl; omega) (by rw [i_cl]; exact vi_get (r3.2.2.2.2.2 _ e he).2.2.1) ?_
      refine xgo 80 rfl ?_
      try simp only [xlo0, List.map_cons, List.map_nil, List.length_cons, List.length_nil, xrs, xr0, Nat.reduceAdd, Nat.reduceSub, List.cons_append, List.nil_append, List.set_cons_zero, List.set_cons_succ, Option.toList_none, Option.toList_some, nI_1]
      refine xi_ret_i rfl rfl rfl ⟨by rw [hr], rfl⟩
  · rw [if_neg hin]
    refine xgo 80 rfl ?_
    try simp only [xlo0, List.map_cons, List.map_nil, List.length_cons, List.length_nil, xrs, xr0, Nat.reduceAdd, Nat.reduceSub, List.cons_append, List.nil_append, List.set_cons_zero, List.set_cons_succ, Option.toList_none, Option.toList_some, nI_1]
    refine xi_ifeq rfl (fun c1 => ?_) (fun c1 => ?_)
    · refine xgo 80 rfl ?_
      try simp only [xlo0, List.map_cons, List.map_nil, List.length_cons, List.length_nil, xrs, xr0, Nat.reduceAdd, Nat.reduceSub, List.cons_append, List.nil_append, List.set_cons_zero, List.set_cons_succ, Option.toList_none, Option.toList_some, nI_1]
      refine xi_ret_i rfl rfl rfl ⟨by rw [rby_out (by omega)]; rfl, rfl⟩
    · exact absurd rfl c1
theorem cpgs_get {G : xG} {c r : Nat} (h : r < 8) : (cpgs G c)[r]? = some (rf G (c + 9 + r)) := by
  rw [List.getElem?_map, List.getElem?_range h]
  rfl
set_option maxRecDepth 100000 in
set_option maxHeartbeats 8000000 in
theorem c_CT_byteAt {G : xG} {d c : Nat} {K : cV} {r i : Int32} {σ : xS} (h : cont G σ.1 c K) : xm G d mX2_byteAt [rf G c, .int r, .int i] σ (fun v σ' => v = some (.int (bat (rby K.2.2.2 r) i)) ∧ σ' = σ) := by
  obtain ⟨nn, ne, nx, sa, ks, ps, ln, pg, h0, h1, h2, h3, h4, h5, h6, h7, h8, hp, r1, r2, r3⟩ := h
  have hb := r3.1
  have hn : (nI K.2.2.2.length).toInt = K.2.2.2.length := i_n (by omega)
  have z : (0 : Int32).toInt = 0 := rfl
  refine xm_at 4 rfl (by decide) (Nat.le_of_ble_eq_true rfl) (by simp [Value.category]) tX2_byteAt_ok ?_
  try simp only [xlo0, List.map_cons, List.map_nil, List.length_cons, List.length_nil, xrs, xr0, Nat.reduceAdd, Nat.reduceSub, List.cons_append, List.nil_append, List.set_cons_zero, List.set_cons_succ, Option.toList_none, Option.toList_some, nI_1]
  refine xgo 80 rfl ?_
  try simp only [xlo0, List.map_cons, List.map_nil, List.length_cons, List.length_nil, xrs, xr0, Nat.reduceAdd, Nat.reduceSub, List.cons_append, List.nil_append, List.set_cons_zero, List.set_cons_succ, Option.toList_none, Option.toList_some, nI_1]
  refine xi_iflt rfl (fun c1 => ?_) (fun c1 => ?_)
  · rw [i_lt] at c1
    refine xgo 80 rfl ?_
    try simp only [xlo0, List.map_cons, List.map_nil, List.length_cons, List.length_nil, xrs, xr0, Nat.reduceAdd, Nat.reduceSub, List.cons_append, List.nil_append, List.set_cons_zero, List.set_cons_succ, Option.toList_none, Option.toList_some, nI_1]
    refine xi_ifeq rfl (fun c2 => ?_) (fun c2 => ?_)
    · refine xgo 80 rfl ?_
      try simp only [xlo0, List.map_cons, List.map_nil, List.length_cons, List.length_nil, xrs, xr0, Nat.reduceAdd, Nat.reduceSub, List.cons_append, List.nil_append, List.set_cons_zero, List.set_cons_succ, Option.toList_none, Option.toList_some, nI_1]
      refine xi_ret_i rfl rfl rfl ⟨by rw [rby_out (by omega), bat_nil], rfl⟩
    · exact absurd rfl c2
  rw [i_lt] at c1
  refine xgo 80 rfl ?_
  try simp only [xlo0, List.map_cons, List.map_nil, List.length_cons, List.length_nil, xrs, xr0, Nat.reduceAdd, Nat.reduceSub, List.cons_append, List.nil_append, List.set_cons_zero, List.set_cons_succ, Option.toList_none, Option.toList_some, nI_1]
  refine xg 2 rfl rfl rfl h0 rfl ?_
  refine xgo 80 rfl ?_
  try simp only [xlo0, List.map_cons, List.map_nil, List.length_cons, List.length_nil, xrs, xr0, Nat.reduceAdd, Nat.reduceSub, List.cons_append, List.nil_append, List.set_cons_zero, List.set_cons_succ, Option.toList_none, Option.toList_some, nI_1]
  refine xi_icmpge rfl (fun c2 => ?_) (fun c2 => ?_)
  · rw [i_le] at c2
    refine xgo 80 rfl ?_
    try simp only [xlo0, List.map_cons, List.map_nil, List.length_cons, List.length_nil, xrs, xr0, Nat.reduceAdd, Nat.reduceSub, List.cons_append, List.nil_append, List.set_cons_zero, List.set_cons_succ, Option.toList_none, Option.toList_some, nI_1]
    refine xi_ifeq rfl (fun c3 => ?_) (fun c3 => ?_)
    · refine xgo 80 rfl ?_
      try simp only [xlo0, List.map_cons, List.map_nil, List.length_cons, List.length_nil, xrs, xr0, Nat.reduceAdd, Nat.reduceSub, List.cons_append, List.nil_append, List.set_cons_zero, List.set_cons_succ, Option.toList_none, Option.toList_some, nI_1]
      refine xi_ret_i rfl rfl rfl ⟨by rw [rby_out (by omega), bat_nil], rfl⟩
    · exact absurd rfl c3
  rw [i_le] at c2
  obtain ⟨e, he⟩ := lt_get (l := K.2.2.2) (j := r.toInt.toNat) (by omega)
  have hr : rby K.2.2.2 r = e.2.2 := by
    unfold rby
    rw [if_neg (by omega), he]
  obtain ⟨a1, a2, a3, a4, a5⟩ := r3.2.2.2.2.2 _ e he
  rw [hr]
  refine xgo 80 rfl ?_
  try simp only [xlo0, List.map_cons, List.map_nil, List.length_cons, List.length_nil, xrs, xr0, Nat.reduceAdd, Nat.reduceSub, List.cons_append, List.nil_append, List.set_cons_zero, List.set_cons_succ, Option.toList_none, Option.toList_some, nI_1]
  refine xi_ifeq rfl (fun c3 => ?_) (fun c3 => ?_)
  · exact absurd c3 (by decide)
  refine xgo 80 rfl ?_
  try simp only [xlo0, List.map_cons, List.map_nil, List.length_cons, List.length_nil, xrs, xr0, Nat.reduceAdd, Nat.reduceSub, List.cons_append, List.nil_append, List.set_cons_zero, List.set_cons_succ, Option.toList_none, Option.toList_some, nI_1]
  refine xi_iflt rfl (fun c4 => ?_) (fun c4 => ?_)
  · rw [i_lt] at c4
    refine xgo 80 rfl ?_
    try simp only [xlo0, List.map_cons, List.map_nil, List.length_cons, List.length_nil, xrs, xr0, Nat.reduceAdd, Nat.reduceSub, List.cons_append, List.nil_append, List.set_cons_zero, List.set_cons_succ, Option.toList_none, Option.toList_some, nI_1]
    refine xi_ret_i rfl rfl rfl ⟨by rw [bat_out (by omega)], rfl⟩
  rw [i_lt] at c4
  refine xgo 80 rfl ?_
  try simp only [xlo0, List.map_cons, List.map_nil, List.length_cons, List.length_nil, xrs, xr0, Nat.reduceAdd, Nat.reduceSub, List.cons_append, List.nil_append, List.set_cons_zero, List.set_cons_succ, Option.toList_none, Option.toList_some, nI_1]
  refine xg 2 rfl rfl rfl h0 rfl ?_
  refine xgo 80 rfl ?_
  try simp only [xlo0, List.map_cons, List.map_nil, List.length_cons, List.length_nil, xrs, xr0, Nat.reduceAdd, Nat.reduceSub, List.cons_append, List.nil_append, List.set_cons_zero, List.set_cons_succ, Option.toList_none, Option.toList_some, nI_1]
  refine xi_iald rfl h7 (by rw [i_lt]; omega) (by rw [i_cl]; exact vi_get a3) ?_
  refine xgo 80 rfl ?_
  try simp only [xlo0, List.map_cons, List.map_nil, List.length_cons, List.length_nil, xrs, xr0, Nat.reduceAdd, Nat.reduceSub, List.cons_append, List.nil_append, List.set_cons_zero, List.set_cons_succ, Option.toList_none, Option.toList_some, nI_1]
  refine xi_icmpge rfl (fun c5 => ?_) (fun c5 => ?_)
  · rw [i_le, i_n (by omega)] at c5
    refine xgo 80 rfl ?_
    try simp only [xlo0, List.map_cons, List.map_nil, List.length_cons, List.length_nil, xrs, xr0, Nat.reduceAdd, Nat.reduceSub, List.cons_append, List.nil_append, List.set_cons_zero, List.set_cons_succ, Option.toList_none, Option.toList_some, nI_1]
    refine xi_ret_i rfl rfl rfl ⟨by rw [bat_out (by omega)], rfl⟩
  rw [i_le, i_n (by omega)] at c5
  have hi : i.toInt.toNat < e.2.2.length := by omega
  have hg : (pg r.toInt.toNat)[i.toNatClampNeg]? = some (bat e.2.2 i) := by
    rw [i_cl, take_get a5 hi, bat, if_neg (by omega), List.getD_eq_getElem?_getD, List.getElem?_eq_getElem hi]
    rfl
  have hr8 : r.toInt.toNat < 8 := by omega
  refine xgo 80 rfl ?_
  try simp only [xlo0, List.map_cons, List.map_nil, List.length_cons, List.length_nil, xrs, xr0, Nat.reduceAdd, Nat.reduceSub, List.cons_append, List.nil_append, List.set_cons_zero, List.set_cons_succ, Option.toList_none, Option.toList_some, nI_1]
  refine xg 2 rfl rfl rfl h0 rfl ?_
  refine xgo 80 rfl ?_
  try simp only [xlo0, List.map_cons, List.map_nil, List.length_cons, List.length_nil, xrs, xr0, Nat.reduceAdd, Nat.reduceSub, List.cons_append, List.nil_append, List.set_cons_zero, List.set_cons_succ, Option.toList_none, Option.toList_some, nI_1]
  refine xi_aald rfl h8 (by decide) (by rw [i_lt]; omega) (by rw [i_cl]; exact cpgs_get hr8) ?_
  refine xgo 80 rfl ?_
  try simp only [xlo0, List.map_cons, List.map_nil, List.length_cons, List.length_nil, xrs, xr0, Nat.reduceAdd, Nat.reduceSub, List.cons_append, List.nil_append, List.set_cons_zero, List.set_cons_succ, Option.toList_none, Option.toList_some, nI_1]
  refine xi_iald rfl (hp _ hr8) (by rw [i_lt]; omega) (vi_get hg) ?_
  refine xgo 80 rfl ?_
  try simp only [xlo0, List.map_cons, List.map_nil, List.length_cons, List.length_nil, xrs, xr0, Nat.reduceAdd, Nat.reduceSub, List.cons_append, List.nil_append, List.set_cons_zero, List.set_cons_succ, Option.toList_none, Option.toList_some, nI_1]
  refine xi_ret_i rfl rfl rfl ⟨rfl, rfl⟩
end
section
/-- row r with the bytes bs -/
def rset (rw : List (Int32 × Int32 × List Int32)) (r : Nat) (bs : List Int32) : List (Int32 × Int32 × List Int32) := match rw[r]? with
  | some e => rw.set r (e.1, e.2.1, bs)
  | none => rw
theorem rset_eq {rw : List (Int32 × Int32 × List Int32)} {r : Nat} {e : Int32 × Int32 × List Int32} (h : rw[r]? = some e) (bs : List Int32) : rset rw r bs = rw.set r (e.1, e.2.1, bs) := by unfold rset; rw [h]
theorem rset_len (rw : List (Int32 × Int32 × List Int32)) (r : Nat) (bs : List Int32) : (rset rw r bs).length = rw.length := by
  unfold rset
  split
  · rw [List.length_set]
  · rfl
theorem rset_get {rw : List (Int32 × Int32 × List Int32)} {r : Nat} {e : Int32 × Int32 × List Int32} (h : rw[r]? = some e) (bs : List Int32) : (rset rw r bs)[r]? = some (e.1, e.2.1, bs) := by
  rw [rset_eq h, List.getElem?_set_self (List.getElem?_eq_some_iff.mp h).1]
theorem rset_ne {rw : List (Int32 × Int32 × List Int32)} {r i : Nat} (bs : List Int32) (h : i ≠ r) : (rset rw r bs)[i]? = rw[i]? := by
  unfold rset
  split
  · rw [List.getElem?_set_ne (Ne.symm h)]
  · rfl
theorem rset_set {rw : List (Int32 × Int32 × List Int32)} {r : Nat} (bs bs' : List Int32) : rset (rset rw r bs) r bs' = rset rw r bs' := by
  cases h : rw[r]? with
  | none => simp [rset, h]
  | some e =>
    rw [rset_eq (rset_get h bs), rset_eq h, rset_eq h, List.set_set]
theorem rset_self {rw : List (Int32 × Int32 × List Int32)} {r : Nat} {e : Int32 × Int32 × List Int32} (h : rw[r]? = some e) : rset rw r e.2.2 = rw := by
  rw [rset_eq h]
  apply List.ext_getElem?
  intro i
  by_cases hi : r = i
  · subst hi
    rw [List.getElem?_set_self (List.getElem?_eq_some_iff.mp h).1, h]
  · rw [List.getElem?_set_ne hi]
set_option maxRecDepth 100000 in
set_option maxHeartbeats 8000000 in
theorem c_CT_putByte {G : xG} {d c r : Nat} {K : cV} {b : Int32} {e : Int32 × Int32 × List Int32} {σ : xS} (h : cont G σ.1 c K) (he : K.2.2.2[r]? = some e) (hl : e.2.2.length < 120) : xm G (d + 1) mX2_putByte [rf G c, .int (nI r), .int b] σ (fun v σ' => v = none ∧ cont G σ'.1 c (K.1, K.2.1, K.2.2.1, rset K.2.2.2 r (e.2.2 ++ [b])) ∧ frz σ.1 σ'.1 c 17 ∧ σ'.2 = σ.2) := by
  obtain ⟨nn, ne, nx, sa, ks, ps, ln, pg, h0, h1, h2, h3, h4, h5, h6, h7, h8, hp, r1, r2, r3⟩ := h
  obtain ⟨hb, l1, l2, l3, lp, hc⟩ := r3
  have hn : (nI K.2.2.2.length).toInt = K.2.2.2.length := i_n (by omega)
  have hrl : r < K.2.2.2.length := (List.getElem?_eq_some_iff.mp he).1
  have hr : (nI r).toInt = r := i_n (by omega)
  have hcl : (nI r).toNatClampNeg = r := nI_clamp (by omega)
  obtain ⟨a1, a2, a3, a4, a5⟩ := hc r e he
  have hcl2 : (nI e.2.2.length).toNatClampNeg = e.2.2.length := nI_clamp (by omega)
  have hr8 : r < 8 := by omega
  refine xm_at 3 rfl (by decide) (Nat.le_of_ble_eq_true rfl) (by simp [Value.category]) tX2_putByte_ok ?_
  try simp only [xlo0, List.map_cons, List.map_nil, List.length_cons, List.length_nil, xrs, xr0, Nat.reduceAdd, Nat.reduceSub, List.cons_append, List.nil_append, List.set_cons_zero, List.set_cons_succ, Option.toList_none, Option.toList_some, nI_1]
  refine xgo 80 rfl ?_
  try simp only [xlo0, List.map_cons, List.map_nil, List.length_cons, List.length_nil, xrs, xr0, Nat.reduceAdd, Nat.reduceSub, List.cons_append, List.nil_append, List.set_cons_zero, List.set_cons_succ, Option.toList_none, Option.toList_some, nI_1]
  refine xg 2 rfl rfl rfl h0 rfl ?_
  refine xgo 80 rfl ?_
  try simp only [xlo0, List.map_cons, List.map_nil, List.length_cons, List.length_nil, xrs, xr0, Nat.reduceAdd, Nat.reduceSub, List.cons_append, List.nil_append, List.set_cons_zero, List.set_cons_succ, Option.toList_none, Option.toList_some, nI_1]
  refine xcS 2 rfl rfl rfl c_isBelow rfl kX8_isBelow iX8_isBelow rfl rfl (Nat.le_of_ble_eq_true rfl) (fun v1 s1 q1 => ?_)
  obtain ⟨rfl, rfl⟩ := q1
  rw [if_pos (by omega)]
  refine xgo 80 rfl ?_
  try simp only [xlo0, List.map_cons, List.map_nil, List.length_cons, List.length_nil, xrs, xr0, Nat.reduceAdd, Nat.reduceSub, List.cons_append, List.nil_append, List.set_cons_zero, List.set_cons_succ, Option.toList_none, Option.toList_some, nI_1]
  refine xi_ifeq rfl (fun c1 => ?_) (fun c1 => ?_)
  · exact absurd c1 (by decide)
  refine xgo 80 rfl ?_
  try simp only [xlo0, List.map_cons, List.map_nil, List.length_cons, List.length_nil, xrs, xr0, Nat.reduceAdd, Nat.reduceSub, List.cons_append, List.nil_append, List.set_cons_zero, List.set_cons_succ, Option.toList_none, Option.toList_some, nI_1]
  refine xg 2 rfl rfl rfl h0 rfl ?_
  refine xgo 80 rfl ?_
  try simp only [xlo0, List.map_cons, List.map_nil, List.length_cons, List.length_nil, xrs, xr0, Nat.reduceAdd, Nat.reduceSub, List.cons_append, List.nil_append, List.set_cons_zero, List.set_cons_succ, Option.toList_none, Option.toList_some, nI_1]
  refine xi_iald rfl h7 (nI_pos (by omega)) (by rw [hcl]; exact vi_get a3) ?_
  refine xgo 80 rfl ?_
  try simp only [xlo0, List.map_cons, List.map_nil, List.length_cons, List.length_nil, xrs, xr0, Nat.reduceAdd, Nat.reduceSub, List.cons_append, List.nil_append, List.set_cons_zero, List.set_cons_succ, Option.toList_none, Option.toList_some, nI_1]
  refine xi_icmpge rfl (fun c2 => ?_) (fun c2 => ?_)
  · exact absurd c2 (by rw [i_le, i_n (by omega)]; have : (120 : Int32).toInt = 120 := rfl; omega)
  refine xgo 80 rfl ?_
  try simp only [xlo0, List.map_cons, List.map_nil, List.length_cons, List.length_nil, xrs, xr0, Nat.reduceAdd, Nat.reduceSub, List.cons_append, List.nil_append, List.set_cons_zero, List.set_cons_succ, Option.toList_none, Option.toList_some, nI_1]
  refine xg 2 rfl rfl rfl h0 rfl ?_
  refine xgo 80 rfl ?_
  try simp only [xlo0, List.map_cons, List.map_nil, List.length_cons, List.length_nil, xrs, xr0, Nat.reduceAdd, Nat.reduceSub, List.cons_append, List.nil_append, List.set_cons_zero, List.set_cons_succ, Option.toList_none, Option.toList_some, nI_1]
  refine xi_aald rfl h8 (by decide) (nI_pos (by omega)) (by rw [hcl]; exact cpgs_get hr8) ?_
  refine xgo 80 rfl ?_
  try simp only [xlo0, List.map_cons, List.map_nil, List.length_cons, List.length_nil, xrs, xr0, Nat.reduceAdd, Nat.reduceSub, List.cons_append, List.nil_append, List.set_cons_zero, List.set_cons_succ, Option.toList_none, Option.toList_some, nI_1]
  refine xg 2 rfl rfl rfl h0 rfl ?_
  refine xgo 80 rfl ?_
  try simp only [xlo0, List.map_cons, List.map_nil, List.length_cons, List.length_nil, xrs, xr0, Nat.reduceAdd, Nat.reduceSub, List.cons_append, List.nil_append, List.set_cons_zero, List.set_cons_succ, Option.toList_none, Option.toList_some, nI_1]
  refine xi_iald rfl h7 (nI_pos (by omega)) (by rw [hcl]; exact vi_get a3) ?_
  refine xgo 80 rfl ?_
  try simp only [xlo0, List.map_cons, List.map_nil, List.length_cons, List.length_nil, xrs, xr0, Nat.reduceAdd, Nat.reduceSub, List.cons_append, List.nil_append, List.set_cons_zero, List.set_cons_succ, Option.toList_none, Option.toList_some, nI_1]
  refine xsi rfl (hp r hr8) (nI_pos (by omega)) (by rw [hcl2, vi_len, lp]; omega) (fun s2 n2 f2 e2 => ?_)
  have h0 := (f2 _ (by omega)).trans h0
  have h1 := (f2 _ (by omega)).trans h1
  have h2 := (f2 _ (by omega)).trans h2
  have h3 := (f2 _ (by omega)).trans h3
  have h4 := (f2 _ (by omega)).trans h4
  have h5 := (f2 _ (by omega)).trans h5
  have h6 := (f2 _ (by omega)).trans h6
  have h7 := (f2 _ (by omega)).trans h7
  have h8 := (f2 _ (by omega)).trans h8
  refine xgo 80 rfl ?_
  try simp only [xlo0, List.map_cons, List.map_nil, List.length_cons, List.length_nil, xrs, xr0, Nat.reduceAdd, Nat.reduceSub, List.cons_append, List.nil_append, List.set_cons_zero, List.set_cons_succ, Option.toList_none, Option.toList_some, nI_1]
  refine xg 2 rfl rfl rfl h0 rfl ?_
  refine xgo 80 rfl ?_
  try simp only [xlo0, List.map_cons, List.map_nil, List.length_cons, List.length_nil, xrs, xr0, Nat.reduceAdd, Nat.reduceSub, List.cons_append, List.nil_append, List.set_cons_zero, List.set_cons_succ, Option.toList_none, Option.toList_some, nI_1]
  refine xi_iald rfl h7 (nI_pos (by omega)) (by rw [hcl]; exact vi_get a3) ?_
  refine xgo 80 rfl ?_
  try simp only [xlo0, List.map_cons, List.map_nil, List.length_cons, List.length_nil, xrs, xr0, Nat.reduceAdd, Nat.reduceSub, List.cons_append, List.nil_append, List.set_cons_zero, List.set_cons_succ, Option.toList_none, Option.toList_some, nI_1]
  refine xsi rfl h7 (nI_pos (by omega)) (by rw [hcl, vi_len]; omega) (fun s3 n3 f3 e3 => ?_)
  have h0 := (f3 _ (by omega)).trans h0
  have h1 := (f3 _ (by omega)).trans h1
  have h2 := (f3 _ (by omega)).trans h2
  have h3 := (f3 _ (by omega)).trans h3
  have h4 := (f3 _ (by omega)).trans h4
  have h5 := (f3 _ (by omega)).trans h5
  have h6 := (f3 _ (by omega)).trans h6
  have n2 := (f3 _ (by omega)).trans n2
  have h8 := (f3 _ (by omega)).trans h8
  have hp : ∀ q, q < 8 → s3.1 (c + 9 + q) = some (11, vi (if q = r then (pg r).set e.2.2.length b else pg q)) := fun q hq => by
    by_cases hqr : q = r
    · subst hqr
      rw [if_pos rfl, n2, hcl2, vi_set]
    · rw [if_neg hqr, f3 _ (by omega), f2 _ (by omega)]
      exact hp q hq
  refine xgo 80 rfl ?_
  try simp only [xlo0, List.map_cons, List.map_nil, List.length_cons, List.length_nil, xrs, xr0, Nat.reduceAdd, Nat.reduceSub, List.cons_append, List.nil_append, List.set_cons_zero, List.set_cons_succ, Option.toList_none, Option.toList_some, nI_1]
  refine xi_ret_v rfl rfl ⟨rfl, ⟨nn, ne, nx, sa, ks, ps, ln.set r (nI (e.2.2.length + 1)), fun q => if q = r then (pg r).set e.2.2.length b else pg q, ?_, h1, h2, h3, h4, h5, h6, by rw [n3, hcl, vi_set], h8, hp, r1, r2, ⟨by rw [rset_len]; omega, l1, l2, by simp [l3], fun q => ?_, fun i e' he' => ?_⟩⟩, fun q hq => by rw [f3 q (by omega), f2 q (by omega)], by rw [e3, e2]⟩
  · rw [h0]
    simp [cobj, rset_len]
  · dsimp only
    split
    · rw [List.length_set]; exact lp r
    · exact lp q
  · by_cases hir : i = r
    · subst hir
      rw [rset_get he] at he'
      cases he'
      refine ⟨a1, a2, by rw [set_eq (by omega)]; simp, by simp; omega, ?_⟩
      dsimp only
      rw [if_pos rfl]
      exact take_snoc a5 (by rw [lp]; omega)
    · rw [rset_ne _ hir] at he'
      obtain ⟨b1, b2, b3, b4, b5⟩ := hc i e' he'
      refine ⟨b1, b2, by rw [List.getElem?_set_ne (Ne.symm hir)]; exact b3, b4, ?_⟩
      dsimp only
      rw [if_neg hir]
      exact b5
/-- n bytes more, each as the one back ahead of it -/
def rep (back : Nat) : Nat → List Int32 → List Int32
  | 0, bs => bs
  | n + 1, bs => rep back n (bs ++ [bs.getD (bs.length - back) (-1)])
theorem rep_len (back : Nat) : ∀ (n : Nat) (bs : List Int32), (rep back n bs).length = bs.length + n
  | 0, bs => rfl
  | n + 1, bs => by
    show (rep back n _).length = _
    rw [rep_len back n]
    simp
    omega
theorem nI_subN {a b : Nat} (h : b ≤ a) : nI a - nI b = nI (a - b) := pk_sub h
set_option maxRecDepth 100000 in
set_option maxHeartbeats 8000000 in
theorem l_CT_putCopies {G : xG} {d c r back m : Nat} {K : cV} {e : Int32 × Int32 × List Int32} {σ : xS} (he : K.2.2.2[r]? = some e) (hr : r < 1000) (hm : m < 1000) (hb : 1 ≤ back) : ∀ (n j : Nat) (bs : List Int32) (s : xS), j + n = m → back ≤ bs.length → bs.length + n ≤ 120 → cont G s.1 c (K.1, K.2.1, K.2.2.1, rset K.2.2.2 r bs) → frz σ.1 s.1 c 17 → s.2 = σ.2 → rep back n bs = rep back m e.2.2 →
    xw G (d + 2) mX2_putCopies 3 [some (rf G c), some (.int (nI r)), some (.int (nI back)), some (.int (nI m)), some (.int (nI j))] [] s (fun v σ' => v = none ∧ cont G σ'.1 c (K.1, K.2.1, K.2.2.1, rset K.2.2.2 r (rep back m e.2.2)) ∧ frz σ.1 σ'.1 c 17 ∧ σ'.2 = σ.2) := by
  intro n
  induction n with
  | zero =>
    intro j bs s hj hbl hl h hf h2 hrep
    have : j = m := by omega
    subst this
    refine xgo 80 rfl ?_
    try simp only [xlo0, List.map_cons, List.map_nil, List.length_cons, List.length_nil, xrs, xr0, Nat.reduceAdd, Nat.reduceSub, List.cons_append, List.nil_append, List.set_cons_zero, List.set_cons_succ, Option.toList_none, Option.toList_some, nI_1]
    refine xi_icmpge rfl (fun c1 => ?_) (fun c1 => ?_)
    · refine xgo 80 rfl ?_
      try simp only [xlo0, List.map_cons, List.map_nil, List.length_cons, List.length_nil, xrs, xr0, Nat.reduceAdd, Nat.reduceSub, List.cons_append, List.nil_append, List.set_cons_zero, List.set_cons_succ, Option.toList_none, Option.toList_some, nI_1]
      refine xi_ret_v rfl rfl ⟨rfl, by rw [← hrep]; exact h, hf, h2⟩
    · exact absurd (i_le.mpr (Int.le_refl _)) c1
  | succ n ih =>
    intro j bs s hj hbl hl h hf h2 hrep
    have hg := rset_get he bs
    refine xgo 80 rfl ?_
    try simp only [xlo0, List.map_cons, List.map_nil, List.length_cons, List.length_nil, xrs, xr0, Nat.reduceAdd, Nat.reduceSub, List.cons_append, List.nil_append, List.set_cons_zero, List.set_cons_succ, Option.toList_none, Option.toList_some, nI_1]
    refine xi_icmpge rfl (fun c1 => ?_) (fun c1 => ?_)
    · exact absurd c1 (by rw [i_le, i_n (by omega), i_n (by omega)]; omega)
    refine xgo 80 rfl ?_
    try simp only [xlo0, List.map_cons, List.map_nil, List.length_cons, List.length_nil, xrs, xr0, Nat.reduceAdd, Nat.reduceSub, List.cons_append, List.nil_append, List.set_cons_zero, List.set_cons_succ, Option.toList_none, Option.toList_some, nI_1]
    refine xcV 2 rfl rfl rfl (c_CT_pageLength h) rfl kX2_pageLength iX2_pageLength h.obj ⟨_, rfl, rfl⟩ rfl rfl (Nat.le_of_ble_eq_true rfl) (fun v1 s1 q1 => ?_)
    obtain ⟨rfl, rfl⟩ := q1
    rw [rby_n hg (by omega)]
    refine xgo 80 rfl ?_
    try simp only [xlo0, List.map_cons, List.map_nil, List.length_cons, List.length_nil, xrs, xr0, Nat.reduceAdd, Nat.reduceSub, List.cons_append, List.nil_append, List.set_cons_zero, List.set_cons_succ, Option.toList_none, Option.toList_some, nI_1]
    refine xcV 2 rfl rfl rfl (c_CT_byteAt h) rfl kX2_byteAt iX2_byteAt h.obj ⟨_, rfl, rfl⟩ rfl rfl (Nat.le_of_ble_eq_true rfl) (fun v2 s2 q2 => ?_)
    obtain ⟨rfl, rfl⟩ := q2
    rw [rby_n hg (by omega), nI_subN hbl, bat_n (by omega)]
    refine xgo 80 rfl ?_
    try simp only [xlo0, List.map_cons, List.map_nil, List.length_cons, List.length_nil, xrs, xr0, Nat.reduceAdd, Nat.reduceSub, List.cons_append, List.nil_append, List.set_cons_zero, List.set_cons_succ, Option.toList_none, Option.toList_some, nI_1]
    refine xcV 2 rfl rfl rfl (c_CT_putByte h hg (by show bs.length < 120; omega)) rfl kX2_putByte iX2_putByte h.obj ⟨_, rfl, rfl⟩ rfl rfl (Nat.le_of_ble_eq_true rfl) (fun v3 s3 q3 => ?_)
    obtain ⟨rfl, p1, p2, p3⟩ := q3
    refine xto 3 80 rfl ?_
    try simp only [xlo0, List.map_cons, List.map_nil, List.length_cons, List.length_nil, xrs, xr0, Nat.reduceAdd, Nat.reduceSub, List.cons_append, List.nil_append, List.set_cons_zero, List.set_cons_succ, Option.toList_none, Option.toList_some, nI_1]
    refine ih (j + 1) (bs ++ [bs.getD (bs.length - back) (-1)]) s3 (by omega) (by simp; omega) (by simp; omega) ?_ (hf.tr p2) (p3.trans h2) hrep
    rw [rset_set] at p1
    exact p1
set_option maxRecDepth 100000 in
set_option maxHeartbeats 8000000 in
theorem c_CT_putCopies {G : xG} {d c r back m : Nat} {K : cV} {e : Int32 × Int32 × List Int32} {σ : xS} (h : cont G σ.1 c K) (he : K.2.2.2[r]? = some e) (hb : 1 ≤ back) (hb2 : back ≤ e.2.2.length) (hl : e.2.2.length + m ≤ 120) : xm G (d + 2) mX2_putCopies [rf G c, .int (nI r), .int (nI back), .int (nI m)] σ (fun v σ' => v = none ∧ cont G σ'.1 c (K.1, K.2.1, K.2.2.1, rset K.2.2.2 r (rep back m e.2.2)) ∧ frz σ.1 σ'.1 c 17 ∧ σ'.2 = σ.2) := by
  have hbn := h.bnd
  have hrl : r < K.2.2.2.length := (List.getElem?_eq_some_iff.mp he).1
  refine xm_at 5 rfl (by decide) (Nat.le_of_ble_eq_true rfl) (by simp [Value.category]) tX2_putCopies_ok ?_
  try simp only [xlo0, List.map_cons, List.map_nil, List.length_cons, List.length_nil, xrs, xr0, Nat.reduceAdd, Nat.reduceSub, List.cons_append, List.nil_append, List.set_cons_zero, List.set_cons_succ, Option.toList_none, Option.toList_some, nI_1]
  refine xto 3 80 rfl ?_
  try simp only [xlo0, List.map_cons, List.map_nil, List.length_cons, List.length_nil, xrs, xr0, Nat.reduceAdd, Nat.reduceSub, List.cons_append, List.nil_append, List.set_cons_zero, List.set_cons_succ, Option.toList_none, Option.toList_some, nI_1]
  exact l_CT_putCopies he (by omega) (by omega) hb m 0 e.2.2 σ (by omega) hb2 hl (by rw [rset_self he]; exact h) frz.rf rfl rfl
set_option maxRecDepth 100000 in
set_option maxHeartbeats 8000000 in
theorem l_CT_putLike {G : xG} {d c r m : Nat} {b : Int32} {K : cV} {e : Int32 × Int32 × List Int32} {σ : xS} (he : K.2.2.2[r]? = some e) (hm : m < 1000) : ∀ (n j : Nat) (bs : List Int32) (s : xS), j + n = m → bs.length + n ≤ 120 → cont G s.1 c (K.1, K.2.1, K.2.2.1, rset K.2.2.2 r bs) → frz σ.1 s.1 c 17 → s.2 = σ.2 → bs = e.2.2 ++ List.replicate j b →
    xw G (d + 2) mX2_putLike 3 [some (rf G c), some (.int (nI r)), some (.int b), some (.int (nI m)), some (.int (nI j))] [] s (fun v σ' => v = none ∧ cont G σ'.1 c (K.1, K.2.1, K.2.2.1, rset K.2.2.2 r (e.2.2 ++ List.replicate m b)) ∧ frz σ.1 σ'.1 c 17 ∧ σ'.2 = σ.2) := by
  intro n
  induction n with
  | zero =>
    intro j bs s hj hl h hf h2 hrep
    have : j = m := by omega
    subst this
    refine xgo 80 rfl ?_
    try simp only [xlo0, List.map_cons, List.map_nil, List.length_cons, List.length_nil, xrs, xr0, Nat.reduceAdd, Nat.reduceSub, List.cons_append, List.nil_append, List.set_cons_zero, List.set_cons_succ, Option.toList_none, Option.toList_some, nI_1]
    refine xi_icmpge rfl (fun c1 => ?_) (fun c1 => ?_)
    · refine xgo 80 rfl ?_
      try simp only [xlo0, List.map_cons, List.map_nil, List.length_cons, List.length_nil, xrs, xr0, Nat.reduceAdd, Nat.reduceSub, List.cons_append, List.nil_append, List.set_cons_zero, List.set_cons_succ, Option.toList_none, Option.toList_some, nI_1]
      refine xi_ret_v rfl rfl ⟨rfl, by rw [← hrep]; exact h, hf, h2⟩
    · exact absurd (i_le.mpr (Int.le_refl _)) c1
  | succ n ih =>
    intro j bs s hj hl h hf h2 hrep
    have hg := rset_get he bs
    refine xgo 80 rfl ?_
    try simp only [xlo0, List.map_cons, List.map_nil, List.length_cons, List.length_nil, xrs, xr0, Nat.reduceAdd, Nat.reduceSub, List.cons_append, List.nil_append, List.set_cons_zero, List.set_cons_succ, Option.toList_none, Option.toList_some, nI_1]
    refine xi_icmpge rfl (fun c1 => ?_) (fun c1 => ?_)
    · exact absurd c1 (by rw [i_le, i_n (by omega), i_n (by omega)]; omega)
    refine xgo 80 rfl ?_
    try simp only [xlo0, List.map_cons, List.map_nil, List.length_cons, List.length_nil, xrs, xr0, Nat.reduceAdd, Nat.reduceSub, List.cons_append, List.nil_append, List.set_cons_zero, List.set_cons_succ, Option.toList_none, Option.toList_some, nI_1]
    refine xcV 2 rfl rfl rfl (c_CT_putByte h hg (by show bs.length < 120; omega)) rfl kX2_putByte iX2_putByte h.obj ⟨_, rfl, rfl⟩ rfl rfl (Nat.le_of_ble_eq_true rfl) (fun v3 s3 q3 => ?_)
    obtain ⟨rfl, p1, p2, p3⟩ := q3
    refine xto 3 80 rfl ?_
    try simp only [xlo0, List.map_cons, List.map_nil, List.length_cons, List.length_nil, xrs, xr0, Nat.reduceAdd, Nat.reduceSub, List.cons_append, List.nil_append, List.set_cons_zero, List.set_cons_succ, Option.toList_none, Option.toList_some, nI_1]
    refine ih (j + 1) (bs ++ [b]) s3 (by omega) (by simp; omega) ?_ (hf.tr p2) (p3.trans h2) (by rw [hrep, List.append_assoc, List.replicate_succ'])
    rw [rset_set] at p1
    exact p1
set_option maxRecDepth 100000 in
set_option maxHeartbeats 8000000 in
theorem c_CT_putLike {G : xG} {d c r m : Nat} {b : Int32} {K : cV} {e : Int32 × Int32 × List Int32} {σ : xS} (h : cont G σ.1 c K) (he : K.2.2.2[r]? = some e) (hl : e.2.2.length + m ≤ 120) : xm G (d + 2) mX2_putLike [rf G c, .int (nI r), .int b, .int (nI m)] σ (fun v σ' => v = none ∧ cont G σ'.1 c (K.1, K.2.1, K.2.2.1, rset K.2.2.2 r (e.2.2 ++ List.replicate m b)) ∧ frz σ.1 σ'.1 c 17 ∧ σ'.2 = σ.2) := by
  refine xm_at 5 rfl (by decide) (Nat.le_of_ble_eq_true rfl) (by simp [Value.category]) tX2_putLike_ok ?_
  try simp only [xlo0, List.map_cons, List.map_nil, List.length_cons, List.length_nil, xrs, xr0, Nat.reduceAdd, Nat.reduceSub, List.cons_append, List.nil_append, List.set_cons_zero, List.set_cons_succ, Option.toList_none, Option.toList_some, nI_1]
  refine xto 3 80 rfl ?_
  try simp only [xlo0, List.map_cons, List.map_nil, List.length_cons, List.length_nil, xrs, xr0, Nat.reduceAdd, Nat.reduceSub, List.cons_append, List.nil_append, List.set_cons_zero, List.set_cons_succ, Option.toList_none, Option.toList_some, nI_1]
  exact l_CT_putLike he (by omega) m 0 e.2.2 σ (by omega) hl (by rw [rset_self he]; exact h) frz.rf rfl (by simp)
end
section
/-! ===== new int[n][k] ===== -/
def xmulti (G : xG) (σ : xS) (N K : Nat) : xS := (fun q => if q = σ.2.1 then some (16, (List.range N).map (fun r => rf G (σ.2.1 + 1 + r))) else if σ.2.1 < q ∧ q < σ.2.1 + 1 + N then some (11, List.replicate K (.int 0)) else σ.1 q, σ.2.1 + 1 + N, σ.2.2 + N + N * K)
theorem xouter (c : ClassId) (N h0 : Nat) : ∀ i : Nat, Jvm.Free.Multi.outerC c N h0 i = arrV c N (fun j => if j < i then .ref (h0 + 1 + j) else .null)
  | 0 => by
    show ({ cls := c, slots := Array.replicate N .null, vm := .none } : Cell) = _
    rw [arrV_new]
    refine congrArg (arrV c N) (funext fun j => ?_)
    simp
  | i + 1 => by
    show (Jvm.Free.Multi.outerC c N h0 i).setSlot i (.ref (h0 + 1 + i)) = _
    rw [xouter c N h0 i, arrV_store]
    refine congrArg (arrV c N) (funext fun j => ?_)
    by_cases e : j = i
    · subst e
      simp [updV]
    · by_cases h : j < i
      · simp [updV, e, h, Nat.lt_succ_of_lt h]
      · simp [updV, e, h, show ¬ j < i + 1 by omega]
theorem arrV_congr {c : ClassId} {N : Nat} {f g : Nat → Value} (h : ∀ j, j < N → f j = g j) : arrV c N f = arrV c N g := by
  unfold arrV
  congr 1
  apply Array.ext
  · simp
  · intro i h1 h2
    simp only [Array.getElem_ofFn]
    exact h i (by simpa using h1)
theorem xi_multi {G : xG} {d : Nat} {M : xM} {pc : Nat} {lo : xL} {st : List Value} {σ : xS} {Q : Option Value → xS → Prop} {idx : Nat} {n k : Int32} {N K : Nat} (hd : M.2.2.2.2.lookup pc = some ((197, idx, 0), 4)) (hw : Cond.classLink M.1.cls idx "[[I" ∈ xGw) (hn : ¬ n < 0) (hk : ¬ k < 0) (hN : n.toNatClampNeg = N) (hKk : k.toNatClampNeg = K) (hb1 : N ≤ 1000000) (hb2 : K ≤ 1000000)
    (kk : xw G d M (pc + 4) lo (rf G σ.2.1 :: st) (xmulti G σ N K) Q) : xw G d M pc lo (.int k :: .int n :: st) σ Q := by
  obtain ⟨v, σ', hq, h1, h2, kc⟩ := kk
  have h1' : σ.2.1 + 1 + N ≤ σ'.2.1 := h1
  have h2' : σ.2.2 + N + N * K ≤ σ'.2.2 := h2
  subst hN
  subst hKk
  refine ⟨v, σ', hq, by omega, by omega, fun n0 s0 p e R s m args below meth c H locs ls C a1 a2 hr hf hl => ?_⟩
  obtain ⟨hx, hb, hmL, hre, hlks, ho, hnm, hts, hK, hR1, hR2, hRc, hRs, ht, hN0⟩ := id C
  intro T hT X
  obtain ⟨vm₁, cA, comp, -, fA, fC, -, -, X', step⟩ := X.multianewarray2F hx (ty := .int) ho (hts _ hw) hK.2.2.2 (hts _ a_11) (g := F0 m pc ls (.int k :: .int n :: st)) rfl (by rw [hb]; exact (ht _ (xlook hd)).1) rfl hn hk (by omega) (by show _ * 4 ≤ _; omega) (by omega) rfl rfl (by omega) (by omega)
  have hA := (hK.1.2 6 (G.2.1 16, xtag 16) rfl).2
  have hI := (hK.1.2 1 (G.2.1 11, xtag 11) rfl).2
  have ecA : cA = G.2.1 16 := Option.some.inj (fA.symm.trans hA)
  have ecI : comp = G.2.1 11 := Option.some.inj (fC.symm.trans hI)
  subst ecA
  subst ecI
  generalize hF : Jvm.Free.Multi.fill (T.setVm vm₁) (G.2.1 16) (G.2.1 11) n.toNatClampNeg k.toNatClampNeg (defaultValue .int) n.toNatClampNeg = F at X' step
  have hTh : (T.setVm vm₁).heap = H := hT
  obtain ⟨f1, f2, -, -⟩ := Jvm.Free.Multi.fill_facts (T.setVm vm₁) (G.2.1 16) (G.2.1 11) n.toNatClampNeg k.toNatClampNeg (defaultValue .int) n.toNatClampNeg
  rw [hF, hTh] at f1 f2
  have hold : ∀ x : Nat, x < H.size → F.heap[x]? = H[x]? := fun x hx => by
    have := Jvm.Free.Multi.fill_old (T.setVm vm₁) (G.2.1 16) (G.2.1 11) n.toNatClampNeg k.toNatClampNeg (defaultValue .int) (a := x) (by rw [hTh]; exact hx) n.toNatClampNeg
    rw [hF, hTh] at this
    exact this
  have hrow : ∀ j : Nat, j < n.toNatClampNeg → F.heap[H.size + 1 + j]? = some (xar G 11 (List.replicate k.toNatClampNeg (.int 0))) := fun j hj => by
    have := Jvm.Free.Multi.fill_inner (T.setVm vm₁) (G.2.1 16) (G.2.1 11) n.toNatClampNeg k.toNatClampNeg (defaultValue .int) n.toNatClampNeg j hj
    rw [hF, hTh] at this
    rw [this]
    simp [Jvm.Free.Multi.innerC, xar, defaultValue]
  have hsz := hr.1
  have hout : F.heap[G.2.2.2 + σ.2.1]? = some (xar G 16 ((List.range n.toNatClampNeg).map (fun r => rf G (σ.2.1 + 1 + r)))) := by
    rw [← hsz, f2, xouter, xar_arrV, List.length_map, List.length_range]
    refine congrArg some (arrV_congr fun j hj => ?_)
    rw [if_pos hj]
    simp only [vp_V, List.getD_eq_getElem?_getD, List.getElem?_map, List.getElem?_range hj]
    show Value.ref (H.size + 1 + j) = Value.ref (G.2.2.2 + (σ.2.1 + 1 + j))
    have e9 : H.size + 1 + j = G.2.2.2 + (σ.2.1 + 1 + j) := by omega
    rw [e9]
  have hrel : xrel G (xmulti G σ n.toNatClampNeg k.toNatClampNeg) F.heap := by
    refine ⟨by rw [f1, hsz]; show _ = G.2.2.2 + (σ.2.1 + 1 + _); omega, fun q c' hc' => ?_⟩
    have hc2 : (if q = σ.2.1 then some (16, (List.range n.toNatClampNeg).map (fun r => rf G (σ.2.1 + 1 + r))) else if σ.2.1 < q ∧ q < σ.2.1 + 1 + n.toNatClampNeg then some (11, List.replicate k.toNatClampNeg (.int 0)) else σ.1 q) = some c' := hc'
    by_cases e1 : q = σ.2.1
    · rw [if_pos e1] at hc2
      cases hc2
      rw [e1]
      exact Or.inr ⟨by show 10 ≤ 16; omega, by show 16 ≤ 16; omega, hout⟩
    · rw [if_neg e1] at hc2
      by_cases e2 : σ.2.1 < q ∧ q < σ.2.1 + 1 + n.toNatClampNeg
      · rw [if_pos e2] at hc2
        cases hc2
        refine Or.inr ⟨by show 10 ≤ 11; omega, by show 11 ≤ 16; omega, ?_⟩
        have := hrow (q - σ.2.1 - 1) (by omega)
        rw [hsz, show G.2.2.2 + σ.2.1 + 1 + (q - σ.2.1 - 1) = G.2.2.2 + q by omega] at this
        exact this
      · rw [if_neg e2] at hc2
        exact (hr.2 q c' hc2).kept (hold _ (hr.2 q c' hc2).lt)
  have hfr : xfr G s F.heap locs := ⟨fun q hq => (hold q (by rw [hsz]; omega)).trans (hf.1 q hq), hf.2⟩
  obtain ⟨t, b1, b2⟩ := kc n0 s0 p e R s m args below meth c F.heap locs ls C (show n0 ≤ σ.2.1 + 1 + _ by omega) (show s0 ≤ σ.2.2 + _ + _ by omega) hrel hfr hl F rfl (by
    have e1 : (xmulti G σ n.toNatClampNeg k.toNatClampNeg).2.1 - n0 = σ.2.1 - n0 + 1 + n.toNatClampNeg := by show σ.2.1 + 1 + _ - n0 = _; omega
    have e2 : (xmulti G σ n.toNatClampNeg k.toNatClampNeg).2.2 - s0 = σ.2.2 - s0 + n.toNatClampNeg + n.toNatClampNeg * k.toNatClampNeg := by show σ.2.2 + _ + _ - s0 = _; omega
    rw [e1, e2]
    exact X')
  refine ⟨t, step t ?_, b2⟩
  have e : T.heap.size = G.2.2.2 + σ.2.1 := by rw [hT, hsz]
  rw [e]
  exact b1
section X10
variable {G : xG} {d : Nat} {M : xM} {pc : Nat} {lo : xL} {st : List Value} {σ : xS} {Q : Option Value → xS → Prop}
theorem xna {k t ta : Nat} {n : Int32} {N : Nat} {atype : ArrayType} (hk : σ.2.1 = k) (hd : M.2.2.2.2.lookup pc = some ((188, ta, 0), 2)) (hins : xins pc (188, ta, 0) = .newarray atype) (h1 : 10 ≤ t) (h2 : t ≤ 12) (hty : newarray.typeOf atype = xtag t) (hw : Cond.arrayClass (xtag t) ∈ xGw) (hn : ¬ n < 0) (hN : n.toNatClampNeg = N) (hb1 : N ≤ 1000000)
    (kk : ∀ σ1 : xS, σ1.1 k = some (t, List.replicate N (.int 0)) → (∀ q, q ≠ k → σ1.1 q = σ.1 q) → σ1.2.1 = k + 1 → σ1.2.2 = σ.2.2 + N → xw G d M (pc + 2) lo (rf G k :: st) σ1 Q) : xw G d M pc lo (.int n :: st) σ Q := by
  subst hk
  exact xi_newa hd hins h1 h2 hty hw hn hN hb1 (kk _ (if_pos rfl) (fun q hq => if_neg hq) rfl rfl)
theorem xnb {k t idx : Nat} {n : Int32} {N : Nat} {C : String} (hk : σ.2.1 = k) (hd : M.2.2.2.2.lookup pc = some ((189, idx, 0), 3)) (h1 : 13 ≤ t) (h2 : t ≤ 15) (hty : xtag t = .object C) (hC : C ∈ ["PackPost$Book", "PackPost$ByteRow", "PackPost$Entry"]) (hw : Cond.classLink M.1.cls idx C ∈ xGw) (hn : ¬ n < 0) (hN : n.toNatClampNeg = N) (hb1 : N ≤ 1000000)
    (kk : ∀ σ1 : xS, σ1.1 k = some (t, List.replicate N .null) → (∀ q, q ≠ k → σ1.1 q = σ.1 q) → σ1.2.1 = k + 1 → σ1.2.2 = σ.2.2 + N → xw G d M (pc + 3) lo (rf G k :: st) σ1 Q) : xw G d M pc lo (.int n :: st) σ Q := by
  subst hk
  exact xi_anewa hd h1 h2 hty hC hw hn hN hb1 (kk _ (if_pos rfl) (fun q hq => if_neg hq) rfl rfl)
theorem xnn {k idx ci : Nat} (hk : σ.2.1 = k) (hd : M.2.2.2.2.lookup pc = some ((187, idx, 0), 3)) (hf : xnl M.1.cls idx ci)
    (kk : ∀ σ1 : xS, σ1.1 k = some (ci, xdef ci) → (∀ q, q ≠ k → σ1.1 q = σ.1 q) → σ1.2.1 = k + 1 → σ1.2.2 = σ.2.2 + xN ci → xw G d M (pc + 3) lo (rf G k :: st) σ1 Q) : xw G d M pc lo st σ Q := by
  subst hk
  exact xi_new hd hf (kk _ (if_pos rfl) (fun q hq => if_neg hq) rfl rfl)
theorem xnm {c idx : Nat} {n k : Int32} {N K : Nat} (hc : σ.2.1 = c) (hd : M.2.2.2.2.lookup pc = some ((197, idx, 0), 4)) (hw : Cond.classLink M.1.cls idx "[[I" ∈ xGw) (hn : ¬ n < 0) (hk : ¬ k < 0) (hN : n.toNatClampNeg = N) (hKk : k.toNatClampNeg = K) (hb1 : N ≤ 1000000) (hb2 : K ≤ 1000000)
    (kk : ∀ σ1 : xS, σ1.1 c = some (16, (List.range N).map (fun r => rf G (c + 1 + r))) → (∀ r, r < N → σ1.1 (c + 1 + r) = some (11, List.replicate K (.int 0))) → (∀ q, (q < c ∨ c + 1 + N ≤ q) → σ1.1 q = σ.1 q) → σ1.2.1 = c + 1 + N → σ1.2.2 = σ.2.2 + N + N * K → xw G d M (pc + 4) lo (rf G c :: st) σ1 Q) : xw G d M pc lo (.int k :: .int n :: st) σ Q := by
  subst hc
  refine xi_multi hd hw hn hk hN hKk hb1 hb2 (kk _ (if_pos rfl) (fun r hr => ?_) (fun q hq => ?_) rfl rfl)
  · exact (if_neg (by omega)).trans (if_pos (by omega))
  · exact (if_neg (by omega)).trans (if_neg (by omega))
end X10
/-- a new Content -/
def cnew : cV := ((0, 0, 0, 0), [], [], [])
set_option maxRecDepth 100000 in
set_option maxHeartbeats 8000000 in
theorem c_CT_init {G : xG} {d c : Nat} {σ : xS} (h : σ.1 c = some (2, xdef 2)) (hc : σ.2.1 = c + 1) : xm G (d + 1) mX2_init [rf G c] σ (fun v σ' => v = none ∧ cont G σ'.1 c cnew ∧ (∀ q, (q < c ∨ c + 17 ≤ q) → σ'.1 q = σ.1 q) ∧ σ'.2.1 = c + 17 ∧ σ'.2.2 = σ.2.2 + 1008) := by
  refine xm_at 1 rfl (by decide) (Nat.le_of_ble_eq_true rfl) (by simp [Value.category]) tX2_init_ok ?_
  try simp only [xlo0, List.map_cons, List.map_nil, List.length_cons, List.length_nil, xrs, xr0, Nat.reduceAdd, Nat.reduceSub, List.cons_append, List.nil_append, List.set_cons_zero, List.set_cons_succ, Option.toList_none, Option.toList_some, nI_1]
  refine xgo 80 rfl ?_
  try simp only [xlo0, List.map_cons, List.map_nil, List.length_cons, List.length_nil, xrs, xr0, Nat.reduceAdd, Nat.reduceSub, List.cons_append, List.nil_append, List.set_cons_zero, List.set_cons_succ, Option.toList_none, Option.toList_some, nI_1]
  refine xi_obj rfl oX2 (Nat.le_of_ble_eq_true rfl) ?_
  have hxd : xdef 2 = [.int 0, .int 0, .int 0, .int 0, .null, .null, .null, .int 0, .null, .int 0, .null, .null, .null, .null, .int 0] := rfl
  rw [hxd] at h
  refine xgo 80 rfl ?_
  try simp only [xlo0, List.map_cons, List.map_nil, List.length_cons, List.length_nil, xrs, xr0, Nat.reduceAdd, Nat.reduceSub, List.cons_append, List.nil_append, List.set_cons_zero, List.set_cons_succ, Option.toList_none, Option.toList_some, nI_1]
  refine xna (t := 11) (atype := .int) (N := 4) hc rfl rfl (by decide) (by decide) rfl a_11 (by decide) rfl (by decide) (fun s1 n1 f1 g1 k1 => ?_)
  have h := (f1 _ (by omega)).trans h
  refine xgo 80 rfl ?_
  try simp only [xlo0, List.map_cons, List.map_nil, List.length_cons, List.length_nil, xrs, xr0, Nat.reduceAdd, Nat.reduceSub, List.cons_append, List.nil_append, List.set_cons_zero, List.set_cons_succ, Option.toList_none, Option.toList_some, nI_1]
  refine xpF rfl fX2_9F rfl h rfl rfl rfl (fun s2 n2 f2 e2 => ?_)
  have n1 := (f2 _ (by omega)).trans n1
  refine xgo 80 rfl ?_
  try simp only [xlo0, List.map_cons, List.map_nil, List.length_cons, List.length_nil, xrs, xr0, Nat.reduceAdd, Nat.reduceSub, List.cons_append, List.nil_append, List.set_cons_zero, List.set_cons_succ, Option.toList_none, Option.toList_some, nI_1]
  refine xna (t := 11) (atype := .int) (N := 4) ((congrArg Prod.fst e2).trans g1) rfl rfl (by decide) (by decide) rfl a_11 (by decide) rfl (by decide) (fun s3 n3 f3 g3 k3 => ?_)
  have n1 := (f3 _ (by omega)).trans n1
  have n2 := (f3 _ (by omega)).trans n2
  refine xgo 80 rfl ?_
  try simp only [xlo0, List.map_cons, List.map_nil, List.length_cons, List.length_nil, xrs, xr0, Nat.reduceAdd, Nat.reduceSub, List.cons_append, List.nil_append, List.set_cons_zero, List.set_cons_succ, Option.toList_none, Option.toList_some, nI_1]
  refine xpF rfl fX2_15F rfl n2 rfl rfl rfl (fun s4 n4 f4 e4 => ?_)
  have n1 := (f4 _ (by omega)).trans n1
  have n3 := (f4 _ (by omega)).trans n3
  refine xgo 80 rfl ?_
  try simp only [xlo0, List.map_cons, List.map_nil, List.length_cons, List.length_nil, xrs, xr0, Nat.reduceAdd, Nat.reduceSub, List.cons_append, List.nil_append, List.set_cons_zero, List.set_cons_succ, Option.toList_none, Option.toList_some, nI_1]
  refine xna (t := 12) (atype := .boolean) (N := 4) ((congrArg Prod.fst e4).trans g3) rfl rfl (by decide) (by decide) rfl a_12 (by decide) rfl (by decide) (fun s5 n5 f5 g5 k5 => ?_)
  have n1 := (f5 _ (by omega)).trans n1
  have n3 := (f5 _ (by omega)).trans n3
  have n4 := (f5 _ (by omega)).trans n4
  refine xgo 80 rfl ?_
  try simp only [xlo0, List.map_cons, List.map_nil, List.length_cons, List.length_nil, xrs, xr0, Nat.reduceAdd, Nat.reduceSub, List.cons_append, List.nil_append, List.set_cons_zero, List.set_cons_succ, Option.toList_none, Option.toList_some, nI_1]
  refine xpF rfl fX2_18F rfl n4 rfl rfl rfl (fun s6 n6 f6 e6 => ?_)
  have n1 := (f6 _ (by omega)).trans n1
  have n3 := (f6 _ (by omega)).trans n3
  have n5 := (f6 _ (by omega)).trans n5
  refine xgo 80 rfl ?_
  try simp only [xlo0, List.map_cons, List.map_nil, List.length_cons, List.length_nil, xrs, xr0, Nat.reduceAdd, Nat.reduceSub, List.cons_append, List.nil_append, List.set_cons_zero, List.set_cons_succ, Option.toList_none, Option.toList_some, nI_1]
  refine xna (t := 11) (atype := .int) (N := 4) ((congrArg Prod.fst e6).trans g5) rfl rfl (by decide) (by decide) rfl a_11 (by decide) rfl (by decide) (fun s7 n7 f7 g7 k7 => ?_)
  have n1 := (f7 _ (by omega)).trans n1
  have n3 := (f7 _ (by omega)).trans n3
  have n5 := (f7 _ (by omega)).trans n5
  have n6 := (f7 _ (by omega)).trans n6
  refine xgo 80 rfl ?_
  try simp only [xlo0, List.map_cons, List.map_nil, List.length_cons, List.length_nil, xrs, xr0, Nat.reduceAdd, Nat.reduceSub, List.cons_append, List.nil_append, List.set_cons_zero, List.set_cons_succ, Option.toList_none, Option.toList_some, nI_1]
  refine xpF rfl fX2_22F rfl n6 rfl rfl rfl (fun s8 n8 f8 e8 => ?_)
  have n1 := (f8 _ (by omega)).trans n1
  have n3 := (f8 _ (by omega)).trans n3
  have n5 := (f8 _ (by omega)).trans n5
  have n7 := (f8 _ (by omega)).trans n7
  refine xgo 80 rfl ?_
  try simp only [xlo0, List.map_cons, List.map_nil, List.length_cons, List.length_nil, xrs, xr0, Nat.reduceAdd, Nat.reduceSub, List.cons_append, List.nil_append, List.set_cons_zero, List.set_cons_succ, Option.toList_none, Option.toList_some, nI_1]
  refine xna (t := 11) (atype := .int) (N := 8) ((congrArg Prod.fst e8).trans g7) rfl rfl (by decide) (by decide) rfl a_11 (by decide) rfl (by decide) (fun s9 n9 f9 g9 k9 => ?_)
  have n1 := (f9 _ (by omega)).trans n1
  have n3 := (f9 _ (by omega)).trans n3
  have n5 := (f9 _ (by omega)).trans n5
  have n7 := (f9 _ (by omega)).trans n7
  have n8 := (f9 _ (by omega)).trans n8
  refine xgo 80 rfl ?_
  try simp only [xlo0, List.map_cons, List.map_nil, List.length_cons, List.length_nil, xrs, xr0, Nat.reduceAdd, Nat.reduceSub, List.cons_append, List.nil_append, List.set_cons_zero, List.set_cons_succ, Option.toList_none, Option.toList_some, nI_1]
  refine xpF rfl fX2_25F rfl n8 rfl rfl rfl (fun s10 n10 f10 e10 => ?_)
  have n1 := (f10 _ (by omega)).trans n1
  have n3 := (f10 _ (by omega)).trans n3
  have n5 := (f10 _ (by omega)).trans n5
  have n7 := (f10 _ (by omega)).trans n7
  have n9 := (f10 _ (by omega)).trans n9
  refine xgo 80 rfl ?_
  try simp only [xlo0, List.map_cons, List.map_nil, List.length_cons, List.length_nil, xrs, xr0, Nat.reduceAdd, Nat.reduceSub, List.cons_append, List.nil_append, List.set_cons_zero, List.set_cons_succ, Option.toList_none, Option.toList_some, nI_1]
  refine xna (t := 11) (atype := .int) (N := 8) ((congrArg Prod.fst e10).trans g9) rfl rfl (by decide) (by decide) rfl a_11 (by decide) rfl (by decide) (fun s11 n11 f11 g11 k11 => ?_)
  have n1 := (f11 _ (by omega)).trans n1
  have n3 := (f11 _ (by omega)).trans n3
  have n5 := (f11 _ (by omega)).trans n5
  have n7 := (f11 _ (by omega)).trans n7
  have n9 := (f11 _ (by omega)).trans n9
  have n10 := (f11 _ (by omega)).trans n10
  refine xgo 80 rfl ?_
  try simp only [xlo0, List.map_cons, List.map_nil, List.length_cons, List.length_nil, xrs, xr0, Nat.reduceAdd, Nat.reduceSub, List.cons_append, List.nil_append, List.set_cons_zero, List.set_cons_succ, Option.toList_none, Option.toList_some, nI_1]
  refine xpF rfl fX2_28F rfl n10 rfl rfl rfl (fun s12 n12 f12 e12 => ?_)
  have n1 := (f12 _ (by omega)).trans n1
  have n3 := (f12 _ (by omega)).trans n3
  have n5 := (f12 _ (by omega)).trans n5
  have n7 := (f12 _ (by omega)).trans n7
  have n9 := (f12 _ (by omega)).trans n9
  have n11 := (f12 _ (by omega)).trans n11
  refine xgo 80 rfl ?_
  try simp only [xlo0, List.map_cons, List.map_nil, List.length_cons, List.length_nil, xrs, xr0, Nat.reduceAdd, Nat.reduceSub, List.cons_append, List.nil_append, List.set_cons_zero, List.set_cons_succ, Option.toList_none, Option.toList_some, nI_1]
  refine xna (t := 11) (atype := .int) (N := 8) ((congrArg Prod.fst e12).trans g11) rfl rfl (by decide) (by decide) rfl a_11 (by decide) rfl (by decide) (fun s13 n13 f13 g13 k13 => ?_)
  have n1 := (f13 _ (by omega)).trans n1
  have n3 := (f13 _ (by omega)).trans n3
  have n5 := (f13 _ (by omega)).trans n5
  have n7 := (f13 _ (by omega)).trans n7
  have n9 := (f13 _ (by omega)).trans n9
  have n11 := (f13 _ (by omega)).trans n11
  have n12 := (f13 _ (by omega)).trans n12
  refine xgo 80 rfl ?_
  try simp only [xlo0, List.map_cons, List.map_nil, List.length_cons, List.length_nil, xrs, xr0, Nat.reduceAdd, Nat.reduceSub, List.cons_append, List.nil_append, List.set_cons_zero, List.set_cons_succ, Option.toList_none, Option.toList_some, nI_1]
  refine xpF rfl fX2_31F rfl n12 rfl rfl rfl (fun s14 n14 f14 e14 => ?_)
  have n1 := (f14 _ (by omega)).trans n1
  have n3 := (f14 _ (by omega)).trans n3
  have n5 := (f14 _ (by omega)).trans n5
  have n7 := (f14 _ (by omega)).trans n7
  have n9 := (f14 _ (by omega)).trans n9
  have n11 := (f14 _ (by omega)).trans n11
  have n13 := (f14 _ (by omega)).trans n13
  refine xgo 80 rfl ?_
  try simp only [xlo0, List.map_cons, List.map_nil, List.length_cons, List.length_nil, xrs, xr0, Nat.reduceAdd, Nat.reduceSub, List.cons_append, List.nil_append, List.set_cons_zero, List.set_cons_succ, Option.toList_none, Option.toList_some, nI_1]
  refine xnm (N := 8) (K := 120) ((congrArg Prod.fst e14).trans g13) rfl cX2_34 (by decide) (by decide) rfl rfl (by decide) (by decide) (fun s15 n15 m15 f15 g15 k15 => ?_)
  have n14 := (f15 _ (by omega)).trans n14
  have n1 := (f15 _ (by omega)).trans n1
  have n3 := (f15 _ (by omega)).trans n3
  have n5 := (f15 _ (by omega)).trans n5
  have n7 := (f15 _ (by omega)).trans n7
  have n9 := (f15 _ (by omega)).trans n9
  have n11 := (f15 _ (by omega)).trans n11
  have n13 := (f15 _ (by omega)).trans n13
  refine xgo 80 rfl ?_
  try simp only [xlo0, List.map_cons, List.map_nil, List.length_cons, List.length_nil, xrs, xr0, Nat.reduceAdd, Nat.reduceSub, List.cons_append, List.nil_append, List.set_cons_zero, List.set_cons_succ, Option.toList_none, Option.toList_some, nI_1]
  refine xpF rfl fX2_36F rfl n14 rfl rfl rfl (fun s16 n16 f16 e16 => ?_)
  have n1 := (f16 _ (by omega)).trans n1
  have n3 := (f16 _ (by omega)).trans n3
  have n5 := (f16 _ (by omega)).trans n5
  have n7 := (f16 _ (by omega)).trans n7
  have n9 := (f16 _ (by omega)).trans n9
  have n11 := (f16 _ (by omega)).trans n11
  have n13 := (f16 _ (by omega)).trans n13
  have n15 := (f16 _ (by omega)).trans n15
  have m15 := fun r (hr : r < 8) => (f16 _ (by omega)).trans (m15 r hr)
  have hfr : ∀ q, (q < c ∨ c + 17 ≤ q) → s16.1 q = σ.1 q := fun q hq => by
    rw [f16 q (by omega), f15 q (by omega), f14 q (by omega), f13 q (by omega), f12 q (by omega), f11 q (by omega), f10 q (by omega), f9 q (by omega), f8 q (by omega), f7 q (by omega), f6 q (by omega), f5 q (by omega), f4 q (by omega), f3 q (by omega), f2 q (by omega), f1 q (by omega)]
  have hz : ∀ n, List.replicate n (Value.int 0) = vi (List.replicate n 0) := fun n => (List.map_replicate).symm
  have e2' := congrArg Prod.snd e2
  have e4' := congrArg Prod.snd e4
  have e6' := congrArg Prod.snd e6
  have e8' := congrArg Prod.snd e8
  have e10' := congrArg Prod.snd e10
  have e12' := congrArg Prod.snd e12
  have e14' := congrArg Prod.snd e14
  have e16' := congrArg Prod.snd e16
  have e16'' := congrArg Prod.fst e16
  refine xgo 80 rfl ?_
  try simp only [xlo0, List.map_cons, List.map_nil, List.length_cons, List.length_nil, xrs, xr0, Nat.reduceAdd, Nat.reduceSub, List.cons_append, List.nil_append, List.set_cons_zero, List.set_cons_succ, Option.toList_none, Option.toList_some, nI_1]
  refine xi_ret_v rfl rfl ⟨rfl, ⟨List.replicate 4 0, List.replicate 4 0, List.replicate 4 0, List.replicate 4 0, List.replicate 8 0, List.replicate 8 0, List.replicate 8 0, fun _ => List.replicate 120 0, n16, by rw [← hz]; exact n1, by rw [← hz]; exact n3, by rw [← hz]; exact n5, by rw [← hz]; exact n7, by rw [← hz]; exact n9, by rw [← hz]; exact n11, by rw [← hz]; exact n13, n15, fun r hr => by rw [← hz]; exact m15 r hr, ⟨by decide, rfl, rfl, rfl, fun i e h => by simp [cnew] at h⟩, ⟨by decide, rfl, fun i e h => by simp [cnew] at h⟩, ⟨by decide, rfl, rfl, rfl, fun _ => rfl, fun i e h => by simp [cnew] at h⟩⟩, hfr, by omega, by omega⟩
end
section
set_option maxRecDepth 100000 in
set_option maxHeartbeats 8000000 in
theorem c_BR_part {G : xG} {d a cap i e : Nat} {bs : List Int32} {σ : xS} (h : brr G σ.1 a cap bs) (hi : i ≤ e) (he : e ≤ bs.length) (ha : a + 2 ≤ σ.2.1) : xm G (d + 2) mX1_part [rf G a, .int (nI i), .int (nI e)] σ (fun v σ' => v = some (rf G σ.2.1) ∧ brr G σ'.1 σ.2.1 (e - i) ((bs.drop i).take (e - i)) ∧ (∀ q, q < σ.2.1 → σ'.1 q = σ.1 q) ∧ σ'.2.1 = σ.2.1 + 2 ∧ σ'.2.2 = σ.2.2 + (2 + (e - i))) := by
  have hl := h.len
  obtain ⟨k, hk⟩ : ∃ k, σ.2.1 = k := ⟨_, rfl⟩
  rw [hk] at ha ⊢
  refine xm_at 4 rfl (by decide) (Nat.le_of_ble_eq_true rfl) (by simp [Value.category]) tX1_part_ok ?_
  try simp only [xlo0, List.map_cons, List.map_nil, List.length_cons, List.length_nil, xrs, xr0, Nat.reduceAdd, Nat.reduceSub, List.cons_append, List.nil_append, List.set_cons_zero, List.set_cons_succ, Option.toList_none, Option.toList_some, nI_1]
  refine xgo 80 rfl ?_
  try simp only [xlo0, List.map_cons, List.map_nil, List.length_cons, List.length_nil, xrs, xr0, Nat.reduceAdd, Nat.reduceSub, List.cons_append, List.nil_append, List.set_cons_zero, List.set_cons_succ, Option.toList_none, Option.toList_some, nI_1]
  refine xnn hk rfl nX1_16 (fun s1 n1 f1 g1 k1 => ?_)
  refine xgo 80 rfl ?_
  try simp only [xlo0, List.map_cons, List.map_nil, List.length_cons, List.length_nil, xrs, xr0, Nat.reduceAdd, Nat.reduceSub, List.cons_append, List.nil_append, List.set_cons_zero, List.set_cons_succ, Option.toList_none, Option.toList_some, nI_1]
  rw [nI_subN hi]
  have hr : (nI (e - i)).toInt = ((e - i : Nat) : Int) := i_n (by omega)
  refine xgo 80 rfl ?_
  try simp only [xlo0, List.map_cons, List.map_nil, List.length_cons, List.length_nil, xrs, xr0, Nat.reduceAdd, Nat.reduceSub, List.cons_append, List.nil_append, List.set_cons_zero, List.set_cons_succ, Option.toList_none, Option.toList_some, nI_1]
  refine xcI 1 rfl rfl rfl (c_BR_init (a := k) (fs := [.null]) (room := nI (e - i)) n1 (by omega) (by omega) (by omega)) rfl kX1_init iX1_init rfl rfl rfl rfl (Nat.le_of_ble_eq_true rfl) (fun v2 s2 q2 => ?_)
  obtain ⟨rfl, p1, p2, p3, p4, p5⟩ := q2
  rw [g1] at p1 p2 p3
  rw [g1] at p4
  have hrn : (nI (e - i)).toInt.toNat = e - i := by omega
  rw [hrn] at p2 p5
  have hk2 : xN 1 = 2 := rfl
  have hb : brr G s2.1 k (e - i) [] := ⟨List.replicate (e - i) 0, p1, by rw [p2]; simp [vi], by simp, by simp, by simp, by omega⟩
  have hfr : ∀ q, q < k → s2.1 q = σ.1 q := fun q hq => by rw [p3 q (by omega) (by omega), f1 q (by omega)]
  have h2 : brr G s2.1 a cap bs := by
    obtain ⟨xs, b1, b2, b3⟩ := h
    exact ⟨xs, by rw [hfr _ (by omega)]; exact b1, by rw [hfr _ (by omega)]; exact b2, b3⟩
  refine xgo 80 rfl ?_
  try simp only [xlo0, List.map_cons, List.map_nil, List.length_cons, List.length_nil, xrs, xr0, Nat.reduceAdd, Nat.reduceSub, List.cons_append, List.nil_append, List.set_cons_zero, List.set_cons_succ, Option.toList_none, Option.toList_some, nI_1]
  refine xcV 1 rfl rfl rfl (c_BR_pushRange hb h2 (by omega) hi he (by simp)) rfl kX1_pushRange iX1_pushRange hb.obj ⟨_, rfl, rfl⟩ rfl rfl (Nat.le_of_ble_eq_true rfl) (fun v3 s3 q3 => ?_)
  obtain ⟨rfl, r1, r2, r3⟩ := q3
  have e31 : s3.2.1 = s2.2.1 := congrArg Prod.fst r3
  have e32 : s3.2.2 = s2.2.2 := congrArg Prod.snd r3
  refine xgo 80 rfl ?_
  try simp only [xlo0, List.map_cons, List.map_nil, List.length_cons, List.length_nil, xrs, xr0, Nat.reduceAdd, Nat.reduceSub, List.cons_append, List.nil_append, List.set_cons_zero, List.set_cons_succ, Option.toList_none, Option.toList_some, nI_1]
  refine xi_ret_a rfl rfl (Or.inl ⟨_, rfl⟩) (Or.inr ⟨_, rfl⟩) ⟨rfl, by simpa using r1, fun q hq => by rw [r2 q (by omega), hfr q hq], by omega, by omega⟩
/-! ===== Book ===== -/
def oref (G : xG) (o : Option Nat) : Value := match o with
  | some k => rf G k
  | none => .null
/-- parts that came: where they lie, what they hold -/
def bkt (G : xG) (h : Nat → Option xC) (tk : List (Option Nat)) (P : List (Option (List Int32))) : Prop := tk.length = 88 ∧ P.length = 88 ∧ ∀ i, i < 88 → (tk[i]? = some none ∧ P[i]? = some none) ∨ ∃ k bs, tk[i]? = some (some k) ∧ P[i]? = some (some bs) ∧ brr G h k bs.length bs
/-- a Book at b -/
def bk (G : xG) (h : Nat → Option xC) (b : Nat) (w c n : Int32) (tk : List (Option Nat)) (P : List (Option (List Int32))) : Prop := h b = some (0, [rf G (b + 1), .int w, .int c, .int n]) ∧ h (b + 1) = some (14, tk.map (oref G)) ∧ bkt G h tk P
theorem bkt.keep {G : xG} {h h' : Nat → Option xC} {tk : List (Option Nat)} {P : List (Option (List Int32))} (H : bkt G h tk P) (hk : ∀ k, some k ∈ tk → h' k = h k ∧ h' (k + 1) = h (k + 1)) : bkt G h' tk P := by
  obtain ⟨h1, h2, h3⟩ := H
  refine ⟨h1, h2, fun i hi => ?_⟩
  rcases h3 i hi with h | ⟨k, bs, a1, a2, xs, b1, b2, b3⟩
  · exact Or.inl h
  · obtain ⟨c1, c2⟩ := hk k (List.mem_of_getElem? a1)
    exact Or.inr ⟨k, bs, a1, a2, xs, by rw [c1]; exact b1, by rw [c2]; exact b2, b3⟩
theorem tk_get {G : xG} {tk : List (Option Nat)} {i : Nat} {o : Option Nat} (h : tk[i]? = some o) : (tk.map (oref G))[i]? = some (oref G o) := by rw [List.getElem?_map, h]; rfl
set_option maxRecDepth 100000 in
set_option maxHeartbeats 8000000 in
theorem c_BK_init {G : xG} {d b : Nat} {σ : xS} (h : σ.1 b = some (0, xdef 0)) (hb : σ.2.1 = b + 1) : xm G (d + 1) mX0_init [rf G b] σ (fun v σ' => v = none ∧ bk G σ'.1 b 0 0 0 (List.replicate 88 none) (List.replicate 88 none) ∧ (∀ q, (q < b ∨ b + 2 ≤ q) → σ'.1 q = σ.1 q) ∧ σ'.2.1 = b + 2 ∧ σ'.2.2 = σ.2.2 + 88) := by
  have hxd : xdef 0 = [.null, .int 0, .int 0, .int 0] := rfl
  rw [hxd] at h
  refine xm_at 1 rfl (by decide) (Nat.le_of_ble_eq_true rfl) (by simp [Value.category]) tX0_init_ok ?_
  try simp only [xlo0, List.map_cons, List.map_nil, List.length_cons, List.length_nil, xrs, xr0, Nat.reduceAdd, Nat.reduceSub, List.cons_append, List.nil_append, List.set_cons_zero, List.set_cons_succ, Option.toList_none, Option.toList_some, nI_1]
  refine xgo 80 rfl ?_
  try simp only [xlo0, List.map_cons, List.map_nil, List.length_cons, List.length_nil, xrs, xr0, Nat.reduceAdd, Nat.reduceSub, List.cons_append, List.nil_append, List.set_cons_zero, List.set_cons_succ, Option.toList_none, Option.toList_some, nI_1]
  refine xi_obj rfl oX0 (Nat.le_of_ble_eq_true rfl) ?_
  refine xgo 80 rfl ?_
  try simp only [xlo0, List.map_cons, List.map_nil, List.length_cons, List.length_nil, xrs, xr0, Nat.reduceAdd, Nat.reduceSub, List.cons_append, List.nil_append, List.set_cons_zero, List.set_cons_succ, Option.toList_none, Option.toList_some, nI_1]
  refine xnb (t := 14) (N := 88) hb rfl (by decide) (by decide) rfl (by decide) cX0_9 (by decide) rfl (by decide) (fun s1 n1 f1 g1 k1 => ?_)
  have h := (f1 _ (by omega)).trans h
  refine xgo 80 rfl ?_
  try simp only [xlo0, List.map_cons, List.map_nil, List.length_cons, List.length_nil, xrs, xr0, Nat.reduceAdd, Nat.reduceSub, List.cons_append, List.nil_append, List.set_cons_zero, List.set_cons_succ, Option.toList_none, Option.toList_some, nI_1]
  refine xpF rfl fX0_11F rfl h rfl rfl rfl (fun s2 n2 f2 e2 => ?_)
  have n1 := (f2 _ (by omega)).trans n1
  have e21 : s2.2.1 = s1.2.1 := congrArg Prod.fst e2
  have e22 : s2.2.2 = s1.2.2 := congrArg Prod.snd e2
  refine xgo 80 rfl ?_
  try simp only [xlo0, List.map_cons, List.map_nil, List.length_cons, List.length_nil, xrs, xr0, Nat.reduceAdd, Nat.reduceSub, List.cons_append, List.nil_append, List.set_cons_zero, List.set_cons_succ, Option.toList_none, Option.toList_some, nI_1]
  refine xi_ret_v rfl rfl ⟨rfl, ⟨n2, by rw [n1, List.map_replicate]; rfl, ⟨List.length_replicate, List.length_replicate, fun i hi => Or.inl ⟨by rw [List.getElem?_replicate, if_pos hi], by rw [List.getElem?_replicate, if_pos hi]⟩⟩⟩, fun q hq => by rw [f2 q (by omega), f1 q (by omega)], by omega, by omega⟩
/-- has part i come? -/
def phas (P : List (Option (List Int32))) (i : Int32) : Bool := decide (0 ≤ i.toInt ∧ i.toInt < 88) && (P.getD i.toInt.toNat none).isSome
set_option maxRecDepth 100000 in
set_option maxHeartbeats 8000000 in
theorem c_BK_hasPart {G : xG} {d b : Nat} {w c n i : Int32} {tk : List (Option Nat)} {P : List (Option (List Int32))} {σ : xS} (h : bk G σ.1 b w c n tk P) : xm G (d + 1) mX0_hasPart [rf G b, .int i] σ (fun v σ' => v = some (.int (bI (phas P i))) ∧ σ' = σ) := by
  obtain ⟨h1, h2, h3, h4, h5⟩ := h
  have z88 : (88 : Int32).toInt = 88 := rfl
  have z0 : (0 : Int32).toInt = 0 := rfl
  refine xm_at 2 rfl (by decide) (Nat.le_of_ble_eq_true rfl) (by simp [Value.category]) tX0_hasPart_ok ?_
  try simp only [xlo0, List.map_cons, List.map_nil, List.length_cons, List.length_nil, xrs, xr0, Nat.reduceAdd, Nat.reduceSub, List.cons_append, List.nil_append, List.set_cons_zero, List.set_cons_succ, Option.toList_none, Option.toList_some, nI_1]
  refine xgo 80 rfl ?_
  try simp only [xlo0, List.map_cons, List.map_nil, List.length_cons, List.length_nil, xrs, xr0, Nat.reduceAdd, Nat.reduceSub, List.cons_append, List.nil_append, List.set_cons_zero, List.set_cons_succ, Option.toList_none, Option.toList_some, nI_1]
  refine xcS 0 rfl rfl rfl c_isBelow rfl kX8_isBelow iX8_isBelow rfl rfl (Nat.le_of_ble_eq_true rfl) (fun v1 s1 q1 => ?_)
  obtain ⟨rfl, rfl⟩ := q1
  by_cases hin : 0 ≤ i.toInt ∧ i.toInt < 88
  · rw [if_pos (by rw [z88]; exact hin)]
    refine xgo 80 rfl ?_
    try simp only [xlo0, List.map_cons, List.map_nil, List.length_cons, List.length_nil, xrs, xr0, Nat.reduceAdd, Nat.reduceSub, List.cons_append, List.nil_append, List.set_cons_zero, List.set_cons_succ, Option.toList_none, Option.toList_some, nI_1]
    refine xi_ifeq rfl (fun c1 => ?_) (fun c1 => ?_)
    · exact absurd c1 (by decide)
    refine xgo 80 rfl ?_
    try simp only [xlo0, List.map_cons, List.map_nil, List.length_cons, List.length_nil, xrs, xr0, Nat.reduceAdd, Nat.reduceSub, List.cons_append, List.nil_append, List.set_cons_zero, List.set_cons_succ, Option.toList_none, Option.toList_some, nI_1]
    refine xg 0 rfl rfl rfl h1 rfl ?_
    rcases h5 i.toInt.toNat (by omega) with ⟨a1, a2⟩ | ⟨k, bs, a1, a2, -⟩
    · refine xgo 80 rfl ?_
      try simp only [xlo0, List.map_cons, List.map_nil, List.length_cons, List.length_nil, xrs, xr0, Nat.reduceAdd, Nat.reduceSub, List.cons_append, List.nil_append, List.set_cons_zero, List.set_cons_succ, Option.toList_none, Option.toList_some, nI_1]
      refine xi_aald rfl h2 (by decide) (by rw [i_lt]; omega) (by rw [i_cl]; exact tk_get a1) ?_
      refine xgo 80 rfl ?_
      try simp only [xlo0, List.map_cons, List.map_nil, List.length_cons, List.length_nil, xrs, xr0, Nat.reduceAdd, Nat.reduceSub, List.cons_append, List.nil_append, List.set_cons_zero, List.set_cons_succ, Option.toList_none, Option.toList_some, nI_1]
      refine xi_ifnull_n rfl ?_
      refine xgo 80 rfl ?_
      try simp only [xlo0, List.map_cons, List.map_nil, List.length_cons, List.length_nil, xrs, xr0, Nat.reduceAdd, Nat.reduceSub, List.cons_append, List.nil_append, List.set_cons_zero, List.set_cons_succ, Option.toList_none, Option.toList_some, nI_1]
      refine xi_ret_i rfl rfl (by decide) ⟨by have a2' : P[i.toNatClampNeg]? = some none := a2; simp [phas, List.getD_eq_getElem?_getD, a2', bI], rfl⟩
    · refine xgo 80 rfl ?_
      try simp only [xlo0, List.map_cons, List.map_nil, List.length_cons, List.length_nil, xrs, xr0, Nat.reduceAdd, Nat.reduceSub, List.cons_append, List.nil_append, List.set_cons_zero, List.set_cons_succ, Option.toList_none, Option.toList_some, nI_1]
      refine xi_aald rfl h2 (by decide) (by rw [i_lt]; omega) (by rw [i_cl]; exact tk_get a1) ?_
      refine xgo 80 rfl ?_
      try simp only [xlo0, List.map_cons, List.map_nil, List.length_cons, List.length_nil, xrs, xr0, Nat.reduceAdd, Nat.reduceSub, List.cons_append, List.nil_append, List.set_cons_zero, List.set_cons_succ, Option.toList_none, Option.toList_some, nI_1]
      refine xi_ifnull_r rfl ?_
      refine xgo 80 rfl ?_
      try simp only [xlo0, List.map_cons, List.map_nil, List.length_cons, List.length_nil, xrs, xr0, Nat.reduceAdd, Nat.reduceSub, List.cons_append, List.nil_append, List.set_cons_zero, List.set_cons_succ, Option.toList_none, Option.toList_some, nI_1]
      refine xi_ret_i rfl rfl (by decide) ⟨by have a2' : P[i.toNatClampNeg]? = some (some bs) := a2; simp [phas, hin, List.getD_eq_getElem?_getD, a2', bI], rfl⟩
  · rw [if_neg (by rw [z88]; exact hin)]
    refine xgo 80 rfl ?_
    try simp only [xlo0, List.map_cons, List.map_nil, List.length_cons, List.length_nil, xrs, xr0, Nat.reduceAdd, Nat.reduceSub, List.cons_append, List.nil_append, List.set_cons_zero, List.set_cons_succ, Option.toList_none, Option.toList_some, nI_1]
    refine xi_ifeq rfl (fun c1 => ?_) (fun c1 => ?_)
    · refine xgo 80 rfl ?_
      try simp only [xlo0, List.map_cons, List.map_nil, List.length_cons, List.length_nil, xrs, xr0, Nat.reduceAdd, Nat.reduceSub, List.cons_append, List.nil_append, List.set_cons_zero, List.set_cons_succ, Option.toList_none, Option.toList_some, nI_1]
      refine xi_ret_i rfl rfl (by decide) ⟨by simp [phas, hin, bI], rfl⟩
    · exact absurd rfl c1
set_option maxRecDepth 100000 in
set_option maxHeartbeats 8000000 in
theorem c_BK_putPart {G : xG} {d b r rc i : Nat} {w c n mn : Int32} {tk : List (Option Nat)} {P : List (Option (List Int32))} {bs : List Int32} {σ : xS} (h : bk G σ.1 b w c n tk P) (hi : i < 88) (hP : P[i]? = some none) (hr : brr G σ.1 r rc bs) (hl : 8 < bs.length) (hl2 : bs.length ≤ 108) (hbx : b + 2 ≤ σ.2.1) (hrx : r + 2 ≤ σ.2.1) (hbr : b + 2 ≤ r ∨ r + 2 ≤ b) (htk : ∀ k, some k ∈ tk → b + 2 ≤ k ∧ k + 2 ≤ σ.2.1) :
    xm G (d + 3) mX0_putPart [rf G b, .int (nI i), .int mn, rf G r] σ (fun v σ' => v = none ∧ bk G σ'.1 b mn (c + 1) (n + (nI (bs.length - 8))) (tk.set i (some σ.2.1)) (P.set i (some ((bs.drop 4).take (bs.length - 8)))) ∧ (∀ q, q < σ.2.1 → q ≠ b → q ≠ b + 1 → σ'.1 q = σ.1 q) ∧ σ'.2.1 = σ.2.1 + 2 ∧ σ'.2.2 ≤ σ.2.2 + 110) := by
  obtain ⟨h1, h2, h3, h4, h5⟩ := h
  have z88 : (88 : Int32).toInt = 88 := rfl
  have hin : (nI i).toInt = i := i_n (by omega)
  have hcl : (nI i).toNatClampNeg = i := nI_clamp (by omega)
  have a1 : tk[i]? = some none := by
    rcases h5 i hi with ⟨a1, -⟩ | ⟨k, bs, a1, a2, -⟩
    · exact a1
    · rw [hP] at a2; cases a2
  refine xm_at 4 rfl (by decide) (Nat.le_of_ble_eq_true rfl) (by simp [Value.category]) tX0_putPart_ok ?_
  try simp only [xlo0, List.map_cons, List.map_nil, List.length_cons, List.length_nil, xrs, xr0, Nat.reduceAdd, Nat.reduceSub, List.cons_append, List.nil_append, List.set_cons_zero, List.set_cons_succ, Option.toList_none, Option.toList_some, nI_1]
  refine xgo 80 rfl ?_
  try simp only [xlo0, List.map_cons, List.map_nil, List.length_cons, List.length_nil, xrs, xr0, Nat.reduceAdd, Nat.reduceSub, List.cons_append, List.nil_append, List.set_cons_zero, List.set_cons_succ, Option.toList_none, Option.toList_some, nI_1]
  refine xcS 0 rfl rfl rfl c_isBelow rfl kX8_isBelow iX8_isBelow rfl rfl (Nat.le_of_ble_eq_true rfl) (fun v1 s1 q1 => ?_)
  obtain ⟨rfl, rfl⟩ := q1
  rw [if_pos (by rw [z88]; omega)]
  refine xgo 80 rfl ?_
  try simp only [xlo0, List.map_cons, List.map_nil, List.length_cons, List.length_nil, xrs, xr0, Nat.reduceAdd, Nat.reduceSub, List.cons_append, List.nil_append, List.set_cons_zero, List.set_cons_succ, Option.toList_none, Option.toList_some, nI_1]
  refine xi_ifeq rfl (fun c1 => ?_) (fun c1 => ?_)
  · exact absurd c1 (by decide)
  refine xgo 80 rfl ?_
  try simp only [xlo0, List.map_cons, List.map_nil, List.length_cons, List.length_nil, xrs, xr0, Nat.reduceAdd, Nat.reduceSub, List.cons_append, List.nil_append, List.set_cons_zero, List.set_cons_succ, Option.toList_none, Option.toList_some, nI_1]
  refine xg 0 rfl rfl rfl h1 rfl ?_
  refine xgo 80 rfl ?_
  try simp only [xlo0, List.map_cons, List.map_nil, List.length_cons, List.length_nil, xrs, xr0, Nat.reduceAdd, Nat.reduceSub, List.cons_append, List.nil_append, List.set_cons_zero, List.set_cons_succ, Option.toList_none, Option.toList_some, nI_1]
  refine xi_aald rfl h2 (by decide) (nI_pos (by omega)) (by rw [hcl]; exact tk_get a1) ?_
  refine xgo 80 rfl ?_
  try simp only [xlo0, List.map_cons, List.map_nil, List.length_cons, List.length_nil, xrs, xr0, Nat.reduceAdd, Nat.reduceSub, List.cons_append, List.nil_append, List.set_cons_zero, List.set_cons_succ, Option.toList_none, Option.toList_some, nI_1]
  refine xi_ifnonnull_n rfl ?_
  refine xgo 80 rfl ?_
  try simp only [xlo0, List.map_cons, List.map_nil, List.length_cons, List.length_nil, xrs, xr0, Nat.reduceAdd, Nat.reduceSub, List.cons_append, List.nil_append, List.set_cons_zero, List.set_cons_succ, Option.toList_none, Option.toList_some, nI_1]
  refine xg 0 rfl rfl rfl h1 rfl ?_
  refine xgo 80 rfl ?_
  try simp only [xlo0, List.map_cons, List.map_nil, List.length_cons, List.length_nil, xrs, xr0, Nat.reduceAdd, Nat.reduceSub, List.cons_append, List.nil_append, List.set_cons_zero, List.set_cons_succ, Option.toList_none, Option.toList_some, nI_1]
  refine xg 0 rfl rfl rfl hr.obj rfl ?_
  refine xgo 80 rfl ?_
  try simp only [xlo0, List.map_cons, List.map_nil, List.length_cons, List.length_nil, xrs, xr0, Nat.reduceAdd, Nat.reduceSub, List.cons_append, List.nil_append, List.set_cons_zero, List.set_cons_succ, Option.toList_none, Option.toList_some, nI_1]
  have u4 : nI bs.length - 4 = nI (bs.length - 4) := nI_subN (a := bs.length) (b := 4) (by omega)
  have u8 : nI bs.length - 8 = nI (bs.length - 8) := nI_subN (a := bs.length) (b := 8) (by omega)
  rw [u4]
  refine xgo 80 rfl ?_
  try simp only [xlo0, List.map_cons, List.map_nil, List.length_cons, List.length_nil, xrs, xr0, Nat.reduceAdd, Nat.reduceSub, List.cons_append, List.nil_append, List.set_cons_zero, List.set_cons_succ, Option.toList_none, Option.toList_some, nI_1]
  refine xcV 0 rfl rfl rfl (c_BR_part (i := 4) (e := bs.length - 4) hr (by omega) (by omega) hrx) rfl kX1_part iX1_part hr.obj ⟨_, rfl, rfl⟩ rfl rfl (Nat.le_of_ble_eq_true rfl) (fun v2 s2 q2 => ?_)
  obtain ⟨rfl, p1, p2, p3, p4⟩ := q2
  have u5 : bs.length - 4 - 4 = bs.length - 8 := by omega
  rw [u5] at p1 p4
  have h1 := (p2 _ (by omega)).trans h1
  have h2 := (p2 _ (by omega)).trans h2
  have hr2 := (p2 _ (by omega)).trans hr.obj
  refine xgo 80 rfl ?_
  try simp only [xlo0, List.map_cons, List.map_nil, List.length_cons, List.length_nil, xrs, xr0, Nat.reduceAdd, Nat.reduceSub, List.cons_append, List.nil_append, List.set_cons_zero, List.set_cons_succ, Option.toList_none, Option.toList_some, nI_1]
  refine xsa rfl h2 (by decide) (by decide) p1.obj (nI_pos (by omega)) (by rw [hcl, List.length_map, h3]; exact hi) (fun s3 n3 f3 e3 => ?_)
  have h1 := (f3 _ (by omega)).trans h1
  have hr2 := (f3 _ (by omega)).trans hr2
  refine xgo 80 rfl ?_
  try simp only [xlo0, List.map_cons, List.map_nil, List.length_cons, List.length_nil, xrs, xr0, Nat.reduceAdd, Nat.reduceSub, List.cons_append, List.nil_append, List.set_cons_zero, List.set_cons_succ, Option.toList_none, Option.toList_some, nI_1]
  refine xp 0 rfl rfl rfl h1 rfl rfl rfl (fun s4 n4 f4 e4 => ?_)
  have n3 := (f4 _ (by omega)).trans n3
  have hr2 := (f4 _ (by omega)).trans hr2
  refine xgo 80 rfl ?_
  try simp only [xlo0, List.map_cons, List.map_nil, List.length_cons, List.length_nil, xrs, xr0, Nat.reduceAdd, Nat.reduceSub, List.cons_append, List.nil_append, List.set_cons_zero, List.set_cons_succ, Option.toList_none, Option.toList_some, nI_1]
  refine xg 0 rfl rfl rfl n4 rfl ?_
  refine xgo 80 rfl ?_
  try simp only [xlo0, List.map_cons, List.map_nil, List.length_cons, List.length_nil, xrs, xr0, Nat.reduceAdd, Nat.reduceSub, List.cons_append, List.nil_append, List.set_cons_zero, List.set_cons_succ, Option.toList_none, Option.toList_some, nI_1]
  refine xp 0 rfl rfl rfl n4 rfl rfl rfl (fun s5 n5 f5 e5 => ?_)
  have n3 := (f5 _ (by omega)).trans n3
  have hr2 := (f5 _ (by omega)).trans hr2
  refine xgo 80 rfl ?_
  try simp only [xlo0, List.map_cons, List.map_nil, List.length_cons, List.length_nil, xrs, xr0, Nat.reduceAdd, Nat.reduceSub, List.cons_append, List.nil_append, List.set_cons_zero, List.set_cons_succ, Option.toList_none, Option.toList_some, nI_1]
  refine xg 0 rfl rfl rfl n5 rfl ?_
  refine xgo 80 rfl ?_
  try simp only [xlo0, List.map_cons, List.map_nil, List.length_cons, List.length_nil, xrs, xr0, Nat.reduceAdd, Nat.reduceSub, List.cons_append, List.nil_append, List.set_cons_zero, List.set_cons_succ, Option.toList_none, Option.toList_some, nI_1]
  refine xg 0 rfl rfl rfl hr2 rfl ?_
  refine xgo 80 rfl ?_
  try simp only [xlo0, List.map_cons, List.map_nil, List.length_cons, List.length_nil, xrs, xr0, Nat.reduceAdd, Nat.reduceSub, List.cons_append, List.nil_append, List.set_cons_zero, List.set_cons_succ, Option.toList_none, Option.toList_some, nI_1]
  rw [u8]
  refine xgo 80 rfl ?_
  try simp only [xlo0, List.map_cons, List.map_nil, List.length_cons, List.length_nil, xrs, xr0, Nat.reduceAdd, Nat.reduceSub, List.cons_append, List.nil_append, List.set_cons_zero, List.set_cons_succ, Option.toList_none, Option.toList_some, nI_1]
  refine xp 0 rfl rfl rfl n5 rfl rfl rfl (fun s6 n6 f6 e6 => ?_)
  have n3 := (f6 _ (by omega)).trans n3
  have hkk : s6.2 = s2.2 := by rw [e6, e5, e4, e3]
  have g1 : s6.2.1 = s2.2.1 := congrArg Prod.fst hkk
  have g2 : s6.2.2 = s2.2.2 := congrArg Prod.snd hkk
  have hff : ∀ q, q ≠ b → q ≠ b + 1 → s6.1 q = s2.1 q := fun q x1 x2 => by rw [f6 q x1, f5 q x1, f4 q x1, f3 q x2]
  have hlen : ((bs.drop 4).take (bs.length - 8)).length = bs.length - 8 := by simp; omega
  refine xgo 80 rfl ?_
  try simp only [xlo0, List.map_cons, List.map_nil, List.length_cons, List.length_nil, xrs, xr0, Nat.reduceAdd, Nat.reduceSub, List.cons_append, List.nil_append, List.set_cons_zero, List.set_cons_succ, Option.toList_none, Option.toList_some, nI_1]
  refine xi_ret_v rfl rfl ⟨rfl, ⟨n6, by rw [n3, hcl, List.map_set]; rfl, by rw [List.length_set]; exact h3, by rw [List.length_set]; exact h4, fun j hj => ?_⟩, fun q x1 x2 x3 => by rw [hff q x2 x3, p2 q x1], by omega, by omega⟩
  by_cases hji : i = j
  · subst hji
    refine Or.inr ⟨_, _, List.getElem?_set_self (by omega), List.getElem?_set_self (by omega), ?_⟩
    rw [hlen]
    obtain ⟨xs, b1, b2, b3⟩ := p1
    exact ⟨xs, by rw [hff _ (by omega) (by omega)]; exact b1, by rw [hff _ (by omega) (by omega)]; exact b2, b3⟩
  · rcases h5 j hj with ⟨x1, x2⟩ | ⟨k, cs, x1, x2, xs, b1, b2, b3⟩
    · exact Or.inl ⟨by rw [List.getElem?_set_ne hji]; exact x1, by rw [List.getElem?_set_ne hji]; exact x2⟩
    · obtain ⟨y1, y2⟩ := htk k (List.mem_of_getElem? x1)
      exact Or.inr ⟨k, cs, by rw [List.getElem?_set_ne hji]; exact x1, by rw [List.getElem?_set_ne hji]; exact x2, xs, by rw [hff _ (by omega) (by omega), p2 _ (by omega)]; exact b1, by rw [hff _ (by omega) (by omega), p2 _ (by omega)]; exact b2, b3⟩
/-- the bytes of all parts, by their numbers -/
def pjoin (P : List (Option (List Int32))) : List Int32 := P.flatMap (fun o => o.getD [])
theorem pjoin_snoc (P : List (Option (List Int32))) {j : Nat} {o : Option (List Int32)} (h : P[j]? = some o) : pjoin (P.take (j + 1)) = pjoin (P.take j) ++ o.getD [] := by
  rw [List.take_succ, h]
  simp [pjoin]
theorem pjoin_le (P : List (Option (List Int32))) (j : Nat) : (pjoin (P.take j)).length ≤ (pjoin P).length := by
  have h : P = P.take j ++ P.drop j := (List.take_append_drop j P).symm
  have e : pjoin P = pjoin (P.take j) ++ pjoin (P.drop j) := by
    unfold pjoin
    rw [← List.flatMap_append, List.take_append_drop]
  rw [e, List.length_append]
  omega
set_option maxRecDepth 100000 in
set_option maxHeartbeats 8000000 in
theorem l_BK_joinOnto {G : xG} {d b o oc : Nat} {w c n : Int32} {tk : List (Option Nat)} {P : List (Option (List Int32))} {σ : xS} (hob : o + 2 ≤ b) (htk : ∀ k, some k ∈ tk → o + 2 ≤ k) (hcap : (pjoin P).length ≤ oc) : ∀ (m j : Nat) (x3 : Option Value) (s : xS), j + m = 88 → bk G s.1 b w c n tk P → brr G s.1 o oc (pjoin (P.take j)) → frz σ.1 s.1 o 2 → s.2 = σ.2 →
    xw G (d + 2) mX0_joinOnto 6 [some (rf G b), some (rf G o), some (.int (nI j)), x3] [] s (fun v σ' => v = none ∧ bk G σ'.1 b w c n tk P ∧ brr G σ'.1 o oc (pjoin P) ∧ frz σ.1 σ'.1 o 2 ∧ σ'.2 = σ.2) := by
  have z88 : (88 : Int32).toInt = 88 := rfl
  intro m
  induction m with
  | zero =>
    intro j x3 s hj h ho hf hs
    have hj' : j = 88 := by omega
    subst hj'
    refine xgo 80 rfl ?_
    try simp only [xlo0, List.map_cons, List.map_nil, List.length_cons, List.length_nil, xrs, xr0, Nat.reduceAdd, Nat.reduceSub, List.cons_append, List.nil_append, List.set_cons_zero, List.set_cons_succ, Option.toList_none, Option.toList_some, nI_1]
    refine xi_icmpge rfl (fun c1 => ?_) (fun c1 => ?_)
    · rw [List.take_of_length_le (by have := h.2.2.2.1; omega)] at ho
      refine xgo 80 rfl ?_
      try simp only [xlo0, List.map_cons, List.map_nil, List.length_cons, List.length_nil, xrs, xr0, Nat.reduceAdd, Nat.reduceSub, List.cons_append, List.nil_append, List.set_cons_zero, List.set_cons_succ, Option.toList_none, Option.toList_some, nI_1]
      refine xi_ret_v rfl rfl ⟨rfl, h, ho, hf, hs⟩
    · exact absurd (by decide) c1
  | succ m ih =>
    intro j x3 s hj h ho hf hs
    obtain ⟨h1, h2, h3, h4, h5⟩ := id h
    have hcl : (nI j).toNatClampNeg = j := nI_clamp (by omega)
    refine xgo 80 rfl ?_
    try simp only [xlo0, List.map_cons, List.map_nil, List.length_cons, List.length_nil, xrs, xr0, Nat.reduceAdd, Nat.reduceSub, List.cons_append, List.nil_append, List.set_cons_zero, List.set_cons_succ, Option.toList_none, Option.toList_some, nI_1]
    refine xi_icmpge rfl (fun c1 => ?_) (fun c1 => ?_)
    · exact absurd c1 (by rw [i_le, i_n (by omega), z88]; omega)
    refine xgo 80 rfl ?_
    try simp only [xlo0, List.map_cons, List.map_nil, List.length_cons, List.length_nil, xrs, xr0, Nat.reduceAdd, Nat.reduceSub, List.cons_append, List.nil_append, List.set_cons_zero, List.set_cons_succ, Option.toList_none, Option.toList_some, nI_1]
    refine xg 0 rfl rfl rfl h1 rfl ?_
    rcases h5 j (by omega) with ⟨a1, a2⟩ | ⟨k, bs, a1, a2, a3⟩
    · refine xgo 80 rfl ?_
      try simp only [xlo0, List.map_cons, List.map_nil, List.length_cons, List.length_nil, xrs, xr0, Nat.reduceAdd, Nat.reduceSub, List.cons_append, List.nil_append, List.set_cons_zero, List.set_cons_succ, Option.toList_none, Option.toList_some, nI_1]
      refine xi_aald rfl h2 (by decide) (nI_pos (by omega)) (by rw [hcl]; exact tk_get a1) ?_
      refine xgo 80 rfl ?_
      try simp only [xlo0, List.map_cons, List.map_nil, List.length_cons, List.length_nil, xrs, xr0, Nat.reduceAdd, Nat.reduceSub, List.cons_append, List.nil_append, List.set_cons_zero, List.set_cons_succ, Option.toList_none, Option.toList_some, nI_1]
      refine xi_ifnull_n rfl ?_
      refine xto 6 80 rfl ?_
      try simp only [xlo0, List.map_cons, List.map_nil, List.length_cons, List.length_nil, xrs, xr0, Nat.reduceAdd, Nat.reduceSub, List.cons_append, List.nil_append, List.set_cons_zero, List.set_cons_succ, Option.toList_none, Option.toList_some, nI_1]
      refine ih (j + 1) _ s (by omega) h ?_ hf hs
      rw [pjoin_snoc P a2]
      simpa using ho
    · have hkk := htk k (List.mem_of_getElem? a1)
      have hpl := pjoin_le P (j + 1)
      rw [pjoin_snoc P a2] at hpl
      simp at hpl
      refine xgo 80 rfl ?_
      try simp only [xlo0, List.map_cons, List.map_nil, List.length_cons, List.length_nil, xrs, xr0, Nat.reduceAdd, Nat.reduceSub, List.cons_append, List.nil_append, List.set_cons_zero, List.set_cons_succ, Option.toList_none, Option.toList_some, nI_1]
      refine xi_aald rfl h2 (by decide) (nI_pos (by omega)) (by rw [hcl]; exact tk_get a1) ?_
      refine xgo 80 rfl ?_
      try simp only [xlo0, List.map_cons, List.map_nil, List.length_cons, List.length_nil, xrs, xr0, Nat.reduceAdd, Nat.reduceSub, List.cons_append, List.nil_append, List.set_cons_zero, List.set_cons_succ, Option.toList_none, Option.toList_some, nI_1]
      refine xi_ifnull_r rfl ?_
      refine xgo 80 rfl ?_
      try simp only [xlo0, List.map_cons, List.map_nil, List.length_cons, List.length_nil, xrs, xr0, Nat.reduceAdd, Nat.reduceSub, List.cons_append, List.nil_append, List.set_cons_zero, List.set_cons_succ, Option.toList_none, Option.toList_some, nI_1]
      refine xg 0 rfl rfl rfl a3.obj rfl ?_
      refine xgo 80 rfl ?_
      try simp only [xlo0, List.map_cons, List.map_nil, List.length_cons, List.length_nil, xrs, xr0, Nat.reduceAdd, Nat.reduceSub, List.cons_append, List.nil_append, List.set_cons_zero, List.set_cons_succ, Option.toList_none, Option.toList_some, nI_1]
      refine xcV 0 rfl rfl rfl (c_BR_pushRange (i := 0) (e := bs.length) ho a3 (by omega) (by omega) (by omega) (by omega)) rfl kX1_pushRange iX1_pushRange ho.obj ⟨_, rfl, rfl⟩ rfl rfl (Nat.le_of_ble_eq_true rfl) (fun v1 s1 q1 => ?_)
      obtain ⟨rfl, p1, p2, p3⟩ := q1
      refine xto 6 80 rfl ?_
      try simp only [xlo0, List.map_cons, List.map_nil, List.length_cons, List.length_nil, xrs, xr0, Nat.reduceAdd, Nat.reduceSub, List.cons_append, List.nil_append, List.set_cons_zero, List.set_cons_succ, Option.toList_none, Option.toList_some, nI_1]
      refine ih (j + 1) _ s1 (by omega) ⟨by rw [p2 _ (by omega)]; exact h1, by rw [p2 _ (by omega)]; exact h2, h.2.2.keep (fun q hq => ?_)⟩ ?_ (hf.tr p2) (p3.trans hs)
      · have := htk q hq
        exact ⟨p2 _ (by omega), p2 _ (by omega)⟩
      · rw [pjoin_snoc P a2]
        simpa using p1
set_option maxRecDepth 100000 in
set_option maxHeartbeats 8000000 in
theorem c_BK_joinOnto {G : xG} {d b o oc : Nat} {w c n : Int32} {tk : List (Option Nat)} {P : List (Option (List Int32))} {os : List Int32} {σ : xS} (h : bk G σ.1 b w c n tk P) (ho : brr G σ.1 o oc os) (hob : o + 2 ≤ b) (htk : ∀ k, some k ∈ tk → o + 2 ≤ k) (hcap : (pjoin P).length ≤ oc) : xm G (d + 2) mX0_joinOnto [rf G b, rf G o] σ (fun v σ' => v = none ∧ bk G σ'.1 b w c n tk P ∧ brr G σ'.1 o oc (pjoin P) ∧ frz σ.1 σ'.1 o 2 ∧ σ'.2 = σ.2) := by
  refine xm_at 4 rfl (by decide) (Nat.le_of_ble_eq_true rfl) (by simp [Value.category]) tX0_joinOnto_ok ?_
  try simp only [xlo0, List.map_cons, List.map_nil, List.length_cons, List.length_nil, xrs, xr0, Nat.reduceAdd, Nat.reduceSub, List.cons_append, List.nil_append, List.set_cons_zero, List.set_cons_succ, Option.toList_none, Option.toList_some, nI_1]
  refine xgo 80 rfl ?_
  try simp only [xlo0, List.map_cons, List.map_nil, List.length_cons, List.length_nil, xrs, xr0, Nat.reduceAdd, Nat.reduceSub, List.cons_append, List.nil_append, List.set_cons_zero, List.set_cons_succ, Option.toList_none, Option.toList_some, nI_1]
  refine xcV 0 rfl rfl rfl (c_BR_clear ho) rfl kX1_clear iX1_clear ho.obj ⟨_, rfl, rfl⟩ rfl rfl (Nat.le_of_ble_eq_true rfl) (fun v1 s1 q1 => ?_)
  obtain ⟨rfl, p1, p2, p3⟩ := q1
  refine xto 6 80 rfl ?_
  try simp only [xlo0, List.map_cons, List.map_nil, List.length_cons, List.length_nil, xrs, xr0, Nat.reduceAdd, Nat.reduceSub, List.cons_append, List.nil_append, List.set_cons_zero, List.set_cons_succ, Option.toList_none, Option.toList_some, nI_1]
  refine l_BK_joinOnto hob htk hcap 88 0 none s1 (by omega) ⟨by rw [p2 _ (by omega)]; exact h.1, by rw [p2 _ (by omega)]; exact h.2.1, h.2.2.keep (fun q hq => ?_)⟩ p1 p2 p3
  have := htk q hq
  exact ⟨p2 _ (by omega), p2 _ (by omega)⟩
set_option maxRecDepth 100000 in
set_option maxHeartbeats 8000000 in
theorem l_BK_clear {G : xG} {d b : Nat} {w c n : Int32} {σ : xS} : ∀ (m j : Nat) (tk : List (Option Nat)) (s : xS), j + m = 88 → s.1 b = some (0, [rf G (b + 1), .int w, .int c, .int n]) → s.1 (b + 1) = some (14, tk.map (oref G)) → tk.length = 88 → (∀ i, i < j → tk[i]? = some none) → frz σ.1 s.1 b 2 → s.2 = σ.2 →
    xw G d mX0_clear 2 [some (rf G b), some (.int (nI j))] [] s (fun v σ' => v = none ∧ bk G σ'.1 b 0 0 0 (List.replicate 88 none) (List.replicate 88 none) ∧ frz σ.1 σ'.1 b 2 ∧ σ'.2 = σ.2) := by
  have z88 : (88 : Int32).toInt = 88 := rfl
  intro m
  induction m with
  | zero =>
    intro j tk s hj h1 h2 hl hn hf hs
    have hj' : j = 88 := by omega
    subst hj'
    have htk : tk = List.replicate 88 none := List.eq_replicate_iff.mpr ⟨hl, fun o ho => by
      obtain ⟨i, hi⟩ := List.getElem?_of_mem ho
      have := hn i (by have := (List.getElem?_eq_some_iff.mp hi).1; omega)
      rw [this] at hi
      exact (Option.some.inj hi).symm⟩
    refine xgo 80 rfl ?_
    try simp only [xlo0, List.map_cons, List.map_nil, List.length_cons, List.length_nil, xrs, xr0, Nat.reduceAdd, Nat.reduceSub, List.cons_append, List.nil_append, List.set_cons_zero, List.set_cons_succ, Option.toList_none, Option.toList_some, nI_1]
    refine xi_icmpge rfl (fun c1 => ?_) (fun c1 => ?_)
    · refine xgo 80 rfl ?_
      try simp only [xlo0, List.map_cons, List.map_nil, List.length_cons, List.length_nil, xrs, xr0, Nat.reduceAdd, Nat.reduceSub, List.cons_append, List.nil_append, List.set_cons_zero, List.set_cons_succ, Option.toList_none, Option.toList_some, nI_1]
      refine xp 0 rfl rfl rfl h1 rfl rfl rfl (fun s1 n1 f1 e1 => ?_)
      refine xgo 80 rfl ?_
      try simp only [xlo0, List.map_cons, List.map_nil, List.length_cons, List.length_nil, xrs, xr0, Nat.reduceAdd, Nat.reduceSub, List.cons_append, List.nil_append, List.set_cons_zero, List.set_cons_succ, Option.toList_none, Option.toList_some, nI_1]
      refine xp 0 rfl rfl rfl n1 rfl rfl rfl (fun s2 n2 f2 e2 => ?_)
      refine xgo 80 rfl ?_
      try simp only [xlo0, List.map_cons, List.map_nil, List.length_cons, List.length_nil, xrs, xr0, Nat.reduceAdd, Nat.reduceSub, List.cons_append, List.nil_append, List.set_cons_zero, List.set_cons_succ, Option.toList_none, Option.toList_some, nI_1]
      refine xp 0 rfl rfl rfl n2 rfl rfl rfl (fun s3 n3 f3 e3 => ?_)
      have h2 := (f1 _ (by omega)).trans h2
      have h2 := (f2 _ (by omega)).trans h2
      have h2 := (f3 _ (by omega)).trans h2
      refine xgo 80 rfl ?_
      try simp only [xlo0, List.map_cons, List.map_nil, List.length_cons, List.length_nil, xrs, xr0, Nat.reduceAdd, Nat.reduceSub, List.cons_append, List.nil_append, List.set_cons_zero, List.set_cons_succ, Option.toList_none, Option.toList_some, nI_1]
      refine xi_ret_v rfl rfl ⟨rfl, ⟨n3, by rw [h2, htk], ⟨List.length_replicate, List.length_replicate, fun i hi => Or.inl ⟨by rw [List.getElem?_replicate, if_pos hi], by rw [List.getElem?_replicate, if_pos hi]⟩⟩⟩, hf.tr (((frz.one f1 (by omega) (by omega)).tr (frz.one f2 (by omega) (by omega))).tr (frz.one f3 (by omega) (by omega))), by rw [e3, e2, e1, hs]⟩
    · exact absurd (by decide) c1
  | succ m ih =>
    intro j tk s hj h1 h2 hl hn hf hs
    have hcl : (nI j).toNatClampNeg = j := nI_clamp (by omega)
    refine xgo 80 rfl ?_
    try simp only [xlo0, List.map_cons, List.map_nil, List.length_cons, List.length_nil, xrs, xr0, Nat.reduceAdd, Nat.reduceSub, List.cons_append, List.nil_append, List.set_cons_zero, List.set_cons_succ, Option.toList_none, Option.toList_some, nI_1]
    refine xi_icmpge rfl (fun c1 => ?_) (fun c1 => ?_)
    · exact absurd c1 (by rw [i_le, i_n (by omega), z88]; omega)
    refine xgo 80 rfl ?_
    try simp only [xlo0, List.map_cons, List.map_nil, List.length_cons, List.length_nil, xrs, xr0, Nat.reduceAdd, Nat.reduceSub, List.cons_append, List.nil_append, List.set_cons_zero, List.set_cons_succ, Option.toList_none, Option.toList_some, nI_1]
    refine xg 0 rfl rfl rfl h1 rfl ?_
    refine xgo 80 rfl ?_
    try simp only [xlo0, List.map_cons, List.map_nil, List.length_cons, List.length_nil, xrs, xr0, Nat.reduceAdd, Nat.reduceSub, List.cons_append, List.nil_append, List.set_cons_zero, List.set_cons_succ, Option.toList_none, Option.toList_some, nI_1]
    refine xsn rfl h2 (by decide) (by decide) (nI_pos (by omega)) (by rw [hcl, List.length_map, hl]; omega) (fun s1 n1 f1 e1 => ?_)
    have h1 := (f1 _ (by omega)).trans h1
    refine xto 2 80 rfl ?_
    try simp only [xlo0, List.map_cons, List.map_nil, List.length_cons, List.length_nil, xrs, xr0, Nat.reduceAdd, Nat.reduceSub, List.cons_append, List.nil_append, List.set_cons_zero, List.set_cons_succ, Option.toList_none, Option.toList_some, nI_1]
    refine ih (j + 1) (tk.set j none) s1 (by omega) h1 (by rw [n1, hcl, List.map_set]; rfl) (by rw [List.length_set]; exact hl) (fun i hi => ?_) (hf.tr (frz.one f1 (by omega) (by omega))) (e1.trans hs)
    by_cases hij : j = i
    · subst hij
      exact List.getElem?_set_self (by omega)
    · rw [List.getElem?_set_ne hij]
      exact hn i (by omega)
set_option maxRecDepth 100000 in
set_option maxHeartbeats 8000000 in
theorem c_BK_clear {G : xG} {d b : Nat} {w c n : Int32} {tk : List (Option Nat)} {P : List (Option (List Int32))} {σ : xS} (h : bk G σ.1 b w c n tk P) : xm G d mX0_clear [rf G b] σ (fun v σ' => v = none ∧ bk G σ'.1 b 0 0 0 (List.replicate 88 none) (List.replicate 88 none) ∧ frz σ.1 σ'.1 b 2 ∧ σ'.2 = σ.2) := by
  refine xm_at 2 rfl (by decide) (Nat.le_of_ble_eq_true rfl) (by simp [Value.category]) tX0_clear_ok ?_
  try simp only [xlo0, List.map_cons, List.map_nil, List.length_cons, List.length_nil, xrs, xr0, Nat.reduceAdd, Nat.reduceSub, List.cons_append, List.nil_append, List.set_cons_zero, List.set_cons_succ, Option.toList_none, Option.toList_some, nI_1]
  refine xto 2 80 rfl ?_
  try simp only [xlo0, List.map_cons, List.map_nil, List.length_cons, List.length_nil, xrs, xr0, Nat.reduceAdd, Nat.reduceSub, List.cons_append, List.nil_append, List.set_cons_zero, List.set_cons_succ, Option.toList_none, Option.toList_some, nI_1]
  exact l_BK_clear 88 0 tk σ (by omega) h.1 h.2.1 h.2.2.1 (fun i hi => by omega) frz.rf rfl
end
section
/-! ===== Entry: metBy at k, the object at k + 1, its overlays at k + 2; what it says at c ===== -/
abbrev eV : Type := cV × List Int32 × Int32 × Int32 × List Int32
def ent (G : xG) (h : Nat → Option xC) (k c : Nat) (V : eV) : Prop := ∃ mb ovs : List Int32, h k = some (11, vi mb) ∧ h (k + 1) = some (3, [rf G c, rf G k, .int V.2.2.1, .int V.2.2.2.1, rf G (k + 2), .int (nI V.2.2.2.2.length)]) ∧ h (k + 2) = some (11, vi ovs) ∧ cont G h c V.1 ∧ mb.length = 4 ∧ V.2.1.length = V.1.2.1.length ∧ mb.take V.2.1.length = V.2.1 ∧ ovs.length = 4 ∧ V.2.2.2.2.length ≤ 4 ∧ ovs.take V.2.2.2.2.length = V.2.2.2.2
theorem ent.obj {G : xG} {h : Nat → Option xC} {k c : Nat} {V : eV} (H : ent G h k c V) : h (k + 1) = some (3, [rf G c, rf G k, .int V.2.2.1, .int V.2.2.2.1, rf G (k + 2), .int (nI V.2.2.2.2.length)]) := by
  obtain ⟨mb, ovs, h1, h2, -⟩ := H
  exact h2
theorem ent.cont {G : xG} {h : Nat → Option xC} {k c : Nat} {V : eV} (H : ent G h k c V) : cont G h c V.1 := by
  obtain ⟨mb, ovs, h1, h2, h3, h4, -⟩ := H
  exact h4
theorem ent.keep {G : xG} {h h' : Nat → Option xC} {k c a n : Nat} {V : eV} (H : ent G h k c V) (f : frz h h' a n) (h1 : k + 3 ≤ a ∨ a + n ≤ k) (h2 : c + 17 ≤ a ∨ a + n ≤ c) : ent G h' k c V := by
  obtain ⟨mb, ovs, a1, a2, a3, a4, r⟩ := H
  exact ⟨mb, ovs, by rw [f.at (by omega)]; exact a1, by rw [f.at (by omega)]; exact a2, by rw [f.at (by omega)]; exact a3, a4.keep f h2, r⟩
set_option maxRecDepth 100000 in
set_option maxHeartbeats 8000000 in
theorem c_EN_init {G : xG} {d k c : Nat} {sees : Int32} {K : cV} {met mb : List Int32} {σ : xS} (h0 : σ.1 k = some (11, vi mb)) (h : σ.1 (k + 1) = some (3, xdef 3)) (hx : σ.2.1 = k + 2) (hc : cont G σ.1 c K) (hck : c + 17 ≤ k) (hm : mb.length = 4) (hme : met.length = K.2.1.length) (hmt : mb.take met.length = met) : xm G (d + 1) mX3_init [rf G (k + 1), rf G c, rf G k, .int sees] σ (fun v σ' => v = none ∧ ent G σ'.1 k c (K, met, sees, 0, []) ∧ (∀ q, q < k → σ'.1 q = σ.1 q) ∧ σ'.2.1 = k + 3 ∧ σ'.2.2 = σ.2.2 + 4) := by
  have hxd : xdef 3 = [.null, .null, .int 0, .int 0, .null, .int 0] := rfl
  rw [hxd] at h
  refine xm_at 4 rfl (by decide) (Nat.le_of_ble_eq_true rfl) (by simp [Value.category]) tX3_init_ok ?_
  try simp only [xlo0, List.map_cons, List.map_nil, List.length_cons, List.length_nil, xrs, xr0, Nat.reduceAdd, Nat.reduceSub, List.cons_append, List.nil_append, List.set_cons_zero, List.set_cons_succ, Option.toList_none, Option.toList_some, nI_1]
  refine xgo 80 rfl ?_
  try simp only [xlo0, List.map_cons, List.map_nil, List.length_cons, List.length_nil, xrs, xr0, Nat.reduceAdd, Nat.reduceSub, List.cons_append, List.nil_append, List.set_cons_zero, List.set_cons_succ, Option.toList_none, Option.toList_some, nI_1]
  refine xi_obj rfl oX3 (Nat.le_of_ble_eq_true rfl) ?_
  refine xgo 80 rfl ?_
  try simp only [xlo0, List.map_cons, List.map_nil, List.length_cons, List.length_nil, xrs, xr0, Nat.reduceAdd, Nat.reduceSub, List.cons_append, List.nil_append, List.set_cons_zero, List.set_cons_succ, Option.toList_none, Option.toList_some, nI_1]
  refine xna (t := 11) (atype := .int) (N := 4) hx rfl rfl (by decide) (by decide) rfl a_11 (by decide) rfl (by decide) (fun s1 n1 f1 g1 k1 => ?_)
  have h := (f1 _ (by omega)).trans h
  have h0 := (f1 _ (by omega)).trans h0
  refine xgo 80 rfl ?_
  try simp only [xlo0, List.map_cons, List.map_nil, List.length_cons, List.length_nil, xrs, xr0, Nat.reduceAdd, Nat.reduceSub, List.cons_append, List.nil_append, List.set_cons_zero, List.set_cons_succ, Option.toList_none, Option.toList_some, nI_1]
  refine xpF rfl fX3_9F rfl h rfl rfl rfl (fun s2 n2 f2 e2 => ?_)
  have n1 := (f2 _ (by omega)).trans n1
  have h0 := (f2 _ (by omega)).trans h0
  refine xgo 80 rfl ?_
  try simp only [xlo0, List.map_cons, List.map_nil, List.length_cons, List.length_nil, xrs, xr0, Nat.reduceAdd, Nat.reduceSub, List.cons_append, List.nil_append, List.set_cons_zero, List.set_cons_succ, Option.toList_none, Option.toList_some, nI_1]
  refine xpF rfl fX3_15F rfl n2 rfl rfl rfl (fun s3 n3 f3 e3 => ?_)
  have n1 := (f3 _ (by omega)).trans n1
  have h0 := (f3 _ (by omega)).trans h0
  refine xgo 80 rfl ?_
  try simp only [xlo0, List.map_cons, List.map_nil, List.length_cons, List.length_nil, xrs, xr0, Nat.reduceAdd, Nat.reduceSub, List.cons_append, List.nil_append, List.set_cons_zero, List.set_cons_succ, Option.toList_none, Option.toList_some, nI_1]
  refine xpF rfl fX3_19F rfl n3 rfl rfl rfl (fun s4 n4 f4 e4 => ?_)
  have n1 := (f4 _ (by omega)).trans n1
  have h0 := (f4 _ (by omega)).trans h0
  refine xgo 80 rfl ?_
  try simp only [xlo0, List.map_cons, List.map_nil, List.length_cons, List.length_nil, xrs, xr0, Nat.reduceAdd, Nat.reduceSub, List.cons_append, List.nil_append, List.set_cons_zero, List.set_cons_succ, Option.toList_none, Option.toList_some, nI_1]
  refine xpF rfl fX3_22F rfl n4 rfl rfl rfl (fun s5 n5 f5 e5 => ?_)
  have n1 := (f5 _ (by omega)).trans n1
  have h0 := (f5 _ (by omega)).trans h0
  have hfr : ∀ q, q ≠ k + 1 → q ≠ k + 2 → s5.1 q = σ.1 q := fun q x1 x2 => by rw [f5 q x1, f4 q x1, f3 q x1, f2 q x1, f1 q x2]
  have hkk : s5.2 = s1.2 := by rw [e5, e4, e3, e2]
  have g5 : s5.2.1 = s1.2.1 := congrArg Prod.fst hkk
  have k5 : s5.2.2 = s1.2.2 := congrArg Prod.snd hkk
  have hf : frz σ.1 s5.1 (k + 1) 2 := fun q hq => hfr q (by omega) (by omega)
  refine xgo 80 rfl ?_
  try simp only [xlo0, List.map_cons, List.map_nil, List.length_cons, List.length_nil, xrs, xr0, Nat.reduceAdd, Nat.reduceSub, List.cons_append, List.nil_append, List.set_cons_zero, List.set_cons_succ, Option.toList_none, Option.toList_some, nI_1]
  refine xi_ret_v rfl rfl ⟨rfl, ⟨mb, List.replicate 4 0, h0, n5, by rw [n1]; rfl, hc.keep hf (by omega), hm, hme, hmt, rfl, by simp, by simp⟩, fun q hq => hfr q (by omega) (by omega), by omega, by omega⟩
set_option maxRecDepth 100000 in
set_option maxHeartbeats 8000000 in
theorem c_EN_meeting {G : xG} {d k c : Nat} {V : eV} {i : Int32} {σ : xS} (h : ent G σ.1 k c V) : xm G d mX3_meeting [rf G (k + 1), .int i] σ (fun v σ' => v = some (.int (bat V.2.1 i)) ∧ σ' = σ) := by
  obtain ⟨mb, ovs, h1, h2, h3, h4, h5, h6, h7, h8, h9, h10⟩ := h
  have hb := h4.bnd
  have z : (0 : Int32).toInt = 0 := rfl
  have hn : (nI V.1.2.1.length).toInt = V.1.2.1.length := i_n (by omega)
  refine xm_at 2 rfl (by decide) (Nat.le_of_ble_eq_true rfl) (by simp [Value.category]) tX3_meeting_ok ?_
  try simp only [xlo0, List.map_cons, List.map_nil, List.length_cons, List.length_nil, xrs, xr0, Nat.reduceAdd, Nat.reduceSub, List.cons_append, List.nil_append, List.set_cons_zero, List.set_cons_succ, Option.toList_none, Option.toList_some, nI_1]
  refine xgo 80 rfl ?_
  try simp only [xlo0, List.map_cons, List.map_nil, List.length_cons, List.length_nil, xrs, xr0, Nat.reduceAdd, Nat.reduceSub, List.cons_append, List.nil_append, List.set_cons_zero, List.set_cons_succ, Option.toList_none, Option.toList_some, nI_1]
  refine xi_iflt rfl (fun c1 => ?_) (fun c1 => ?_)
  · rw [i_lt] at c1
    refine xgo 80 rfl ?_
    try simp only [xlo0, List.map_cons, List.map_nil, List.length_cons, List.length_nil, xrs, xr0, Nat.reduceAdd, Nat.reduceSub, List.cons_append, List.nil_append, List.set_cons_zero, List.set_cons_succ, Option.toList_none, Option.toList_some, nI_1]
    refine xi_ret_i rfl rfl rfl ⟨by rw [bat_out (by omega)], rfl⟩
  rw [i_lt] at c1
  refine xgo 80 rfl ?_
  try simp only [xlo0, List.map_cons, List.map_nil, List.length_cons, List.length_nil, xrs, xr0, Nat.reduceAdd, Nat.reduceSub, List.cons_append, List.nil_append, List.set_cons_zero, List.set_cons_succ, Option.toList_none, Option.toList_some, nI_1]
  refine xg 3 rfl rfl rfl h2 rfl ?_
  refine xgo 80 rfl ?_
  try simp only [xlo0, List.map_cons, List.map_nil, List.length_cons, List.length_nil, xrs, xr0, Nat.reduceAdd, Nat.reduceSub, List.cons_append, List.nil_append, List.set_cons_zero, List.set_cons_succ, Option.toList_none, Option.toList_some, nI_1]
  refine xg 3 rfl rfl rfl h4.obj rfl ?_
  refine xgo 80 rfl ?_
  try simp only [xlo0, List.map_cons, List.map_nil, List.length_cons, List.length_nil, xrs, xr0, Nat.reduceAdd, Nat.reduceSub, List.cons_append, List.nil_append, List.set_cons_zero, List.set_cons_succ, Option.toList_none, Option.toList_some, nI_1]
  refine xi_icmpge rfl (fun c2 => ?_) (fun c2 => ?_)
  · rw [i_le] at c2
    refine xgo 80 rfl ?_
    try simp only [xlo0, List.map_cons, List.map_nil, List.length_cons, List.length_nil, xrs, xr0, Nat.reduceAdd, Nat.reduceSub, List.cons_append, List.nil_append, List.set_cons_zero, List.set_cons_succ, Option.toList_none, Option.toList_some, nI_1]
    refine xi_ret_i rfl rfl rfl ⟨by rw [bat_out (by omega)], rfl⟩
  rw [i_le] at c2
  refine xgo 80 rfl ?_
  try simp only [xlo0, List.map_cons, List.map_nil, List.length_cons, List.length_nil, xrs, xr0, Nat.reduceAdd, Nat.reduceSub, List.cons_append, List.nil_append, List.set_cons_zero, List.set_cons_succ, Option.toList_none, Option.toList_some, nI_1]
  refine xg 3 rfl rfl rfl h2 rfl ?_
  refine xgo 80 rfl ?_
  try simp only [xlo0, List.map_cons, List.map_nil, List.length_cons, List.length_nil, xrs, xr0, Nat.reduceAdd, Nat.reduceSub, List.cons_append, List.nil_append, List.set_cons_zero, List.set_cons_succ, Option.toList_none, Option.toList_some, nI_1]
  refine xi_alen rfl h1 (by decide) rfl ?_
  refine xgo 80 rfl ?_
  try simp only [xlo0, List.map_cons, List.map_nil, List.length_cons, List.length_nil, xrs, xr0, Nat.reduceAdd, Nat.reduceSub, List.cons_append, List.nil_append, List.set_cons_zero, List.set_cons_succ, Option.toList_none, Option.toList_some, nI_1]
  refine xi_icmpge rfl (fun c3 => ?_) (fun c3 => ?_)
  · rw [i_le, vi_len, h5] at c3
    have : (Int32.ofNat 4).toInt = 4 := rfl
    omega
  have hi : i.toInt.toNat < V.2.1.length := by omega
  have hg : mb[i.toNatClampNeg]? = some (bat V.2.1 i) := by
    rw [i_cl, take_get h7 hi, bat, if_neg (by omega), List.getD_eq_getElem?_getD, List.getElem?_eq_getElem hi]
    rfl
  refine xgo 80 rfl ?_
  try simp only [xlo0, List.map_cons, List.map_nil, List.length_cons, List.length_nil, xrs, xr0, Nat.reduceAdd, Nat.reduceSub, List.cons_append, List.nil_append, List.set_cons_zero, List.set_cons_succ, Option.toList_none, Option.toList_some, nI_1]
  refine xg 3 rfl rfl rfl h2 rfl ?_
  refine xgo 80 rfl ?_
  try simp only [xlo0, List.map_cons, List.map_nil, List.length_cons, List.length_nil, xrs, xr0, Nat.reduceAdd, Nat.reduceSub, List.cons_append, List.nil_append, List.set_cons_zero, List.set_cons_succ, Option.toList_none, Option.toList_some, nI_1]
  refine xi_iald rfl h1 (by rw [i_lt]; omega) (vi_get hg) ?_
  refine xgo 80 rfl ?_
  try simp only [xlo0, List.map_cons, List.map_nil, List.length_cons, List.length_nil, xrs, xr0, Nat.reduceAdd, Nat.reduceSub, List.cons_append, List.nil_append, List.set_cons_zero, List.set_cons_succ, Option.toList_none, Option.toList_some, nI_1]
  refine xi_ret_i rfl rfl rfl ⟨rfl, rfl⟩
set_option maxRecDepth 100000 in
set_option maxHeartbeats 8000000 in
theorem l_EN_leansOn {G : xG} {d k c : Nat} {V : eV} {x : Int32} {σ : xS} (h : ent G σ.1 k c V) : ∀ (n j : Nat), j + n = V.2.1.length → (∀ i e, i < j → V.2.1[i]? = some e → (e == x) = false) →
    xw G (d + 1) mX3_leansOn 2 [some (rf G (k + 1)), some (.int x), some (.int (nI j))] [] σ (fun v σ' => v = some (.int (bI (V.2.1.any (fun e => e == x)))) ∧ σ' = σ) := by
  have h2 := h.obj
  have h4 := h.cont
  have hb := h4.bnd
  have h6 : V.2.1.length = V.1.2.1.length := by obtain ⟨mb, ovs, -, -, -, -, -, h6, -⟩ := h; exact h6
  intro n
  induction n with
  | zero =>
    intro j hj hi
    have hj' : j = V.2.1.length := by omega
    subst hj'
    refine xgo 80 rfl ?_
    try simp only [xlo0, List.map_cons, List.map_nil, List.length_cons, List.length_nil, xrs, xr0, Nat.reduceAdd, Nat.reduceSub, List.cons_append, List.nil_append, List.set_cons_zero, List.set_cons_succ, Option.toList_none, Option.toList_some, nI_1]
    refine xg 3 rfl rfl rfl h2 rfl ?_
    refine xgo 80 rfl ?_
    try simp only [xlo0, List.map_cons, List.map_nil, List.length_cons, List.length_nil, xrs, xr0, Nat.reduceAdd, Nat.reduceSub, List.cons_append, List.nil_append, List.set_cons_zero, List.set_cons_succ, Option.toList_none, Option.toList_some, nI_1]
    refine xg 3 rfl rfl rfl h4.obj rfl ?_
    rw [← h6]
    refine xgo 80 rfl ?_
    try simp only [xlo0, List.map_cons, List.map_nil, List.length_cons, List.length_nil, xrs, xr0, Nat.reduceAdd, Nat.reduceSub, List.cons_append, List.nil_append, List.set_cons_zero, List.set_cons_succ, Option.toList_none, Option.toList_some, nI_1]
    refine xi_icmpge rfl (fun c1 => ?_) (fun c1 => ?_)
    · refine xgo 80 rfl ?_
      try simp only [xlo0, List.map_cons, List.map_nil, List.length_cons, List.length_nil, xrs, xr0, Nat.reduceAdd, Nat.reduceSub, List.cons_append, List.nil_append, List.set_cons_zero, List.set_cons_succ, Option.toList_none, Option.toList_some, nI_1]
      refine xi_ret_i rfl rfl (by decide) ⟨by rw [any_f hi]; rfl, rfl⟩
    · exact absurd (i_le.mpr (Int.le_refl _)) c1
  | succ n ih =>
    intro j hj hi
    refine xgo 80 rfl ?_
    try simp only [xlo0, List.map_cons, List.map_nil, List.length_cons, List.length_nil, xrs, xr0, Nat.reduceAdd, Nat.reduceSub, List.cons_append, List.nil_append, List.set_cons_zero, List.set_cons_succ, Option.toList_none, Option.toList_some, nI_1]
    refine xg 3 rfl rfl rfl h2 rfl ?_
    refine xgo 80 rfl ?_
    try simp only [xlo0, List.map_cons, List.map_nil, List.length_cons, List.length_nil, xrs, xr0, Nat.reduceAdd, Nat.reduceSub, List.cons_append, List.nil_append, List.set_cons_zero, List.set_cons_succ, Option.toList_none, Option.toList_some, nI_1]
    refine xg 3 rfl rfl rfl h4.obj rfl ?_
    rw [← h6]
    refine xgo 80 rfl ?_
    try simp only [xlo0, List.map_cons, List.map_nil, List.length_cons, List.length_nil, xrs, xr0, Nat.reduceAdd, Nat.reduceSub, List.cons_append, List.nil_append, List.set_cons_zero, List.set_cons_succ, Option.toList_none, Option.toList_some, nI_1]
    refine xi_icmpge rfl (fun c1 => ?_) (fun c1 => ?_)
    · exact absurd c1 (by rw [i_le, i_n (by omega), i_n (by omega)]; omega)
    · obtain ⟨e, he⟩ := lt_get (l := V.2.1) (j := j) (by omega)
      refine xgo 80 rfl ?_
      try simp only [xlo0, List.map_cons, List.map_nil, List.length_cons, List.length_nil, xrs, xr0, Nat.reduceAdd, Nat.reduceSub, List.cons_append, List.nil_append, List.set_cons_zero, List.set_cons_succ, Option.toList_none, Option.toList_some, nI_1]
      refine xcV 3 rfl rfl rfl (c_EN_meeting h) rfl kX3_meeting iX3_meeting h2 ⟨_, rfl, rfl⟩ rfl rfl (Nat.le_of_ble_eq_true rfl) (fun v1 s1 q1 => ?_)
      obtain ⟨rfl, rfl⟩ := q1
      have hbe : bat V.2.1 (nI j) = e := by rw [bat_n (by omega), List.getD_eq_getElem?_getD, he]; rfl
      rw [hbe]
      refine xgo 80 rfl ?_
      try simp only [xlo0, List.map_cons, List.map_nil, List.length_cons, List.length_nil, xrs, xr0, Nat.reduceAdd, Nat.reduceSub, List.cons_append, List.nil_append, List.set_cons_zero, List.set_cons_succ, Option.toList_none, Option.toList_some, nI_1]
      refine xi_icmpne rfl (fun c2 => ?_) (fun c2 => ?_)
      · refine xto 2 80 rfl ?_
        try simp only [xlo0, List.map_cons, List.map_nil, List.length_cons, List.length_nil, xrs, xr0, Nat.reduceAdd, Nat.reduceSub, List.cons_append, List.nil_append, List.set_cons_zero, List.set_cons_succ, Option.toList_none, Option.toList_some, nI_1]
        exact ih (j + 1) (by omega) (fun i e' h1 h2 => by
          by_cases hij : i = j
          · subst hij
            rw [he] at h2
            cases h2
            simpa using c2
          · exact hi i e' (by omega) h2)
      · refine xgo 80 rfl ?_
        try simp only [xlo0, List.map_cons, List.map_nil, List.length_cons, List.length_nil, xrs, xr0, Nat.reduceAdd, Nat.reduceSub, List.cons_append, List.nil_append, List.set_cons_zero, List.set_cons_succ, Option.toList_none, Option.toList_some, nI_1]
        refine xi_ret_i rfl rfl (by decide) ⟨by rw [any_t he (by simpa using c2)]; rfl, rfl⟩
set_option maxRecDepth 100000 in
set_option maxHeartbeats 8000000 in
theorem c_EN_leansOn {G : xG} {d k c : Nat} {V : eV} {x : Int32} {σ : xS} (h : ent G σ.1 k c V) : xm G (d + 1) mX3_leansOn [rf G (k + 1), .int x] σ (fun v σ' => v = some (.int (bI (V.2.1.any (fun e => e == x)))) ∧ σ' = σ) := by
  refine xm_at 3 rfl (by decide) (Nat.le_of_ble_eq_true rfl) (by simp [Value.category]) tX3_leansOn_ok ?_
  try simp only [xlo0, List.map_cons, List.map_nil, List.length_cons, List.length_nil, xrs, xr0, Nat.reduceAdd, Nat.reduceSub, List.cons_append, List.nil_append, List.set_cons_zero, List.set_cons_succ, Option.toList_none, Option.toList_some, nI_1]
  refine xto 2 80 rfl ?_
  try simp only [xlo0, List.map_cons, List.map_nil, List.length_cons, List.length_nil, xrs, xr0, Nat.reduceAdd, Nat.reduceSub, List.cons_append, List.nil_append, List.set_cons_zero, List.set_cons_succ, Option.toList_none, Option.toList_some, nI_1]
  exact l_EN_leansOn h V.2.1.length 0 (by omega) (fun i e h => by omega)
set_option maxRecDepth 100000 in
set_option maxHeartbeats 8000000 in
theorem l_EN_hasOverlay {G : xG} {d k c : Nat} {V : eV} {x : Int32} {σ : xS} (h : ent G σ.1 k c V) : ∀ (n j : Nat), j + n = V.2.2.2.2.length → (∀ i e, i < j → V.2.2.2.2[i]? = some e → (e == x) = false) →
    xw G d mX3_hasOverlay 2 [some (rf G (k + 1)), some (.int x), some (.int (nI j))] [] σ (fun v σ' => v = some (.int (bI (V.2.2.2.2.any (fun e => e == x)))) ∧ σ' = σ) := by
  obtain ⟨mb, ovs, h1, h2, h3, h4, h5, h6, h7, h8, h9, h10⟩ := h
  intro n
  induction n with
  | zero =>
    intro j hj hi
    have hj' : j = V.2.2.2.2.length := by omega
    subst hj'
    refine xgo 80 rfl ?_
    try simp only [xlo0, List.map_cons, List.map_nil, List.length_cons, List.length_nil, xrs, xr0, Nat.reduceAdd, Nat.reduceSub, List.cons_append, List.nil_append, List.set_cons_zero, List.set_cons_succ, Option.toList_none, Option.toList_some, nI_1]
    refine xg 3 rfl rfl rfl h2 rfl ?_
    refine xgo 80 rfl ?_
    try simp only [xlo0, List.map_cons, List.map_nil, List.length_cons, List.length_nil, xrs, xr0, Nat.reduceAdd, Nat.reduceSub, List.cons_append, List.nil_append, List.set_cons_zero, List.set_cons_succ, Option.toList_none, Option.toList_some, nI_1]
    refine xi_icmpge rfl (fun c1 => ?_) (fun c1 => ?_)
    · refine xgo 80 rfl ?_
      try simp only [xlo0, List.map_cons, List.map_nil, List.length_cons, List.length_nil, xrs, xr0, Nat.reduceAdd, Nat.reduceSub, List.cons_append, List.nil_append, List.set_cons_zero, List.set_cons_succ, Option.toList_none, Option.toList_some, nI_1]
      refine xi_ret_i rfl rfl (by decide) ⟨by rw [any_f hi]; rfl, rfl⟩
    · exact absurd (i_le.mpr (Int.le_refl _)) c1
  | succ n ih =>
    intro j hj hi
    refine xgo 80 rfl ?_
    try simp only [xlo0, List.map_cons, List.map_nil, List.length_cons, List.length_nil, xrs, xr0, Nat.reduceAdd, Nat.reduceSub, List.cons_append, List.nil_append, List.set_cons_zero, List.set_cons_succ, Option.toList_none, Option.toList_some, nI_1]
    refine xg 3 rfl rfl rfl h2 rfl ?_
    refine xgo 80 rfl ?_
    try simp only [xlo0, List.map_cons, List.map_nil, List.length_cons, List.length_nil, xrs, xr0, Nat.reduceAdd, Nat.reduceSub, List.cons_append, List.nil_append, List.set_cons_zero, List.set_cons_succ, Option.toList_none, Option.toList_some, nI_1]
    refine xi_icmpge rfl (fun c1 => ?_) (fun c1 => ?_)
    · exact absurd c1 (by rw [i_le, i_n (by omega), i_n (by omega)]; omega)
    · obtain ⟨e, he⟩ := lt_get (l := V.2.2.2.2) (j := j) (by omega)
      have hcl : (nI j).toNatClampNeg = j := nI_clamp (by omega)
      refine xgo 80 rfl ?_
      try simp only [xlo0, List.map_cons, List.map_nil, List.length_cons, List.length_nil, xrs, xr0, Nat.reduceAdd, Nat.reduceSub, List.cons_append, List.nil_append, List.set_cons_zero, List.set_cons_succ, Option.toList_none, Option.toList_some, nI_1]
      refine xg 3 rfl rfl rfl h2 rfl ?_
      refine xgo 80 rfl ?_
      try simp only [xlo0, List.map_cons, List.map_nil, List.length_cons, List.length_nil, xrs, xr0, Nat.reduceAdd, Nat.reduceSub, List.cons_append, List.nil_append, List.set_cons_zero, List.set_cons_succ, Option.toList_none, Option.toList_some, nI_1]
      refine xi_iald rfl h3 (nI_pos (by omega)) (by rw [hcl]; exact vi_get ((take_get h10 (by omega)).trans he)) ?_
      refine xgo 80 rfl ?_
      try simp only [xlo0, List.map_cons, List.map_nil, List.length_cons, List.length_nil, xrs, xr0, Nat.reduceAdd, Nat.reduceSub, List.cons_append, List.nil_append, List.set_cons_zero, List.set_cons_succ, Option.toList_none, Option.toList_some, nI_1]
      refine xi_icmpne rfl (fun c2 => ?_) (fun c2 => ?_)
      · refine xto 2 80 rfl ?_
        try simp only [xlo0, List.map_cons, List.map_nil, List.length_cons, List.length_nil, xrs, xr0, Nat.reduceAdd, Nat.reduceSub, List.cons_append, List.nil_append, List.set_cons_zero, List.set_cons_succ, Option.toList_none, Option.toList_some, nI_1]
        exact ih (j + 1) (by omega) (fun i e' h1 h2 => by
          by_cases hij : i = j
          · subst hij
            rw [he] at h2
            cases h2
            simpa using c2
          · exact hi i e' (by omega) h2)
      · refine xgo 80 rfl ?_
        try simp only [xlo0, List.map_cons, List.map_nil, List.length_cons, List.length_nil, xrs, xr0, Nat.reduceAdd, Nat.reduceSub, List.cons_append, List.nil_append, List.set_cons_zero, List.set_cons_succ, Option.toList_none, Option.toList_some, nI_1]
        refine xi_ret_i rfl rfl (by decide) ⟨by rw [any_t he (by simpa using c2)]; rfl, rfl⟩
set_option maxRecDepth 100000 in
set_option maxHeartbeats 8000000 in
theorem c_EN_hasOverlay {G : xG} {d k c : Nat} {V : eV} {x : Int32} {σ : xS} (h : ent G σ.1 k c V) : xm G d mX3_hasOverlay [rf G (k + 1), .int x] σ (fun v σ' => v = some (.int (bI (V.2.2.2.2.any (fun e => e == x)))) ∧ σ' = σ) := by
  refine xm_at 3 rfl (by decide) (Nat.le_of_ble_eq_true rfl) (by simp [Value.category]) tX3_hasOverlay_ok ?_
  try simp only [xlo0, List.map_cons, List.map_nil, List.length_cons, List.length_nil, xrs, xr0, Nat.reduceAdd, Nat.reduceSub, List.cons_append, List.nil_append, List.set_cons_zero, List.set_cons_succ, Option.toList_none, Option.toList_some, nI_1]
  refine xto 2 80 rfl ?_
  try simp only [xlo0, List.map_cons, List.map_nil, List.length_cons, List.length_nil, xrs, xr0, Nat.reduceAdd, Nat.reduceSub, List.cons_append, List.nil_append, List.set_cons_zero, List.set_cons_succ, Option.toList_none, Option.toList_some, nI_1]
  exact l_EN_hasOverlay h V.2.2.2.2.length 0 (by omega) (fun i e h => by omega)
set_option maxRecDepth 100000 in
set_option maxHeartbeats 8000000 in
theorem c_EN_putOverlay {G : xG} {d k c : Nat} {V : eV} {x : Int32} {σ : xS} (h : ent G σ.1 k c V) (hl : V.2.2.2.2.length < 4) (hck : c + 17 ≤ k ∨ k + 3 ≤ c) : xm G d mX3_putOverlay [rf G (k + 1), .int x] σ (fun v σ' => v = none ∧ ent G σ'.1 k c (V.1, V.2.1, V.2.2.1, V.2.2.2.1, V.2.2.2.2 ++ [x]) ∧ frz σ.1 σ'.1 k 3 ∧ σ'.2 = σ.2) := by
  obtain ⟨mb, ovs, h1, h2, h3, h4, h5, h6, h7, h8, h9, h10⟩ := h
  have hcl : (nI V.2.2.2.2.length).toNatClampNeg = V.2.2.2.2.length := nI_clamp (by omega)
  refine xm_at 2 rfl (by decide) (Nat.le_of_ble_eq_true rfl) (by simp [Value.category]) tX3_putOverlay_ok ?_
  try simp only [xlo0, List.map_cons, List.map_nil, List.length_cons, List.length_nil, xrs, xr0, Nat.reduceAdd, Nat.reduceSub, List.cons_append, List.nil_append, List.set_cons_zero, List.set_cons_succ, Option.toList_none, Option.toList_some, nI_1]
  refine xgo 80 rfl ?_
  try simp only [xlo0, List.map_cons, List.map_nil, List.length_cons, List.length_nil, xrs, xr0, Nat.reduceAdd, Nat.reduceSub, List.cons_append, List.nil_append, List.set_cons_zero, List.set_cons_succ, Option.toList_none, Option.toList_some, nI_1]
  refine xg 3 rfl rfl rfl h2 rfl ?_
  refine xgo 80 rfl ?_
  try simp only [xlo0, List.map_cons, List.map_nil, List.length_cons, List.length_nil, xrs, xr0, Nat.reduceAdd, Nat.reduceSub, List.cons_append, List.nil_append, List.set_cons_zero, List.set_cons_succ, Option.toList_none, Option.toList_some, nI_1]
  refine xi_icmpge rfl (fun c1 => ?_) (fun c1 => ?_)
  · exact absurd c1 (by rw [i_le, i_n (by omega)]; have : (4 : Int32).toInt = 4 := rfl; omega)
  refine xgo 80 rfl ?_
  try simp only [xlo0, List.map_cons, List.map_nil, List.length_cons, List.length_nil, xrs, xr0, Nat.reduceAdd, Nat.reduceSub, List.cons_append, List.nil_append, List.set_cons_zero, List.set_cons_succ, Option.toList_none, Option.toList_some, nI_1]
  refine xg 3 rfl rfl rfl h2 rfl ?_
  refine xgo 80 rfl ?_
  try simp only [xlo0, List.map_cons, List.map_nil, List.length_cons, List.length_nil, xrs, xr0, Nat.reduceAdd, Nat.reduceSub, List.cons_append, List.nil_append, List.set_cons_zero, List.set_cons_succ, Option.toList_none, Option.toList_some, nI_1]
  refine xg 3 rfl rfl rfl h2 rfl ?_
  refine xgo 80 rfl ?_
  try simp only [xlo0, List.map_cons, List.map_nil, List.length_cons, List.length_nil, xrs, xr0, Nat.reduceAdd, Nat.reduceSub, List.cons_append, List.nil_append, List.set_cons_zero, List.set_cons_succ, Option.toList_none, Option.toList_some, nI_1]
  refine xsi rfl h3 (nI_pos (by omega)) (by rw [hcl, vi_len]; omega) (fun s1 n1 f1 e1 => ?_)
  have h1 := (f1 _ (by omega)).trans h1
  have h2 := (f1 _ (by omega)).trans h2
  refine xgo 80 rfl ?_
  try simp only [xlo0, List.map_cons, List.map_nil, List.length_cons, List.length_nil, xrs, xr0, Nat.reduceAdd, Nat.reduceSub, List.cons_append, List.nil_append, List.set_cons_zero, List.set_cons_succ, Option.toList_none, Option.toList_some, nI_1]
  refine xg 3 rfl rfl rfl h2 rfl ?_
  refine xgo 80 rfl ?_
  try simp only [xlo0, List.map_cons, List.map_nil, List.length_cons, List.length_nil, xrs, xr0, Nat.reduceAdd, Nat.reduceSub, List.cons_append, List.nil_append, List.set_cons_zero, List.set_cons_succ, Option.toList_none, Option.toList_some, nI_1]
  refine xp 3 rfl rfl rfl h2 rfl rfl rfl (fun s2 n2 f2 e2 => ?_)
  have h1 := (f2 _ (by omega)).trans h1
  have n1 := (f2 _ (by omega)).trans n1
  have hf : frz σ.1 s2.1 k 3 := (frz.one f1 (by omega) (by omega)).tr (frz.one f2 (by omega) (by omega))
  refine xgo 80 rfl ?_
  try simp only [xlo0, List.map_cons, List.map_nil, List.length_cons, List.length_nil, xrs, xr0, Nat.reduceAdd, Nat.reduceSub, List.cons_append, List.nil_append, List.set_cons_zero, List.set_cons_succ, Option.toList_none, Option.toList_some, nI_1]
  refine xi_ret_v rfl rfl ⟨rfl, ⟨mb, ovs.set V.2.2.2.2.length x, h1, by rw [n2]; simp [nI_1], by rw [n1, hcl, vi_set], h4.keep hf (by omega), h5, h6, h7, by simp [h8], by simp; omega, take_snoc h10 (by omega)⟩, hf, by rw [e2, e1]⟩
set_option maxRecDepth 100000 in
set_option maxHeartbeats 8000000 in
theorem c_EN_hasRowOf {G : xG} {d k c : Nat} {V : eV} {x : Int32} {σ : xS} (h : ent G σ.1 k c V) : xm G (d + 1) mX3_hasRowOf [rf G (k + 1), .int x] σ (fun v σ' => v = some (.int (bI (V.1.2.2.2.findIdx? (fun e => e.1 == x)).isSome)) ∧ σ' = σ) := by
  have h2 := h.obj
  have h4 := h.cont
  have hb := h4.bnd
  refine xm_at 2 rfl (by decide) (Nat.le_of_ble_eq_true rfl) (by simp [Value.category]) tX3_hasRowOf_ok ?_
  try simp only [xlo0, List.map_cons, List.map_nil, List.length_cons, List.length_nil, xrs, xr0, Nat.reduceAdd, Nat.reduceSub, List.cons_append, List.nil_append, List.set_cons_zero, List.set_cons_succ, Option.toList_none, Option.toList_some, nI_1]
  refine xgo 80 rfl ?_
  try simp only [xlo0, List.map_cons, List.map_nil, List.length_cons, List.length_nil, xrs, xr0, Nat.reduceAdd, Nat.reduceSub, List.cons_append, List.nil_append, List.set_cons_zero, List.set_cons_succ, Option.toList_none, Option.toList_some, nI_1]
  refine xg 3 rfl rfl rfl h2 rfl ?_
  refine xgo 80 rfl ?_
  try simp only [xlo0, List.map_cons, List.map_nil, List.length_cons, List.length_nil, xrs, xr0, Nat.reduceAdd, Nat.reduceSub, List.cons_append, List.nil_append, List.set_cons_zero, List.set_cons_succ, Option.toList_none, Option.toList_some, nI_1]
  refine xcV 3 rfl rfl rfl (c_CT_rowOf h4) rfl kX2_rowOf iX2_rowOf h4.obj ⟨_, rfl, rfl⟩ rfl rfl (Nat.le_of_ble_eq_true rfl) (fun v1 s1 q1 => ?_)
  obtain ⟨rfl, rfl⟩ := q1
  cases hf : V.1.2.2.2.findIdx? (fun e => e.1 == x) with
  | none =>
    refine xgo 80 rfl ?_
    try simp only [xlo0, List.map_cons, List.map_nil, List.length_cons, List.length_nil, xrs, xr0, Nat.reduceAdd, Nat.reduceSub, List.cons_append, List.nil_append, List.set_cons_zero, List.set_cons_succ, Option.toList_none, Option.toList_some, nI_1]
    refine xi_iflt rfl (fun c1 => ?_) (fun c1 => ?_)
    · refine xgo 80 rfl ?_
      try simp only [xlo0, List.map_cons, List.map_nil, List.length_cons, List.length_nil, xrs, xr0, Nat.reduceAdd, Nat.reduceSub, List.cons_append, List.nil_append, List.set_cons_zero, List.set_cons_succ, Option.toList_none, Option.toList_some, nI_1]
      refine xi_ret_i rfl rfl (by decide) ⟨rfl, rfl⟩
    · exact absurd (by decide) c1
  | some i =>
    have hi : i < V.1.2.2.2.length := (List.findIdx?_eq_some_iff_getElem.mp hf).1
    refine xgo 80 rfl ?_
    try simp only [xlo0, List.map_cons, List.map_nil, List.length_cons, List.length_nil, xrs, xr0, Nat.reduceAdd, Nat.reduceSub, List.cons_append, List.nil_append, List.set_cons_zero, List.set_cons_succ, Option.toList_none, Option.toList_some, nI_1]
    refine xi_iflt rfl (fun c1 => ?_) (fun c1 => ?_)
    · exact absurd c1 (nI_pos (by omega))
    · refine xgo 80 rfl ?_
      try simp only [xlo0, List.map_cons, List.map_nil, List.length_cons, List.length_nil, xrs, xr0, Nat.reduceAdd, Nat.reduceSub, List.cons_append, List.nil_append, List.set_cons_zero, List.set_cons_succ, Option.toList_none, Option.toList_some, nI_1]
      refine xi_ret_i rfl rfl (by decide) ⟨rfl, rfl⟩
end
section
/-! ===== Shelf ===== -/
abbrev sL : Type := List (Nat × Nat × eV)
def shf (G : xG) (h : Nat → Option xC) (s : Nat) (L : sL) : Prop := L.length ≤ 12 ∧ h s = some (7, [rf G (s + 1), .int (nI L.length)]) ∧ (∃ ar : List Value, h (s + 1) = some (15, ar) ∧ ar.length = 12 ∧ ∀ (i : Nat) (x : Nat × Nat × eV), L[i]? = some x → ar[i]? = some (rf G (x.1 + 1))) ∧ ∀ (i : Nat) (x : Nat × Nat × eV), L[i]? = some x → ent G h x.1 x.2.1 x.2.2
theorem shf.ent {G : xG} {h : Nat → Option xC} {s : Nat} {L : sL} (H : shf G h s L) {i : Nat} {x : Nat × Nat × eV} (hi : L[i]? = some x) : ent G h x.1 x.2.1 x.2.2 := H.2.2.2 i x hi
set_option maxRecDepth 100000 in
set_option maxHeartbeats 8000000 in
theorem c_SH_init {G : xG} {d s : Nat} {σ : xS} (h : σ.1 s = some (7, xdef 7)) (hx : σ.2.1 = s + 1) : xm G (d + 1) mX7_init [rf G s] σ (fun v σ' => v = none ∧ shf G σ'.1 s [] ∧ (∀ q, (q < s ∨ s + 2 ≤ q) → σ'.1 q = σ.1 q) ∧ σ'.2.1 = s + 2 ∧ σ'.2.2 = σ.2.2 + 12) := by
  have hxd : xdef 7 = [.null, .int 0] := rfl
  rw [hxd] at h
  refine xm_at 1 rfl (by decide) (Nat.le_of_ble_eq_true rfl) (by simp [Value.category]) tX7_init_ok ?_
  try simp only [xlo0, List.map_cons, List.map_nil, List.length_cons, List.length_nil, xrs, xr0, Nat.reduceAdd, Nat.reduceSub, List.cons_append, List.nil_append, List.set_cons_zero, List.set_cons_succ, Option.toList_none, Option.toList_some, nI_1]
  refine xgo 80 rfl ?_
  try simp only [xlo0, List.map_cons, List.map_nil, List.length_cons, List.length_nil, xrs, xr0, Nat.reduceAdd, Nat.reduceSub, List.cons_append, List.nil_append, List.set_cons_zero, List.set_cons_succ, Option.toList_none, Option.toList_some, nI_1]
  refine xi_obj rfl oX7 (Nat.le_of_ble_eq_true rfl) ?_
  refine xgo 80 rfl ?_
  try simp only [xlo0, List.map_cons, List.map_nil, List.length_cons, List.length_nil, xrs, xr0, Nat.reduceAdd, Nat.reduceSub, List.cons_append, List.nil_append, List.set_cons_zero, List.set_cons_succ, Option.toList_none, Option.toList_some, nI_1]
  refine xnb (t := 15) (N := 12) hx rfl (by decide) (by decide) rfl (by decide) cX7_9 (by decide) rfl (by decide) (fun s1 n1 f1 g1 k1 => ?_)
  have h := (f1 _ (by omega)).trans h
  refine xgo 80 rfl ?_
  try simp only [xlo0, List.map_cons, List.map_nil, List.length_cons, List.length_nil, xrs, xr0, Nat.reduceAdd, Nat.reduceSub, List.cons_append, List.nil_append, List.set_cons_zero, List.set_cons_succ, Option.toList_none, Option.toList_some, nI_1]
  refine xpF rfl fX7_11F rfl h rfl rfl rfl (fun s2 n2 f2 e2 => ?_)
  have n1 := (f2 _ (by omega)).trans n1
  have e21 : s2.2.1 = s1.2.1 := congrArg Prod.fst e2
  have e22 : s2.2.2 = s1.2.2 := congrArg Prod.snd e2
  refine xgo 80 rfl ?_
  try simp only [xlo0, List.map_cons, List.map_nil, List.length_cons, List.length_nil, xrs, xr0, Nat.reduceAdd, Nat.reduceSub, List.cons_append, List.nil_append, List.set_cons_zero, List.set_cons_succ, Option.toList_none, Option.toList_some, nI_1]
  refine xi_ret_v rfl rfl ⟨rfl, ⟨by simp, n2, ⟨_, n1, by simp, fun i x h => by simp at h⟩, fun i x h => by simp at h⟩, fun q hq => by rw [f2 q (by omega), f1 q (by omega)], by omega, by omega⟩
set_option maxRecDepth 100000 in
set_option maxHeartbeats 8000000 in
theorem c_SH_at {G : xG} {d s j : Nat} {L : sL} {x : Nat × Nat × eV} {σ : xS} (h : shf G σ.1 s L) (hj : L[j]? = some x) : xm G d mX7_at [rf G s, .int (nI j)] σ (fun v σ' => v = some (rf G (x.1 + 1)) ∧ σ' = σ) := by
  obtain ⟨h1, h2, ⟨ar, h3, h4, h5⟩, h6⟩ := h
  have hjl : j < L.length := (List.getElem?_eq_some_iff.mp hj).1
  have hcl : (nI j).toNatClampNeg = j := nI_clamp (by omega)
  refine xm_at 2 rfl (by decide) (Nat.le_of_ble_eq_true rfl) (by simp [Value.category]) tX7_at_ok ?_
  try simp only [xlo0, List.map_cons, List.map_nil, List.length_cons, List.length_nil, xrs, xr0, Nat.reduceAdd, Nat.reduceSub, List.cons_append, List.nil_append, List.set_cons_zero, List.set_cons_succ, Option.toList_none, Option.toList_some, nI_1]
  refine xgo 80 rfl ?_
  try simp only [xlo0, List.map_cons, List.map_nil, List.length_cons, List.length_nil, xrs, xr0, Nat.reduceAdd, Nat.reduceSub, List.cons_append, List.nil_append, List.set_cons_zero, List.set_cons_succ, Option.toList_none, Option.toList_some, nI_1]
  refine xi_iflt rfl (fun c1 => ?_) (fun c1 => ?_)
  · exact absurd c1 (nI_pos (by omega))
  refine xgo 80 rfl ?_
  try simp only [xlo0, List.map_cons, List.map_nil, List.length_cons, List.length_nil, xrs, xr0, Nat.reduceAdd, Nat.reduceSub, List.cons_append, List.nil_append, List.set_cons_zero, List.set_cons_succ, Option.toList_none, Option.toList_some, nI_1]
  refine xg 7 rfl rfl rfl h2 rfl ?_
  refine xgo 80 rfl ?_
  try simp only [xlo0, List.map_cons, List.map_nil, List.length_cons, List.length_nil, xrs, xr0, Nat.reduceAdd, Nat.reduceSub, List.cons_append, List.nil_append, List.set_cons_zero, List.set_cons_succ, Option.toList_none, Option.toList_some, nI_1]
  refine xi_icmpge rfl (fun c2 => ?_) (fun c2 => ?_)
  · exact absurd c2 (by rw [i_le, i_n (by omega), i_n (by omega)]; omega)
  refine xgo 80 rfl ?_
  try simp only [xlo0, List.map_cons, List.map_nil, List.length_cons, List.length_nil, xrs, xr0, Nat.reduceAdd, Nat.reduceSub, List.cons_append, List.nil_append, List.set_cons_zero, List.set_cons_succ, Option.toList_none, Option.toList_some, nI_1]
  refine xg 7 rfl rfl rfl h2 rfl ?_
  refine xgo 80 rfl ?_
  try simp only [xlo0, List.map_cons, List.map_nil, List.length_cons, List.length_nil, xrs, xr0, Nat.reduceAdd, Nat.reduceSub, List.cons_append, List.nil_append, List.set_cons_zero, List.set_cons_succ, Option.toList_none, Option.toList_some, nI_1]
  refine xi_aald rfl h3 (by decide) (nI_pos (by omega)) (by rw [hcl]; exact h5 j x hj) ?_
  refine xgo 80 rfl ?_
  try simp only [xlo0, List.map_cons, List.map_nil, List.length_cons, List.length_nil, xrs, xr0, Nat.reduceAdd, Nat.reduceSub, List.cons_append, List.nil_append, List.set_cons_zero, List.set_cons_succ, Option.toList_none, Option.toList_some, nI_1]
  refine xi_ret_a rfl rfl (Or.inl ⟨_, rfl⟩) (Or.inr ⟨_, rfl⟩) ⟨rfl, rfl⟩
set_option maxRecDepth 100000 in
set_option maxHeartbeats 8000000 in
theorem c_SH_atN {G : xG} {d s : Nat} {L : sL} {i : Int32} {σ : xS} (h : shf G σ.1 s L) (hi : i.toInt < 0 ∨ (L.length : Int) ≤ i.toInt) : xm G d mX7_at [rf G s, .int i] σ (fun v σ' => v = some .null ∧ σ' = σ) := by
  obtain ⟨h1, h2, ⟨ar, h3, h4, h5⟩, h6⟩ := h
  have z : (0 : Int32).toInt = 0 := rfl
  refine xm_at 2 rfl (by decide) (Nat.le_of_ble_eq_true rfl) (by simp [Value.category]) tX7_at_ok ?_
  try simp only [xlo0, List.map_cons, List.map_nil, List.length_cons, List.length_nil, xrs, xr0, Nat.reduceAdd, Nat.reduceSub, List.cons_append, List.nil_append, List.set_cons_zero, List.set_cons_succ, Option.toList_none, Option.toList_some, nI_1]
  refine xgo 80 rfl ?_
  try simp only [xlo0, List.map_cons, List.map_nil, List.length_cons, List.length_nil, xrs, xr0, Nat.reduceAdd, Nat.reduceSub, List.cons_append, List.nil_append, List.set_cons_zero, List.set_cons_succ, Option.toList_none, Option.toList_some, nI_1]
  refine xi_iflt rfl (fun c1 => ?_) (fun c1 => ?_)
  · refine xgo 80 rfl ?_
    try simp only [xlo0, List.map_cons, List.map_nil, List.length_cons, List.length_nil, xrs, xr0, Nat.reduceAdd, Nat.reduceSub, List.cons_append, List.nil_append, List.set_cons_zero, List.set_cons_succ, Option.toList_none, Option.toList_some, nI_1]
    refine xi_ret_a rfl rfl (Or.inl ⟨_, rfl⟩) (Or.inl rfl) ⟨rfl, rfl⟩
  refine xgo 80 rfl ?_
  try simp only [xlo0, List.map_cons, List.map_nil, List.length_cons, List.length_nil, xrs, xr0, Nat.reduceAdd, Nat.reduceSub, List.cons_append, List.nil_append, List.set_cons_zero, List.set_cons_succ, Option.toList_none, Option.toList_some, nI_1]
  refine xg 7 rfl rfl rfl h2 rfl ?_
  refine xgo 80 rfl ?_
  try simp only [xlo0, List.map_cons, List.map_nil, List.length_cons, List.length_nil, xrs, xr0, Nat.reduceAdd, Nat.reduceSub, List.cons_append, List.nil_append, List.set_cons_zero, List.set_cons_succ, Option.toList_none, Option.toList_some, nI_1]
  refine xi_icmpge rfl (fun c2 => ?_) (fun c2 => ?_)
  · refine xgo 80 rfl ?_
    try simp only [xlo0, List.map_cons, List.map_nil, List.length_cons, List.length_nil, xrs, xr0, Nat.reduceAdd, Nat.reduceSub, List.cons_append, List.nil_append, List.set_cons_zero, List.set_cons_succ, Option.toList_none, Option.toList_some, nI_1]
    refine xi_ret_a rfl rfl (Or.inl ⟨_, rfl⟩) (Or.inl rfl) ⟨rfl, rfl⟩
  rw [i_le, i_n (by omega)] at c2
  rw [i_lt] at c1
  omega
/-- does what K says suit the need nd? -/
def suit (K : cV) (nd : Int32 × Int32 × Int32) : Bool := (K.1.1 == nd.1) && (if nd.2.2 = 0 then decide (K.1.2.1 ≤ nd.2.1) else K.1.2.1 == nd.2.1)
set_option maxRecDepth 100000 in
set_option maxHeartbeats 8000000 in
theorem c_SH_suits {G : xG} {d a b j : Nat} {K1 K2 : cV} {nd : Int32 × Int32 × Int32} {σ : xS} (h1 : cont G σ.1 a K1) (h2 : cont G σ.1 b K2) (hj : K2.2.1[j]? = some nd) : xm G (d + 1) mX7_suits [rf G a, rf G b, .int (nI j)] σ (fun v σ' => v = some (.int (bI (suit K1 nd))) ∧ σ' = σ) := by
  have o1 := h1.obj
  have hb := h2.bnd
  obtain ⟨nn, ne, nx, sa, ks, ps, ln, pg, g0, g1, g2, g3, g4, g5, g6, g7, g8, hp, r1, r2, r3⟩ := h2
  have hjl : j < K2.2.1.length := (List.getElem?_eq_some_iff.mp hj).1
  have hcl : (nI j).toNatClampNeg = j := nI_clamp (by omega)
  obtain ⟨a1, a2, a3⟩ := r1.2.2.2.2 j nd hj
  refine xm_at 4 rfl (by decide) (Nat.le_of_ble_eq_true rfl) (by simp [Value.category]) tX7_suits_ok ?_
  try simp only [xlo0, List.map_cons, List.map_nil, List.length_cons, List.length_nil, xrs, xr0, Nat.reduceAdd, Nat.reduceSub, List.cons_append, List.nil_append, List.set_cons_zero, List.set_cons_succ, Option.toList_none, Option.toList_some, nI_1]
  refine xgo 80 rfl ?_
  try simp only [xlo0, List.map_cons, List.map_nil, List.length_cons, List.length_nil, xrs, xr0, Nat.reduceAdd, Nat.reduceSub, List.cons_append, List.nil_append, List.set_cons_zero, List.set_cons_succ, Option.toList_none, Option.toList_some, nI_1]
  refine xg 7 rfl rfl rfl g0 rfl ?_
  refine xgo 80 rfl ?_
  try simp only [xlo0, List.map_cons, List.map_nil, List.length_cons, List.length_nil, xrs, xr0, Nat.reduceAdd, Nat.reduceSub, List.cons_append, List.nil_append, List.set_cons_zero, List.set_cons_succ, Option.toList_none, Option.toList_some, nI_1]
  refine xcS 7 rfl rfl rfl c_isBelow rfl kX8_isBelow iX8_isBelow rfl rfl (Nat.le_of_ble_eq_true rfl) (fun v1 s1 q1 => ?_)
  obtain ⟨rfl, rfl⟩ := q1
  rw [if_pos (by rw [i_n (by omega), i_n (by omega)]; omega)]
  refine xgo 80 rfl ?_
  try simp only [xlo0, List.map_cons, List.map_nil, List.length_cons, List.length_nil, xrs, xr0, Nat.reduceAdd, Nat.reduceSub, List.cons_append, List.nil_append, List.set_cons_zero, List.set_cons_succ, Option.toList_none, Option.toList_some, nI_1]
  refine xi_ifeq rfl (fun c1 => ?_) (fun c1 => ?_)
  · exact absurd c1 (by decide)
  refine xgo 80 rfl ?_
  try simp only [xlo0, List.map_cons, List.map_nil, List.length_cons, List.length_nil, xrs, xr0, Nat.reduceAdd, Nat.reduceSub, List.cons_append, List.nil_append, List.set_cons_zero, List.set_cons_succ, Option.toList_none, Option.toList_some, nI_1]
  refine xg 7 rfl rfl rfl o1 rfl ?_
  refine xgo 80 rfl ?_
  try simp only [xlo0, List.map_cons, List.map_nil, List.length_cons, List.length_nil, xrs, xr0, Nat.reduceAdd, Nat.reduceSub, List.cons_append, List.nil_append, List.set_cons_zero, List.set_cons_succ, Option.toList_none, Option.toList_some, nI_1]
  refine xg 7 rfl rfl rfl g0 rfl ?_
  refine xgo 80 rfl ?_
  try simp only [xlo0, List.map_cons, List.map_nil, List.length_cons, List.length_nil, xrs, xr0, Nat.reduceAdd, Nat.reduceSub, List.cons_append, List.nil_append, List.set_cons_zero, List.set_cons_succ, Option.toList_none, Option.toList_some, nI_1]
  refine xi_iald rfl g1 (nI_pos (by omega)) (by rw [hcl]; exact vi_get a1) ?_
  refine xgo 80 rfl ?_
  try simp only [xlo0, List.map_cons, List.map_nil, List.length_cons, List.length_nil, xrs, xr0, Nat.reduceAdd, Nat.reduceSub, List.cons_append, List.nil_append, List.set_cons_zero, List.set_cons_succ, Option.toList_none, Option.toList_some, nI_1]
  refine xi_icmpeq rfl (fun c2 => ?_) (fun c2 => ?_)
  · refine xgo 80 rfl ?_
    try simp only [xlo0, List.map_cons, List.map_nil, List.length_cons, List.length_nil, xrs, xr0, Nat.reduceAdd, Nat.reduceSub, List.cons_append, List.nil_append, List.set_cons_zero, List.set_cons_succ, Option.toList_none, Option.toList_some, nI_1]
    refine xg 7 rfl rfl rfl g0 rfl ?_
    refine xgo 80 rfl ?_
    try simp only [xlo0, List.map_cons, List.map_nil, List.length_cons, List.length_nil, xrs, xr0, Nat.reduceAdd, Nat.reduceSub, List.cons_append, List.nil_append, List.set_cons_zero, List.set_cons_succ, Option.toList_none, Option.toList_some, nI_1]
    refine xi_iald rfl g2 (nI_pos (by omega)) (by rw [hcl]; exact vi_get a2) ?_
    refine xgo 80 rfl ?_
    try simp only [xlo0, List.map_cons, List.map_nil, List.length_cons, List.length_nil, xrs, xr0, Nat.reduceAdd, Nat.reduceSub, List.cons_append, List.nil_append, List.set_cons_zero, List.set_cons_succ, Option.toList_none, Option.toList_some, nI_1]
    refine xg 7 rfl rfl rfl g0 rfl ?_
    refine xgo 80 rfl ?_
    try simp only [xlo0, List.map_cons, List.map_nil, List.length_cons, List.length_nil, xrs, xr0, Nat.reduceAdd, Nat.reduceSub, List.cons_append, List.nil_append, List.set_cons_zero, List.set_cons_succ, Option.toList_none, Option.toList_some, nI_1]
    refine xi_zald rfl g3 (nI_pos (by omega)) (by rw [hcl]; exact vi_get a3) ?_
    refine xgo 80 rfl ?_
    try simp only [xlo0, List.map_cons, List.map_nil, List.length_cons, List.length_nil, xrs, xr0, Nat.reduceAdd, Nat.reduceSub, List.cons_append, List.nil_append, List.set_cons_zero, List.set_cons_succ, Option.toList_none, Option.toList_some, nI_1]
    refine xi_ifeq rfl (fun c3 => ?_) (fun c3 => ?_)
    · refine xgo 80 rfl ?_
      try simp only [xlo0, List.map_cons, List.map_nil, List.length_cons, List.length_nil, xrs, xr0, Nat.reduceAdd, Nat.reduceSub, List.cons_append, List.nil_append, List.set_cons_zero, List.set_cons_succ, Option.toList_none, Option.toList_some, nI_1]
      refine xg 7 rfl rfl rfl o1 rfl ?_
      refine xgo 80 rfl ?_
      try simp only [xlo0, List.map_cons, List.map_nil, List.length_cons, List.length_nil, xrs, xr0, Nat.reduceAdd, Nat.reduceSub, List.cons_append, List.nil_append, List.set_cons_zero, List.set_cons_succ, Option.toList_none, Option.toList_some, nI_1]
      refine xi_icmpgt rfl (fun c4 => ?_) (fun c4 => ?_)
      · refine xgo 80 rfl ?_
        try simp only [xlo0, List.map_cons, List.map_nil, List.length_cons, List.length_nil, xrs, xr0, Nat.reduceAdd, Nat.reduceSub, List.cons_append, List.nil_append, List.set_cons_zero, List.set_cons_succ, Option.toList_none, Option.toList_some, nI_1]
        refine xi_ret_i rfl rfl (by decide) ⟨by have : ¬ K1.1.2.1 ≤ nd.2.1 := (by rw [i_le]; rw [i_lt] at c4; omega); simp [suit, c3, this, bI], rfl⟩
      · refine xgo 80 rfl ?_
        try simp only [xlo0, List.map_cons, List.map_nil, List.length_cons, List.length_nil, xrs, xr0, Nat.reduceAdd, Nat.reduceSub, List.cons_append, List.nil_append, List.set_cons_zero, List.set_cons_succ, Option.toList_none, Option.toList_some, nI_1]
        refine xi_ret_i rfl rfl (by decide) ⟨by have : K1.1.2.1 ≤ nd.2.1 := (by rw [i_le]; rw [i_lt] at c4; omega); simp [suit, c2, c3, this, bI], rfl⟩
    · refine xgo 80 rfl ?_
      try simp only [xlo0, List.map_cons, List.map_nil, List.length_cons, List.length_nil, xrs, xr0, Nat.reduceAdd, Nat.reduceSub, List.cons_append, List.nil_append, List.set_cons_zero, List.set_cons_succ, Option.toList_none, Option.toList_some, nI_1]
      refine xg 7 rfl rfl rfl o1 rfl ?_
      refine xgo 80 rfl ?_
      try simp only [xlo0, List.map_cons, List.map_nil, List.length_cons, List.length_nil, xrs, xr0, Nat.reduceAdd, Nat.reduceSub, List.cons_append, List.nil_append, List.set_cons_zero, List.set_cons_succ, Option.toList_none, Option.toList_some, nI_1]
      refine xi_icmpne rfl (fun c4 => ?_) (fun c4 => ?_)
      · refine xgo 80 rfl ?_
        try simp only [xlo0, List.map_cons, List.map_nil, List.length_cons, List.length_nil, xrs, xr0, Nat.reduceAdd, Nat.reduceSub, List.cons_append, List.nil_append, List.set_cons_zero, List.set_cons_succ, Option.toList_none, Option.toList_some, nI_1]
        refine xi_ret_i rfl rfl (by decide) ⟨by simp [suit, c3, c4, bI], rfl⟩
      · refine xgo 80 rfl ?_
        try simp only [xlo0, List.map_cons, List.map_nil, List.length_cons, List.length_nil, xrs, xr0, Nat.reduceAdd, Nat.reduceSub, List.cons_append, List.nil_append, List.set_cons_zero, List.set_cons_succ, Option.toList_none, Option.toList_some, nI_1]
        refine xi_ret_i rfl rfl (by decide) ⟨by simp [suit, c2, c3, c4, bI], rfl⟩
  · refine xgo 80 rfl ?_
    try simp only [xlo0, List.map_cons, List.map_nil, List.length_cons, List.length_nil, xrs, xr0, Nat.reduceAdd, Nat.reduceSub, List.cons_append, List.nil_append, List.set_cons_zero, List.set_cons_succ, Option.toList_none, Option.toList_some, nI_1]
    refine xi_ret_i rfl rfl (by decide) ⟨by simp [suit, c2, bI], rfl⟩
/-- the best so far: its number, its edition -/
def mstep (nd : Int32 × Int32 × Int32) (j : Nat) (V : eV) (acc : Int32 × Int32) : Int32 × Int32 := if V.2.2.2.1 = 0 ∧ suit V.1 nd = true ∧ acc.2 ≤ V.1.1.2.1 then (nI j, V.1.1.2.1) else acc
def mfold (nd : Int32 × Int32 × Int32) : sL → Nat → Int32 × Int32 → Int32 × Int32
  | [], _, acc => acc
  | x :: xs, j, acc => mfold nd xs (j + 1) (mstep nd j x.2.2 acc)
/-- the entry that meets the need nd, or -1 -/
def meetI (L : sL) (nd : Int32 × Int32 × Int32) : Int32 := (mfold nd L 0 (-1, -1)).1
theorem drop_cons {α : Type} {l : List α} {j : Nat} {x : α} (h : l[j]? = some x) : l.drop j = x :: l.drop (j + 1) := by
  obtain ⟨h1, h2⟩ := List.getElem?_eq_some_iff.mp h
  rw [List.drop_eq_getElem_cons h1, h2]
set_option maxRecDepth 100000 in
set_option maxHeartbeats 8000000 in
theorem l_SH_meeting {G : xG} {d s b i : Nat} {L : sL} {K : cV} {nd : Int32 × Int32 × Int32} {σ : xS} (h : shf G σ.1 s L) (hK : cont G σ.1 b K) (hi : K.2.1[i]? = some nd) : ∀ (n j : Nat) (acc : Int32 × Int32) (x6 : Option Value), j + n = L.length → mfold nd (L.drop j) j acc = mfold nd L 0 (-1, -1) →
    xw G (d + 2) mX7_meeting 8 [some (rf G s), some (rf G b), some (.int (nI i)), some (.int acc.1), some (.int acc.2), some (.int (nI j)), x6] [] σ (fun v σ' => v = some (.int (meetI L nd)) ∧ σ' = σ) := by
  have hL := h.1
  have h2 := h.2.1
  intro n
  induction n with
  | zero =>
    intro j acc x6 hj hm
    have hj' : j = L.length := by omega
    subst hj'
    rw [List.drop_length] at hm
    refine xgo 80 rfl ?_
    try simp only [xlo0, List.map_cons, List.map_nil, List.length_cons, List.length_nil, xrs, xr0, Nat.reduceAdd, Nat.reduceSub, List.cons_append, List.nil_append, List.set_cons_zero, List.set_cons_succ, Option.toList_none, Option.toList_some, nI_1]
    refine xg 7 rfl rfl rfl h2 rfl ?_
    refine xgo 80 rfl ?_
    try simp only [xlo0, List.map_cons, List.map_nil, List.length_cons, List.length_nil, xrs, xr0, Nat.reduceAdd, Nat.reduceSub, List.cons_append, List.nil_append, List.set_cons_zero, List.set_cons_succ, Option.toList_none, Option.toList_some, nI_1]
    refine xi_icmpge rfl (fun c1 => ?_) (fun c1 => ?_)
    · refine xgo 80 rfl ?_
      try simp only [xlo0, List.map_cons, List.map_nil, List.length_cons, List.length_nil, xrs, xr0, Nat.reduceAdd, Nat.reduceSub, List.cons_append, List.nil_append, List.set_cons_zero, List.set_cons_succ, Option.toList_none, Option.toList_some, nI_1]
      refine xi_ret_i rfl rfl rfl ⟨by rw [meetI, ← hm]; rfl, rfl⟩
    · exact absurd (i_le.mpr (Int.le_refl _)) c1
  | succ n ih =>
    intro j acc x6 hj hm
    obtain ⟨x, hx⟩ := lt_get (l := L) (j := j) (by omega)
    have hen := h.ent hx
    rw [drop_cons hx] at hm
    have hm : mfold nd (L.drop (j + 1)) (j + 1) (mstep nd j x.2.2 acc) = mfold nd L 0 (-1, -1) := hm
    refine xgo 80 rfl ?_
    try simp only [xlo0, List.map_cons, List.map_nil, List.length_cons, List.length_nil, xrs, xr0, Nat.reduceAdd, Nat.reduceSub, List.cons_append, List.nil_append, List.set_cons_zero, List.set_cons_succ, Option.toList_none, Option.toList_some, nI_1]
    refine xg 7 rfl rfl rfl h2 rfl ?_
    refine xgo 80 rfl ?_
    try simp only [xlo0, List.map_cons, List.map_nil, List.length_cons, List.length_nil, xrs, xr0, Nat.reduceAdd, Nat.reduceSub, List.cons_append, List.nil_append, List.set_cons_zero, List.set_cons_succ, Option.toList_none, Option.toList_some, nI_1]
    refine xi_icmpge rfl (fun c1 => ?_) (fun c1 => ?_)
    · exact absurd c1 (by rw [i_le, i_n (by omega), i_n (by omega)]; omega)
    refine xgo 80 rfl ?_
    try simp only [xlo0, List.map_cons, List.map_nil, List.length_cons, List.length_nil, xrs, xr0, Nat.reduceAdd, Nat.reduceSub, List.cons_append, List.nil_append, List.set_cons_zero, List.set_cons_succ, Option.toList_none, Option.toList_some, nI_1]
    refine xcV 7 rfl rfl rfl (c_SH_at h hx) rfl kX7_at iX7_at h2 ⟨_, rfl, rfl⟩ rfl rfl (Nat.le_of_ble_eq_true rfl) (fun v1 s1 q1 => ?_)
    obtain ⟨rfl, rfl⟩ := q1
    refine xgo 80 rfl ?_
    try simp only [xlo0, List.map_cons, List.map_nil, List.length_cons, List.length_nil, xrs, xr0, Nat.reduceAdd, Nat.reduceSub, List.cons_append, List.nil_append, List.set_cons_zero, List.set_cons_succ, Option.toList_none, Option.toList_some, nI_1]
    refine xi_ifnull_r rfl ?_
    refine xgo 80 rfl ?_
    try simp only [xlo0, List.map_cons, List.map_nil, List.length_cons, List.length_nil, xrs, xr0, Nat.reduceAdd, Nat.reduceSub, List.cons_append, List.nil_append, List.set_cons_zero, List.set_cons_succ, Option.toList_none, Option.toList_some, nI_1]
    refine xg 7 rfl rfl rfl hen.obj rfl ?_
    refine xgo 80 rfl ?_
    try simp only [xlo0, List.map_cons, List.map_nil, List.length_cons, List.length_nil, xrs, xr0, Nat.reduceAdd, Nat.reduceSub, List.cons_append, List.nil_append, List.set_cons_zero, List.set_cons_succ, Option.toList_none, Option.toList_some, nI_1]
    refine xi_ifne rfl (fun c2 => ?_) (fun c2 => ?_)
    · refine xto 8 80 rfl ?_
      try simp only [xlo0, List.map_cons, List.map_nil, List.length_cons, List.length_nil, xrs, xr0, Nat.reduceAdd, Nat.reduceSub, List.cons_append, List.nil_append, List.set_cons_zero, List.set_cons_succ, Option.toList_none, Option.toList_some, nI_1]
      refine ih (j + 1) acc _ (by omega) ?_
      rw [← hm, mstep, if_neg (fun q => c2 q.1)]
    refine xgo 80 rfl ?_
    try simp only [xlo0, List.map_cons, List.map_nil, List.length_cons, List.length_nil, xrs, xr0, Nat.reduceAdd, Nat.reduceSub, List.cons_append, List.nil_append, List.set_cons_zero, List.set_cons_succ, Option.toList_none, Option.toList_some, nI_1]
    refine xg 7 rfl rfl rfl hen.obj rfl ?_
    refine xgo 80 rfl ?_
    try simp only [xlo0, List.map_cons, List.map_nil, List.length_cons, List.length_nil, xrs, xr0, Nat.reduceAdd, Nat.reduceSub, List.cons_append, List.nil_append, List.set_cons_zero, List.set_cons_succ, Option.toList_none, Option.toList_some, nI_1]
    refine xcS 7 rfl rfl rfl (c_SH_suits hen.cont hK hi) rfl kX7_suits iX7_suits rfl rfl (Nat.le_of_ble_eq_true rfl) (fun v2 s2 q2 => ?_)
    obtain ⟨rfl, rfl⟩ := q2
    cases hsu : suit x.2.2.1 nd with
    | false =>
      refine xgo 80 rfl ?_
      try simp only [xlo0, List.map_cons, List.map_nil, List.length_cons, List.length_nil, xrs, xr0, Nat.reduceAdd, Nat.reduceSub, List.cons_append, List.nil_append, List.set_cons_zero, List.set_cons_succ, Option.toList_none, Option.toList_some, nI_1]
      refine xi_ifeq rfl (fun c3 => ?_) (fun c3 => ?_)
      · refine xto 8 80 rfl ?_
        try simp only [xlo0, List.map_cons, List.map_nil, List.length_cons, List.length_nil, xrs, xr0, Nat.reduceAdd, Nat.reduceSub, List.cons_append, List.nil_append, List.set_cons_zero, List.set_cons_succ, Option.toList_none, Option.toList_some, nI_1]
        refine ih (j + 1) acc _ (by omega) ?_
        rw [← hm, mstep, if_neg (fun q => by rw [hsu] at q; exact absurd q.2.1 (by decide))]
      · exact absurd rfl c3
    | true =>
      refine xgo 80 rfl ?_
      try simp only [xlo0, List.map_cons, List.map_nil, List.length_cons, List.length_nil, xrs, xr0, Nat.reduceAdd, Nat.reduceSub, List.cons_append, List.nil_append, List.set_cons_zero, List.set_cons_succ, Option.toList_none, Option.toList_some, nI_1]
      refine xi_ifeq rfl (fun c3 => ?_) (fun c3 => ?_)
      · exact absurd c3 (by decide)
      refine xgo 80 rfl ?_
      try simp only [xlo0, List.map_cons, List.map_nil, List.length_cons, List.length_nil, xrs, xr0, Nat.reduceAdd, Nat.reduceSub, List.cons_append, List.nil_append, List.set_cons_zero, List.set_cons_succ, Option.toList_none, Option.toList_some, nI_1]
      refine xg 7 rfl rfl rfl hen.obj rfl ?_
      refine xgo 80 rfl ?_
      try simp only [xlo0, List.map_cons, List.map_nil, List.length_cons, List.length_nil, xrs, xr0, Nat.reduceAdd, Nat.reduceSub, List.cons_append, List.nil_append, List.set_cons_zero, List.set_cons_succ, Option.toList_none, Option.toList_some, nI_1]
      refine xg 7 rfl rfl rfl hen.cont.obj rfl ?_
      refine xgo 80 rfl ?_
      try simp only [xlo0, List.map_cons, List.map_nil, List.length_cons, List.length_nil, xrs, xr0, Nat.reduceAdd, Nat.reduceSub, List.cons_append, List.nil_append, List.set_cons_zero, List.set_cons_succ, Option.toList_none, Option.toList_some, nI_1]
      refine xi_icmplt rfl (fun c4 => ?_) (fun c4 => ?_)
      · refine xto 8 80 rfl ?_
        try simp only [xlo0, List.map_cons, List.map_nil, List.length_cons, List.length_nil, xrs, xr0, Nat.reduceAdd, Nat.reduceSub, List.cons_append, List.nil_append, List.set_cons_zero, List.set_cons_succ, Option.toList_none, Option.toList_some, nI_1]
        refine ih (j + 1) acc _ (by omega) ?_
        rw [← hm, mstep, if_neg (fun q => by have := q.2.2; rw [i_le] at this; rw [i_lt] at c4; omega)]
      · refine xgo 80 rfl ?_
        try simp only [xlo0, List.map_cons, List.map_nil, List.length_cons, List.length_nil, xrs, xr0, Nat.reduceAdd, Nat.reduceSub, List.cons_append, List.nil_append, List.set_cons_zero, List.set_cons_succ, Option.toList_none, Option.toList_some, nI_1]
        refine xg 7 rfl rfl rfl hen.obj rfl ?_
        refine xgo 80 rfl ?_
        try simp only [xlo0, List.map_cons, List.map_nil, List.length_cons, List.length_nil, xrs, xr0, Nat.reduceAdd, Nat.reduceSub, List.cons_append, List.nil_append, List.set_cons_zero, List.set_cons_succ, Option.toList_none, Option.toList_some, nI_1]
        refine xg 7 rfl rfl rfl hen.cont.obj rfl ?_
        refine xto 8 80 rfl ?_
        try simp only [xlo0, List.map_cons, List.map_nil, List.length_cons, List.length_nil, xrs, xr0, Nat.reduceAdd, Nat.reduceSub, List.cons_append, List.nil_append, List.set_cons_zero, List.set_cons_succ, Option.toList_none, Option.toList_some, nI_1]
        refine ih (j + 1) (nI j, x.2.2.1.1.2.1) _ (by omega) ?_
        rw [← hm, mstep, if_pos ⟨c2, hsu, by rw [i_le]; rw [i_lt] at c4; omega⟩]
set_option maxRecDepth 100000 in
set_option maxHeartbeats 8000000 in
theorem c_SH_meeting {G : xG} {d s b i : Nat} {L : sL} {K : cV} {nd : Int32 × Int32 × Int32} {σ : xS} (h : shf G σ.1 s L) (hK : cont G σ.1 b K) (hi : K.2.1[i]? = some nd) : xm G (d + 2) mX7_meeting [rf G s, rf G b, .int (nI i)] σ (fun v σ' => v = some (.int (meetI L nd)) ∧ σ' = σ) := by
  refine xm_at 7 rfl (by decide) (Nat.le_of_ble_eq_true rfl) (by simp [Value.category]) tX7_meeting_ok ?_
  try simp only [xlo0, List.map_cons, List.map_nil, List.length_cons, List.length_nil, xrs, xr0, Nat.reduceAdd, Nat.reduceSub, List.cons_append, List.nil_append, List.set_cons_zero, List.set_cons_succ, Option.toList_none, Option.toList_some, nI_1]
  refine xto 8 80 rfl ?_
  try simp only [xlo0, List.map_cons, List.map_nil, List.length_cons, List.length_nil, xrs, xr0, Nat.reduceAdd, Nat.reduceSub, List.cons_append, List.nil_append, List.set_cons_zero, List.set_cons_succ, Option.toList_none, Option.toList_some, nI_1]
  exact l_SH_meeting h hK hi L.length 0 (-1, -1) none (by omega) rfl
end
section
set_option maxRecDepth 100000 in
set_option maxHeartbeats 8000000 in
theorem l_SH_firstUnmet {G : xG} {d s b : Nat} {L : sL} {K : cV} {σ : xS} (h : shf G σ.1 s L) (hK : cont G σ.1 b K) : ∀ (n j : Nat), j + n = K.2.1.length → (∀ i e, i < j → K.2.1[i]? = some e → decide (meetI L e < 0) = false) →
    xw G (d + 3) mX7_firstUnmet 2 [some (rf G s), some (rf G b), some (.int (nI j))] [] σ (fun v σ' => v = some (.int (oI (K.2.1.findIdx? (fun nd => decide (meetI L nd < 0))))) ∧ σ' = σ) := by
  have hb := hK.bnd
  have h2 := h.2.1
  intro n
  induction n with
  | zero =>
    intro j hj hi
    have hj' : j = K.2.1.length := by omega
    subst hj'
    refine xgo 80 rfl ?_
    try simp only [xlo0, List.map_cons, List.map_nil, List.length_cons, List.length_nil, xrs, xr0, Nat.reduceAdd, Nat.reduceSub, List.cons_append, List.nil_append, List.set_cons_zero, List.set_cons_succ, Option.toList_none, Option.toList_some, nI_1]
    refine xg 7 rfl rfl rfl hK.obj rfl ?_
    refine xgo 80 rfl ?_
    try simp only [xlo0, List.map_cons, List.map_nil, List.length_cons, List.length_nil, xrs, xr0, Nat.reduceAdd, Nat.reduceSub, List.cons_append, List.nil_append, List.set_cons_zero, List.set_cons_succ, Option.toList_none, Option.toList_some, nI_1]
    refine xi_icmpge rfl (fun c1 => ?_) (fun c1 => ?_)
    · refine xgo 80 rfl ?_
      try simp only [xlo0, List.map_cons, List.map_nil, List.length_cons, List.length_nil, xrs, xr0, Nat.reduceAdd, Nat.reduceSub, List.cons_append, List.nil_append, List.set_cons_zero, List.set_cons_succ, Option.toList_none, Option.toList_some, nI_1]
      refine xi_ret_i rfl rfl rfl ⟨by rw [fi_f hi]; rfl, rfl⟩
    · exact absurd (i_le.mpr (Int.le_refl _)) c1
  | succ n ih =>
    intro j hj hi
    obtain ⟨e, he⟩ := lt_get (l := K.2.1) (j := j) (by omega)
    refine xgo 80 rfl ?_
    try simp only [xlo0, List.map_cons, List.map_nil, List.length_cons, List.length_nil, xrs, xr0, Nat.reduceAdd, Nat.reduceSub, List.cons_append, List.nil_append, List.set_cons_zero, List.set_cons_succ, Option.toList_none, Option.toList_some, nI_1]
    refine xg 7 rfl rfl rfl hK.obj rfl ?_
    refine xgo 80 rfl ?_
    try simp only [xlo0, List.map_cons, List.map_nil, List.length_cons, List.length_nil, xrs, xr0, Nat.reduceAdd, Nat.reduceSub, List.cons_append, List.nil_append, List.set_cons_zero, List.set_cons_succ, Option.toList_none, Option.toList_some, nI_1]
    refine xi_icmpge rfl (fun c1 => ?_) (fun c1 => ?_)
    · exact absurd c1 (by rw [i_le, i_n (by omega), i_n (by omega)]; omega)
    refine xgo 80 rfl ?_
    try simp only [xlo0, List.map_cons, List.map_nil, List.length_cons, List.length_nil, xrs, xr0, Nat.reduceAdd, Nat.reduceSub, List.cons_append, List.nil_append, List.set_cons_zero, List.set_cons_succ, Option.toList_none, Option.toList_some, nI_1]
    refine xcV 7 rfl rfl rfl (c_SH_meeting h hK he) rfl kX7_meeting iX7_meeting h2 ⟨_, rfl, rfl⟩ rfl rfl (Nat.le_of_ble_eq_true rfl) (fun v1 s1 q1 => ?_)
    obtain ⟨rfl, rfl⟩ := q1
    refine xgo 80 rfl ?_
    try simp only [xlo0, List.map_cons, List.map_nil, List.length_cons, List.length_nil, xrs, xr0, Nat.reduceAdd, Nat.reduceSub, List.cons_append, List.nil_append, List.set_cons_zero, List.set_cons_succ, Option.toList_none, Option.toList_some, nI_1]
    refine xi_ifge rfl (fun c2 => ?_) (fun c2 => ?_)
    · refine xto 2 80 rfl ?_
      try simp only [xlo0, List.map_cons, List.map_nil, List.length_cons, List.length_nil, xrs, xr0, Nat.reduceAdd, Nat.reduceSub, List.cons_append, List.nil_append, List.set_cons_zero, List.set_cons_succ, Option.toList_none, Option.toList_some, nI_1]
      exact ih (j + 1) (by omega) (fun i e' h1 h2 => by
        by_cases hij : i = j
        · subst hij
          rw [he] at h2
          cases h2
          rw [decide_eq_false_iff_not, i_lt]
          rw [i_le] at c2
          omega
        · exact hi i e' (by omega) h2)
    · refine xgo 80 rfl ?_
      try simp only [xlo0, List.map_cons, List.map_nil, List.length_cons, List.length_nil, xrs, xr0, Nat.reduceAdd, Nat.reduceSub, List.cons_append, List.nil_append, List.set_cons_zero, List.set_cons_succ, Option.toList_none, Option.toList_some, nI_1]
      refine xi_ret_i rfl rfl rfl ⟨by rw [fi_t hi he (by rw [decide_eq_true_iff, i_lt]; rw [i_le] at c2; omega)]; rfl, rfl⟩
set_option maxRecDepth 100000 in
set_option maxHeartbeats 8000000 in
theorem c_SH_firstUnmet {G : xG} {d s b : Nat} {L : sL} {K : cV} {σ : xS} (h : shf G σ.1 s L) (hK : cont G σ.1 b K) : xm G (d + 3) mX7_firstUnmet [rf G s, rf G b] σ (fun v σ' => v = some (.int (oI (K.2.1.findIdx? (fun nd => decide (meetI L nd < 0))))) ∧ σ' = σ) := by
  refine xm_at 3 rfl (by decide) (Nat.le_of_ble_eq_true rfl) (by simp [Value.category]) tX7_firstUnmet_ok ?_
  try simp only [xlo0, List.map_cons, List.map_nil, List.length_cons, List.length_nil, xrs, xr0, Nat.reduceAdd, Nat.reduceSub, List.cons_append, List.nil_append, List.set_cons_zero, List.set_cons_succ, Option.toList_none, Option.toList_some, nI_1]
  refine xto 2 80 rfl ?_
  try simp only [xlo0, List.map_cons, List.map_nil, List.length_cons, List.length_nil, xrs, xr0, Nat.reduceAdd, Nat.reduceSub, List.cons_append, List.nil_append, List.set_cons_zero, List.set_cons_succ, Option.toList_none, Option.toList_some, nI_1]
  exact l_SH_firstUnmet h hK K.2.1.length 0 (by omega) (fun i e h => by omega)
/-- an entry of the shelf by a number of 32 bits -/
def sget (L : sL) (i : Int32) : Option (Nat × Nat × eV) := if i.toInt < 0 then none else L[i.toInt.toNat]?
theorem sget_s {L : sL} {i : Int32} {x : Nat × Nat × eV} (h : sget L i = some x) (hL : L.length ≤ 12) : ∃ j : Nat, i = nI j ∧ L[j]? = some x ∧ j < 12 := by
  unfold sget at h
  split at h
  · cases h
  · next hn =>
    have hlt := (List.getElem?_eq_some_iff.mp h).1
    refine ⟨i.toInt.toNat, ?_, h, by omega⟩
    rw [i_eq, i_n (by omega)]
    omega
theorem sget_n {L : sL} {i : Int32} (h : sget L i = none) : i.toInt < 0 ∨ (L.length : Int) ≤ i.toInt := by
  unfold sget at h
  split at h
  · next hn => exact Or.inl hn
  · next hn =>
    rw [List.getElem?_eq_none_iff] at h
    omega
theorem sget_nI {L : sL} {j : Nat} (hj : j < 2 ^ 31) : sget L (nI j) = L[j]? := by
  unfold sget
  rw [i_n hj, if_neg (by omega)]
  rfl
/-- what one need adds to what is seen -/
def sadd (L : sL) (seen e : Int32) : Int32 := match sget L e with
  | some x => seen ||| (((1 : Int32) <<< (e &&& 31)) ||| x.2.2.2.2.1)
  | none => seen
def seenI (L : sL) (K : cV) : Int32 := K.2.1.foldl (fun s nd => sadd L s (meetI L nd)) 0
set_option maxRecDepth 100000 in
set_option maxHeartbeats 8000000 in
theorem l_SH_seenBy {G : xG} {d s b : Nat} {L : sL} {K : cV} {σ : xS} (h : shf G σ.1 s L) (hK : cont G σ.1 b K) : ∀ (n j : Nat) (x4 x5 : Option Value) (acc : Int32), j + n = K.2.1.length → (K.2.1.drop j).foldl (fun s nd => sadd L s (meetI L nd)) acc = seenI L K →
    xw G (d + 3) mX7_seenBy 4 [some (rf G s), some (rf G b), some (.int acc), some (.int (nI j)), x4, x5] [] σ (fun v σ' => v = some (.int (seenI L K)) ∧ σ' = σ) := by
  have hb := hK.bnd
  have h2 := h.2.1
  intro n
  induction n with
  | zero =>
    intro j x4 x5 acc hj hm
    have hj' : j = K.2.1.length := by omega
    subst hj'
    rw [List.drop_length] at hm
    refine xgo 80 rfl ?_
    try simp only [xlo0, List.map_cons, List.map_nil, List.length_cons, List.length_nil, xrs, xr0, Nat.reduceAdd, Nat.reduceSub, List.cons_append, List.nil_append, List.set_cons_zero, List.set_cons_succ, Option.toList_none, Option.toList_some, nI_1]
    refine xg 7 rfl rfl rfl hK.obj rfl ?_
    refine xgo 80 rfl ?_
    try simp only [xlo0, List.map_cons, List.map_nil, List.length_cons, List.length_nil, xrs, xr0, Nat.reduceAdd, Nat.reduceSub, List.cons_append, List.nil_append, List.set_cons_zero, List.set_cons_succ, Option.toList_none, Option.toList_some, nI_1]
    refine xi_icmpge rfl (fun c1 => ?_) (fun c1 => ?_)
    · refine xgo 80 rfl ?_
      try simp only [xlo0, List.map_cons, List.map_nil, List.length_cons, List.length_nil, xrs, xr0, Nat.reduceAdd, Nat.reduceSub, List.cons_append, List.nil_append, List.set_cons_zero, List.set_cons_succ, Option.toList_none, Option.toList_some, nI_1]
      refine xi_ret_i rfl rfl rfl ⟨by rw [← hm]; rfl, rfl⟩
    · exact absurd (i_le.mpr (Int.le_refl _)) c1
  | succ n ih =>
    intro j x4 x5 acc hj hm
    obtain ⟨e, he⟩ := lt_get (l := K.2.1) (j := j) (by omega)
    rw [drop_cons he, List.foldl_cons] at hm
    refine xgo 80 rfl ?_
    try simp only [xlo0, List.map_cons, List.map_nil, List.length_cons, List.length_nil, xrs, xr0, Nat.reduceAdd, Nat.reduceSub, List.cons_append, List.nil_append, List.set_cons_zero, List.set_cons_succ, Option.toList_none, Option.toList_some, nI_1]
    refine xg 7 rfl rfl rfl hK.obj rfl ?_
    refine xgo 80 rfl ?_
    try simp only [xlo0, List.map_cons, List.map_nil, List.length_cons, List.length_nil, xrs, xr0, Nat.reduceAdd, Nat.reduceSub, List.cons_append, List.nil_append, List.set_cons_zero, List.set_cons_succ, Option.toList_none, Option.toList_some, nI_1]
    refine xi_icmpge rfl (fun c1 => ?_) (fun c1 => ?_)
    · exact absurd c1 (by rw [i_le, i_n (by omega), i_n (by omega)]; omega)
    refine xgo 80 rfl ?_
    try simp only [xlo0, List.map_cons, List.map_nil, List.length_cons, List.length_nil, xrs, xr0, Nat.reduceAdd, Nat.reduceSub, List.cons_append, List.nil_append, List.set_cons_zero, List.set_cons_succ, Option.toList_none, Option.toList_some, nI_1]
    refine xcV 7 rfl rfl rfl (c_SH_meeting h hK he) rfl kX7_meeting iX7_meeting h2 ⟨_, rfl, rfl⟩ rfl rfl (Nat.le_of_ble_eq_true rfl) (fun v1 s1 q1 => ?_)
    obtain ⟨rfl, rfl⟩ := q1
    cases hg : sget L (meetI L e) with
    | none =>
      refine xgo 80 rfl ?_
      try simp only [xlo0, List.map_cons, List.map_nil, List.length_cons, List.length_nil, xrs, xr0, Nat.reduceAdd, Nat.reduceSub, List.cons_append, List.nil_append, List.set_cons_zero, List.set_cons_succ, Option.toList_none, Option.toList_some, nI_1]
      refine xcV 7 rfl rfl rfl (c_SH_atN h (sget_n hg)) rfl kX7_at iX7_at h2 ⟨_, rfl, rfl⟩ rfl rfl (Nat.le_of_ble_eq_true rfl) (fun v2 s2 q2 => ?_)
      obtain ⟨rfl, rfl⟩ := q2
      refine xgo 80 rfl ?_
      try simp only [xlo0, List.map_cons, List.map_nil, List.length_cons, List.length_nil, xrs, xr0, Nat.reduceAdd, Nat.reduceSub, List.cons_append, List.nil_append, List.set_cons_zero, List.set_cons_succ, Option.toList_none, Option.toList_some, nI_1]
      refine xi_ifnull_n rfl ?_
      refine xto 4 80 rfl ?_
      try simp only [xlo0, List.map_cons, List.map_nil, List.length_cons, List.length_nil, xrs, xr0, Nat.reduceAdd, Nat.reduceSub, List.cons_append, List.nil_append, List.set_cons_zero, List.set_cons_succ, Option.toList_none, Option.toList_some, nI_1]
      refine ih (j + 1) _ _ acc (by omega) ?_
      rw [← hm, sadd, hg]
    | some x =>
      obtain ⟨k, hk, hx, hk12⟩ := sget_s hg h.1
      have hen := h.ent hx
      rw [hk]
      refine xgo 80 rfl ?_
      try simp only [xlo0, List.map_cons, List.map_nil, List.length_cons, List.length_nil, xrs, xr0, Nat.reduceAdd, Nat.reduceSub, List.cons_append, List.nil_append, List.set_cons_zero, List.set_cons_succ, Option.toList_none, Option.toList_some, nI_1]
      refine xcV 7 rfl rfl rfl (c_SH_at h hx) rfl kX7_at iX7_at h2 ⟨_, rfl, rfl⟩ rfl rfl (Nat.le_of_ble_eq_true rfl) (fun v2 s2 q2 => ?_)
      obtain ⟨rfl, rfl⟩ := q2
      refine xgo 80 rfl ?_
      try simp only [xlo0, List.map_cons, List.map_nil, List.length_cons, List.length_nil, xrs, xr0, Nat.reduceAdd, Nat.reduceSub, List.cons_append, List.nil_append, List.set_cons_zero, List.set_cons_succ, Option.toList_none, Option.toList_some, nI_1]
      refine xi_ifnull_r rfl ?_
      refine xgo 80 rfl ?_
      try simp only [xlo0, List.map_cons, List.map_nil, List.length_cons, List.length_nil, xrs, xr0, Nat.reduceAdd, Nat.reduceSub, List.cons_append, List.nil_append, List.set_cons_zero, List.set_cons_succ, Option.toList_none, Option.toList_some, nI_1]
      refine xg 7 rfl rfl rfl hen.obj rfl ?_
      refine xto 4 80 rfl ?_
      try simp only [xlo0, List.map_cons, List.map_nil, List.length_cons, List.length_nil, xrs, xr0, Nat.reduceAdd, Nat.reduceSub, List.cons_append, List.nil_append, List.set_cons_zero, List.set_cons_succ, Option.toList_none, Option.toList_some, nI_1]
      refine ih (j + 1) _ _ (acc ||| (((1 : Int32) <<< (nI k &&& 31)) ||| x.2.2.2.2.1)) (by omega) ?_
      rw [← hm, sadd, hg, hk]
set_option maxRecDepth 100000 in
set_option maxHeartbeats 8000000 in
theorem c_SH_seenBy {G : xG} {d s b : Nat} {L : sL} {K : cV} {σ : xS} (h : shf G σ.1 s L) (hK : cont G σ.1 b K) : xm G (d + 3) mX7_seenBy [rf G s, rf G b] σ (fun v σ' => v = some (.int (seenI L K)) ∧ σ' = σ) := by
  refine xm_at 6 rfl (by decide) (Nat.le_of_ble_eq_true rfl) (by simp [Value.category]) tX7_seenBy_ok ?_
  try simp only [xlo0, List.map_cons, List.map_nil, List.length_cons, List.length_nil, xrs, xr0, Nat.reduceAdd, Nat.reduceSub, List.cons_append, List.nil_append, List.set_cons_zero, List.set_cons_succ, Option.toList_none, Option.toList_some, nI_1]
  refine xto 4 80 rfl ?_
  try simp only [xlo0, List.map_cons, List.map_nil, List.length_cons, List.length_nil, xrs, xr0, Nat.reduceAdd, Nat.reduceSub, List.cons_append, List.nil_append, List.set_cons_zero, List.set_cons_succ, Option.toList_none, Option.toList_some, nI_1]
  exact l_SH_seenBy h hK K.2.1.length 0 none none 0 (by omega) rfl
/-- a group that one of the two seals and the other has a row of -/
def betw (g : Int32) (K : cV) (V : cV) : Bool := (V.2.2.1.any (fun e => e == g) && K.2.2.2.any (fun e => e.1 / 16 == g)) || (K.2.2.1.any (fun e => e == g) && V.2.2.2.any (fun e => e.1 / 16 == g))
set_option maxRecDepth 100000 in
set_option maxHeartbeats 8000000 in
theorem c_SH_isBetween {G : xG} {d b : Nat} {g : Int32} {K : cV} {x : Nat × Nat × eV} {σ : xS} (hK : cont G σ.1 b K) (hx : ent G σ.1 x.1 x.2.1 x.2.2) : xm G (d + 1) mX7_isBetween [.int g, rf G b, rf G (x.1 + 1)] σ (fun v σ' => v = some (.int (bI (betw g K x.2.2.1))) ∧ σ' = σ) := by
  have hc := hx.cont
  refine xm_at 3 rfl (by decide) (Nat.le_of_ble_eq_true rfl) (by simp [Value.category]) tX7_isBetween_ok ?_
  try simp only [xlo0, List.map_cons, List.map_nil, List.length_cons, List.length_nil, xrs, xr0, Nat.reduceAdd, Nat.reduceSub, List.cons_append, List.nil_append, List.set_cons_zero, List.set_cons_succ, Option.toList_none, Option.toList_some, nI_1]
  refine xgo 80 rfl ?_
  try simp only [xlo0, List.map_cons, List.map_nil, List.length_cons, List.length_nil, xrs, xr0, Nat.reduceAdd, Nat.reduceSub, List.cons_append, List.nil_append, List.set_cons_zero, List.set_cons_succ, Option.toList_none, Option.toList_some, nI_1]
  refine xi_ifnonnull_r rfl ?_
  refine xgo 80 rfl ?_
  try simp only [xlo0, List.map_cons, List.map_nil, List.length_cons, List.length_nil, xrs, xr0, Nat.reduceAdd, Nat.reduceSub, List.cons_append, List.nil_append, List.set_cons_zero, List.set_cons_succ, Option.toList_none, Option.toList_some, nI_1]
  refine xg 7 rfl rfl rfl hx.obj rfl ?_
  refine xgo 80 rfl ?_
  try simp only [xlo0, List.map_cons, List.map_nil, List.length_cons, List.length_nil, xrs, xr0, Nat.reduceAdd, Nat.reduceSub, List.cons_append, List.nil_append, List.set_cons_zero, List.set_cons_succ, Option.toList_none, Option.toList_some, nI_1]
  refine xcV 7 rfl rfl rfl (c_CT_sealsGroup hc) rfl kX2_sealsGroup iX2_sealsGroup hc.obj ⟨_, rfl, rfl⟩ rfl rfl (Nat.le_of_ble_eq_true rfl) (fun v1 s1 q1 => ?_)
  obtain ⟨rfl, rfl⟩ := q1
  cases h1 : x.2.2.1.2.2.1.any (fun e => e == g) with
  | true =>
    refine xgo 80 rfl ?_
    try simp only [xlo0, List.map_cons, List.map_nil, List.length_cons, List.length_nil, xrs, xr0, Nat.reduceAdd, Nat.reduceSub, List.cons_append, List.nil_append, List.set_cons_zero, List.set_cons_succ, Option.toList_none, Option.toList_some, nI_1]
    refine xi_ifeq rfl (fun c1 => ?_) (fun c1 => ?_)
    · exact absurd c1 (by decide)
    refine xgo 80 rfl ?_
    try simp only [xlo0, List.map_cons, List.map_nil, List.length_cons, List.length_nil, xrs, xr0, Nat.reduceAdd, Nat.reduceSub, List.cons_append, List.nil_append, List.set_cons_zero, List.set_cons_succ, Option.toList_none, Option.toList_some, nI_1]
    refine xcV 7 rfl rfl rfl (c_CT_hasRowOfGroup hK) rfl kX2_hasRowOfGroup iX2_hasRowOfGroup hK.obj ⟨_, rfl, rfl⟩ rfl rfl (Nat.le_of_ble_eq_true rfl) (fun v2 s2 q2 => ?_)
    obtain ⟨rfl, rfl⟩ := q2
    cases h2 : K.2.2.2.any (fun e => e.1 / 16 == g) with
    | true =>
      refine xgo 80 rfl ?_
      try simp only [xlo0, List.map_cons, List.map_nil, List.length_cons, List.length_nil, xrs, xr0, Nat.reduceAdd, Nat.reduceSub, List.cons_append, List.nil_append, List.set_cons_zero, List.set_cons_succ, Option.toList_none, Option.toList_some, nI_1]
      refine xi_ifne rfl (fun c2 => ?_) (fun c2 => ?_)
      · refine xgo 80 rfl ?_
        try simp only [xlo0, List.map_cons, List.map_nil, List.length_cons, List.length_nil, xrs, xr0, Nat.reduceAdd, Nat.reduceSub, List.cons_append, List.nil_append, List.set_cons_zero, List.set_cons_succ, Option.toList_none, Option.toList_some, nI_1]
        refine xi_ret_i rfl rfl (by decide) ⟨by simp [betw, h1, h2, bI], rfl⟩
      · exact absurd c2 (by decide)
    | false =>
      refine xgo 80 rfl ?_
      try simp only [xlo0, List.map_cons, List.map_nil, List.length_cons, List.length_nil, xrs, xr0, Nat.reduceAdd, Nat.reduceSub, List.cons_append, List.nil_append, List.set_cons_zero, List.set_cons_succ, Option.toList_none, Option.toList_some, nI_1]
      refine xi_ifne rfl (fun c2 => ?_) (fun c2 => ?_)
      · exact absurd rfl c2
      refine xgo 80 rfl ?_
      try simp only [xlo0, List.map_cons, List.map_nil, List.length_cons, List.length_nil, xrs, xr0, Nat.reduceAdd, Nat.reduceSub, List.cons_append, List.nil_append, List.set_cons_zero, List.set_cons_succ, Option.toList_none, Option.toList_some, nI_1]
      refine xcV 7 rfl rfl rfl (c_CT_sealsGroup hK) rfl kX2_sealsGroup iX2_sealsGroup hK.obj ⟨_, rfl, rfl⟩ rfl rfl (Nat.le_of_ble_eq_true rfl) (fun v3 s3 q3 => ?_)
      obtain ⟨rfl, rfl⟩ := q3
      cases h3 : K.2.2.1.any (fun e => e == g) with
      | false =>
        refine xgo 80 rfl ?_
        try simp only [xlo0, List.map_cons, List.map_nil, List.length_cons, List.length_nil, xrs, xr0, Nat.reduceAdd, Nat.reduceSub, List.cons_append, List.nil_append, List.set_cons_zero, List.set_cons_succ, Option.toList_none, Option.toList_some, nI_1]
        refine xi_ifeq rfl (fun c3 => ?_) (fun c3 => ?_)
        · refine xgo 80 rfl ?_
          try simp only [xlo0, List.map_cons, List.map_nil, List.length_cons, List.length_nil, xrs, xr0, Nat.reduceAdd, Nat.reduceSub, List.cons_append, List.nil_append, List.set_cons_zero, List.set_cons_succ, Option.toList_none, Option.toList_some, nI_1]
          refine xi_ret_i rfl rfl (by decide) ⟨by simp only [betw, h1, h2, h3]; rfl, rfl⟩
        · exact absurd rfl c3
      | true =>
        refine xgo 80 rfl ?_
        try simp only [xlo0, List.map_cons, List.map_nil, List.length_cons, List.length_nil, xrs, xr0, Nat.reduceAdd, Nat.reduceSub, List.cons_append, List.nil_append, List.set_cons_zero, List.set_cons_succ, Option.toList_none, Option.toList_some, nI_1]
        refine xi_ifeq rfl (fun c3 => ?_) (fun c3 => ?_)
        · exact absurd c3 (by decide)
        refine xgo 80 rfl ?_
        try simp only [xlo0, List.map_cons, List.map_nil, List.length_cons, List.length_nil, xrs, xr0, Nat.reduceAdd, Nat.reduceSub, List.cons_append, List.nil_append, List.set_cons_zero, List.set_cons_succ, Option.toList_none, Option.toList_some, nI_1]
        refine xg 7 rfl rfl rfl hx.obj rfl ?_
        refine xgo 80 rfl ?_
        try simp only [xlo0, List.map_cons, List.map_nil, List.length_cons, List.length_nil, xrs, xr0, Nat.reduceAdd, Nat.reduceSub, List.cons_append, List.nil_append, List.set_cons_zero, List.set_cons_succ, Option.toList_none, Option.toList_some, nI_1]
        refine xcV 7 rfl rfl rfl (c_CT_hasRowOfGroup hc) rfl kX2_hasRowOfGroup iX2_hasRowOfGroup hc.obj ⟨_, rfl, rfl⟩ rfl rfl (Nat.le_of_ble_eq_true rfl) (fun v4 s4 q4 => ?_)
        obtain ⟨rfl, rfl⟩ := q4
        cases h4 : x.2.2.1.2.2.2.any (fun e => e.1 / 16 == g) with
        | false =>
          refine xgo 80 rfl ?_
          try simp only [xlo0, List.map_cons, List.map_nil, List.length_cons, List.length_nil, xrs, xr0, Nat.reduceAdd, Nat.reduceSub, List.cons_append, List.nil_append, List.set_cons_zero, List.set_cons_succ, Option.toList_none, Option.toList_some, nI_1]
          refine xi_ifeq rfl (fun c4 => ?_) (fun c4 => ?_)
          · refine xgo 80 rfl ?_
            try simp only [xlo0, List.map_cons, List.map_nil, List.length_cons, List.length_nil, xrs, xr0, Nat.reduceAdd, Nat.reduceSub, List.cons_append, List.nil_append, List.set_cons_zero, List.set_cons_succ, Option.toList_none, Option.toList_some, nI_1]
            refine xi_ret_i rfl rfl (by decide) ⟨by simp only [betw, h1, h2, h3, h4]; rfl, rfl⟩
          · exact absurd rfl c4
        | true =>
          refine xgo 80 rfl ?_
          try simp only [xlo0, List.map_cons, List.map_nil, List.length_cons, List.length_nil, xrs, xr0, Nat.reduceAdd, Nat.reduceSub, List.cons_append, List.nil_append, List.set_cons_zero, List.set_cons_succ, Option.toList_none, Option.toList_some, nI_1]
          refine xi_ifeq rfl (fun c4 => ?_) (fun c4 => ?_)
          · exact absurd c4 (by decide)
          · refine xgo 80 rfl ?_
            try simp only [xlo0, List.map_cons, List.map_nil, List.length_cons, List.length_nil, xrs, xr0, Nat.reduceAdd, Nat.reduceSub, List.cons_append, List.nil_append, List.set_cons_zero, List.set_cons_succ, Option.toList_none, Option.toList_some, nI_1]
            refine xi_ret_i rfl rfl (by decide) ⟨by simp only [betw, h1, h2, h3, h4]; rfl, rfl⟩
  | false =>
    refine xgo 80 rfl ?_
    try simp only [xlo0, List.map_cons, List.map_nil, List.length_cons, List.length_nil, xrs, xr0, Nat.reduceAdd, Nat.reduceSub, List.cons_append, List.nil_append, List.set_cons_zero, List.set_cons_succ, Option.toList_none, Option.toList_some, nI_1]
    refine xi_ifeq rfl (fun c1 => ?_) (fun c1 => ?_)
    · refine xgo 80 rfl ?_
      try simp only [xlo0, List.map_cons, List.map_nil, List.length_cons, List.length_nil, xrs, xr0, Nat.reduceAdd, Nat.reduceSub, List.cons_append, List.nil_append, List.set_cons_zero, List.set_cons_succ, Option.toList_none, Option.toList_some, nI_1]
      refine xcV 7 rfl rfl rfl (c_CT_sealsGroup hK) rfl kX2_sealsGroup iX2_sealsGroup hK.obj ⟨_, rfl, rfl⟩ rfl rfl (Nat.le_of_ble_eq_true rfl) (fun v3 s3 q3 => ?_)
      obtain ⟨rfl, rfl⟩ := q3
      cases h3 : K.2.2.1.any (fun e => e == g) with
      | false =>
        refine xgo 80 rfl ?_
        try simp only [xlo0, List.map_cons, List.map_nil, List.length_cons, List.length_nil, xrs, xr0, Nat.reduceAdd, Nat.reduceSub, List.cons_append, List.nil_append, List.set_cons_zero, List.set_cons_succ, Option.toList_none, Option.toList_some, nI_1]
        refine xi_ifeq rfl (fun c3 => ?_) (fun c3 => ?_)
        · refine xgo 80 rfl ?_
          try simp only [xlo0, List.map_cons, List.map_nil, List.length_cons, List.length_nil, xrs, xr0, Nat.reduceAdd, Nat.reduceSub, List.cons_append, List.nil_append, List.set_cons_zero, List.set_cons_succ, Option.toList_none, Option.toList_some, nI_1]
          refine xi_ret_i rfl rfl (by decide) ⟨by simp only [betw, h1, h3]; rfl, rfl⟩
        · exact absurd rfl c3
      | true =>
        refine xgo 80 rfl ?_
        try simp only [xlo0, List.map_cons, List.map_nil, List.length_cons, List.length_nil, xrs, xr0, Nat.reduceAdd, Nat.reduceSub, List.cons_append, List.nil_append, List.set_cons_zero, List.set_cons_succ, Option.toList_none, Option.toList_some, nI_1]
        refine xi_ifeq rfl (fun c3 => ?_) (fun c3 => ?_)
        · exact absurd c3 (by decide)
        refine xgo 80 rfl ?_
        try simp only [xlo0, List.map_cons, List.map_nil, List.length_cons, List.length_nil, xrs, xr0, Nat.reduceAdd, Nat.reduceSub, List.cons_append, List.nil_append, List.set_cons_zero, List.set_cons_succ, Option.toList_none, Option.toList_some, nI_1]
        refine xg 7 rfl rfl rfl hx.obj rfl ?_
        refine xgo 80 rfl ?_
        try simp only [xlo0, List.map_cons, List.map_nil, List.length_cons, List.length_nil, xrs, xr0, Nat.reduceAdd, Nat.reduceSub, List.cons_append, List.nil_append, List.set_cons_zero, List.set_cons_succ, Option.toList_none, Option.toList_some, nI_1]
        refine xcV 7 rfl rfl rfl (c_CT_hasRowOfGroup hc) rfl kX2_hasRowOfGroup iX2_hasRowOfGroup hc.obj ⟨_, rfl, rfl⟩ rfl rfl (Nat.le_of_ble_eq_true rfl) (fun v4 s4 q4 => ?_)
        obtain ⟨rfl, rfl⟩ := q4
        cases h4 : x.2.2.1.2.2.2.any (fun e => e.1 / 16 == g) with
        | false =>
          refine xgo 80 rfl ?_
          try simp only [xlo0, List.map_cons, List.map_nil, List.length_cons, List.length_nil, xrs, xr0, Nat.reduceAdd, Nat.reduceSub, List.cons_append, List.nil_append, List.set_cons_zero, List.set_cons_succ, Option.toList_none, Option.toList_some, nI_1]
          refine xi_ifeq rfl (fun c4 => ?_) (fun c4 => ?_)
          · refine xgo 80 rfl ?_
            try simp only [xlo0, List.map_cons, List.map_nil, List.length_cons, List.length_nil, xrs, xr0, Nat.reduceAdd, Nat.reduceSub, List.cons_append, List.nil_append, List.set_cons_zero, List.set_cons_succ, Option.toList_none, Option.toList_some, nI_1]
            refine xi_ret_i rfl rfl (by decide) ⟨by simp only [betw, h1, h3, h4]; rfl, rfl⟩
          · exact absurd rfl c4
        | true =>
          refine xgo 80 rfl ?_
          try simp only [xlo0, List.map_cons, List.map_nil, List.length_cons, List.length_nil, xrs, xr0, Nat.reduceAdd, Nat.reduceSub, List.cons_append, List.nil_append, List.set_cons_zero, List.set_cons_succ, Option.toList_none, Option.toList_some, nI_1]
          refine xi_ifeq rfl (fun c4 => ?_) (fun c4 => ?_)
          · exact absurd c4 (by decide)
          · refine xgo 80 rfl ?_
            try simp only [xlo0, List.map_cons, List.map_nil, List.length_cons, List.length_nil, xrs, xr0, Nat.reduceAdd, Nat.reduceSub, List.cons_append, List.nil_append, List.set_cons_zero, List.set_cons_succ, Option.toList_none, Option.toList_some, nI_1]
            refine xi_ret_i rfl rfl (by decide) ⟨by simp only [betw, h1, h3, h4]; rfl, rfl⟩
    · exact absurd rfl c1
end
section
def sbit (seen : Int32) (j : Nat) : Bool := (seen.toUInt32 >>> ((nI j).toUInt32 &&& Int32.toUInt32 31)).toInt32 &&& 1 == 1
def sany (g : Int32) (K : cV) (seen : Int32) : sL → Nat → Bool
  | [], _ => false
  | x :: xs, j => (sbit seen j && betw g K x.2.2.1) || sany g K seen xs (j + 1)
/-- the least of n numbers from g on with f, or -1 -/
def least (f : Nat → Bool) : Nat → Nat → Int32
  | 0, _ => -1
  | n + 1, g => if f g then nI g else least f n (g + 1)
def lsealI (L : sL) (K : cV) : Int32 := least (fun g => sany (nI g) K (seenI L K) L 0) 16 0
set_option maxRecDepth 100000 in
set_option maxHeartbeats 8000000 in
theorem l_SH_leastSealed1 {G : xG} {d s b g : Nat} {L : sL} {K : cV} {σ : xS} {Q : Option Value → xS → Prop} (h : shf G σ.1 s L) (hK : cont G σ.1 b K) (hg : g < 16) (kt : sany (nI g) K (seenI L K) L 0 = true → Q (some (.int (nI g))) σ) (kf : ∀ x4, sany (nI g) K (seenI L K) L 0 = false → xw G (d + 4) mX7_leastSealed 8 [some (rf G s), some (rf G b), some (.int (seenI L K)), some (.int (nI (g + 1))), x4] [] σ Q) : ∀ (n j : Nat), j + n = L.length → sany (nI g) K (seenI L K) (L.drop j) j = sany (nI g) K (seenI L K) L 0 →
    xw G (d + 4) mX7_leastSealed 17 [some (rf G s), some (rf G b), some (.int (seenI L K)), some (.int (nI g)), some (.int (nI j))] [] σ Q := by
  have hL := h.1
  have h2 := h.2.1
  intro n
  induction n with
  | zero =>
    intro j hj hm
    have hj' : j = L.length := by omega
    subst hj'
    rw [List.drop_length] at hm
    refine xgo 80 rfl ?_
    try simp only [xlo0, List.map_cons, List.map_nil, List.length_cons, List.length_nil, xrs, xr0, Nat.reduceAdd, Nat.reduceSub, List.cons_append, List.nil_append, List.set_cons_zero, List.set_cons_succ, Option.toList_none, Option.toList_some, nI_1]
    refine xg 7 rfl rfl rfl h2 rfl ?_
    refine xgo 80 rfl ?_
    try simp only [xlo0, List.map_cons, List.map_nil, List.length_cons, List.length_nil, xrs, xr0, Nat.reduceAdd, Nat.reduceSub, List.cons_append, List.nil_append, List.set_cons_zero, List.set_cons_succ, Option.toList_none, Option.toList_some, nI_1]
    refine xi_icmpge rfl (fun c1 => ?_) (fun c1 => ?_)
    · refine xto 8 80 rfl ?_
      try simp only [xlo0, List.map_cons, List.map_nil, List.length_cons, List.length_nil, xrs, xr0, Nat.reduceAdd, Nat.reduceSub, List.cons_append, List.nil_append, List.set_cons_zero, List.set_cons_succ, Option.toList_none, Option.toList_some, nI_1]
      exact kf _ hm.symm
    · exact absurd (i_le.mpr (Int.le_refl _)) c1
  | succ n ih =>
    intro j hj hm
    obtain ⟨x, hx⟩ := lt_get (l := L) (j := j) (by omega)
    have hen := h.ent hx
    rw [drop_cons hx] at hm
    have hm : ((sbit (seenI L K) j && betw (nI g) K x.2.2.1) || sany (nI g) K (seenI L K) (L.drop (j + 1)) (j + 1)) = sany (nI g) K (seenI L K) L 0 := hm
    refine xgo 80 rfl ?_
    try simp only [xlo0, List.map_cons, List.map_nil, List.length_cons, List.length_nil, xrs, xr0, Nat.reduceAdd, Nat.reduceSub, List.cons_append, List.nil_append, List.set_cons_zero, List.set_cons_succ, Option.toList_none, Option.toList_some, nI_1]
    refine xg 7 rfl rfl rfl h2 rfl ?_
    refine xgo 80 rfl ?_
    try simp only [xlo0, List.map_cons, List.map_nil, List.length_cons, List.length_nil, xrs, xr0, Nat.reduceAdd, Nat.reduceSub, List.cons_append, List.nil_append, List.set_cons_zero, List.set_cons_succ, Option.toList_none, Option.toList_some, nI_1]
    refine xi_icmpge rfl (fun c1 => ?_) (fun c1 => ?_)
    · exact absurd c1 (by rw [i_le, i_n (by omega), i_n (by omega)]; omega)
    refine xgo 80 rfl ?_
    try simp only [xlo0, List.map_cons, List.map_nil, List.length_cons, List.length_nil, xrs, xr0, Nat.reduceAdd, Nat.reduceSub, List.cons_append, List.nil_append, List.set_cons_zero, List.set_cons_succ, Option.toList_none, Option.toList_some, nI_1]
    refine xi_icmpne rfl (fun c2 => ?_) (fun c2 => ?_)
    · refine xto 17 80 rfl ?_
      try simp only [xlo0, List.map_cons, List.map_nil, List.length_cons, List.length_nil, xrs, xr0, Nat.reduceAdd, Nat.reduceSub, List.cons_append, List.nil_append, List.set_cons_zero, List.set_cons_succ, Option.toList_none, Option.toList_some, nI_1]
      refine ih (j + 1) (by omega) ?_
      rw [← hm]
      have : sbit (seenI L K) j = false := by simpa [sbit] using c2
      rw [this]
      rfl
    have hsb : sbit (seenI L K) j = true := by simpa [sbit] using c2
    rw [hsb, Bool.true_and] at hm
    refine xgo 80 rfl ?_
    try simp only [xlo0, List.map_cons, List.map_nil, List.length_cons, List.length_nil, xrs, xr0, Nat.reduceAdd, Nat.reduceSub, List.cons_append, List.nil_append, List.set_cons_zero, List.set_cons_succ, Option.toList_none, Option.toList_some, nI_1]
    refine xcV 7 rfl rfl rfl (c_SH_at h hx) rfl kX7_at iX7_at h2 ⟨_, rfl, rfl⟩ rfl rfl (Nat.le_of_ble_eq_true rfl) (fun v1 s1 q1 => ?_)
    obtain ⟨rfl, rfl⟩ := q1
    refine xgo 80 rfl ?_
    try simp only [xlo0, List.map_cons, List.map_nil, List.length_cons, List.length_nil, xrs, xr0, Nat.reduceAdd, Nat.reduceSub, List.cons_append, List.nil_append, List.set_cons_zero, List.set_cons_succ, Option.toList_none, Option.toList_some, nI_1]
    refine xcS 7 rfl rfl rfl (c_SH_isBetween hK hen) rfl kX7_isBetween iX7_isBetween rfl rfl (Nat.le_of_ble_eq_true rfl) (fun v2 s2 q2 => ?_)
    obtain ⟨rfl, rfl⟩ := q2
    cases hbt : betw (nI g) K x.2.2.1 with
    | true =>
      rw [hbt, Bool.true_or] at hm
      refine xgo 80 rfl ?_
      try simp only [xlo0, List.map_cons, List.map_nil, List.length_cons, List.length_nil, xrs, xr0, Nat.reduceAdd, Nat.reduceSub, List.cons_append, List.nil_append, List.set_cons_zero, List.set_cons_succ, Option.toList_none, Option.toList_some, nI_1]
      refine xi_ifeq rfl (fun c3 => ?_) (fun c3 => ?_)
      · exact absurd c3 (by decide)
      · refine xgo 80 rfl ?_
        try simp only [xlo0, List.map_cons, List.map_nil, List.length_cons, List.length_nil, xrs, xr0, Nat.reduceAdd, Nat.reduceSub, List.cons_append, List.nil_append, List.set_cons_zero, List.set_cons_succ, Option.toList_none, Option.toList_some, nI_1]
        refine xi_ret_i rfl rfl rfl (kt hm.symm)
    | false =>
      rw [hbt, Bool.false_or] at hm
      refine xgo 80 rfl ?_
      try simp only [xlo0, List.map_cons, List.map_nil, List.length_cons, List.length_nil, xrs, xr0, Nat.reduceAdd, Nat.reduceSub, List.cons_append, List.nil_append, List.set_cons_zero, List.set_cons_succ, Option.toList_none, Option.toList_some, nI_1]
      refine xi_ifeq rfl (fun c3 => ?_) (fun c3 => ?_)
      · refine xto 17 80 rfl ?_
        try simp only [xlo0, List.map_cons, List.map_nil, List.length_cons, List.length_nil, xrs, xr0, Nat.reduceAdd, Nat.reduceSub, List.cons_append, List.nil_append, List.set_cons_zero, List.set_cons_succ, Option.toList_none, Option.toList_some, nI_1]
        exact ih (j + 1) (by omega) hm
      · exact absurd rfl c3
set_option maxRecDepth 100000 in
set_option maxHeartbeats 8000000 in
theorem l_SH_leastSealed {G : xG} {d s b : Nat} {L : sL} {K : cV} {σ : xS} (h : shf G σ.1 s L) (hK : cont G σ.1 b K) : ∀ (n g : Nat) (x4 : Option Value), g + n = 16 → least (fun g => sany (nI g) K (seenI L K) L 0) n g = lsealI L K →
    xw G (d + 4) mX7_leastSealed 8 [some (rf G s), some (rf G b), some (.int (seenI L K)), some (.int (nI g)), x4] [] σ (fun v σ' => v = some (.int (lsealI L K)) ∧ σ' = σ) := by
  have z16 : (16 : Int32).toInt = 16 := rfl
  intro n
  induction n with
  | zero =>
    intro g x4 hg hm
    have hg' : g = 16 := by omega
    subst hg'
    refine xgo 80 rfl ?_
    try simp only [xlo0, List.map_cons, List.map_nil, List.length_cons, List.length_nil, xrs, xr0, Nat.reduceAdd, Nat.reduceSub, List.cons_append, List.nil_append, List.set_cons_zero, List.set_cons_succ, Option.toList_none, Option.toList_some, nI_1]
    refine xi_icmpge rfl (fun c1 => ?_) (fun c1 => ?_)
    · refine xgo 80 rfl ?_
      try simp only [xlo0, List.map_cons, List.map_nil, List.length_cons, List.length_nil, xrs, xr0, Nat.reduceAdd, Nat.reduceSub, List.cons_append, List.nil_append, List.set_cons_zero, List.set_cons_succ, Option.toList_none, Option.toList_some, nI_1]
      refine xi_ret_i rfl rfl rfl ⟨by rw [← hm]; rfl, rfl⟩
    · exact absurd (by decide) c1
  | succ n ih =>
    intro g x4 hg hm
    have hm : (if sany (nI g) K (seenI L K) L 0 = true then nI g else least (fun g => sany (nI g) K (seenI L K) L 0) n (g + 1)) = lsealI L K := hm
    refine xgo 80 rfl ?_
    try simp only [xlo0, List.map_cons, List.map_nil, List.length_cons, List.length_nil, xrs, xr0, Nat.reduceAdd, Nat.reduceSub, List.cons_append, List.nil_append, List.set_cons_zero, List.set_cons_succ, Option.toList_none, Option.toList_some, nI_1]
    refine xi_icmpge rfl (fun c1 => ?_) (fun c1 => ?_)
    · exact absurd c1 (by rw [i_le, i_n (by omega), z16]; omega)
    refine xto 17 80 rfl ?_
    try simp only [xlo0, List.map_cons, List.map_nil, List.length_cons, List.length_nil, xrs, xr0, Nat.reduceAdd, Nat.reduceSub, List.cons_append, List.nil_append, List.set_cons_zero, List.set_cons_succ, Option.toList_none, Option.toList_some, nI_1]
    exact l_SH_leastSealed1 h hK (by omega) (fun ht => by rw [if_pos ht] at hm; exact ⟨by rw [← hm], rfl⟩) (fun x4 hf => by rw [if_neg (by rw [hf]; decide)] at hm; exact ih (g + 1) x4 (by omega) hm) L.length 0 (by omega) rfl
set_option maxRecDepth 100000 in
set_option maxHeartbeats 8000000 in
theorem c_SH_leastSealed {G : xG} {d s b : Nat} {L : sL} {K : cV} {σ : xS} (h : shf G σ.1 s L) (hK : cont G σ.1 b K) : xm G (d + 4) mX7_leastSealed [rf G s, rf G b] σ (fun v σ' => v = some (.int (lsealI L K)) ∧ σ' = σ) := by
  refine xm_at 5 rfl (by decide) (Nat.le_of_ble_eq_true rfl) (by simp [Value.category]) tX7_leastSealed_ok ?_
  try simp only [xlo0, List.map_cons, List.map_nil, List.length_cons, List.length_nil, xrs, xr0, Nat.reduceAdd, Nat.reduceSub, List.cons_append, List.nil_append, List.set_cons_zero, List.set_cons_succ, Option.toList_none, Option.toList_some, nI_1]
  refine xgo 80 rfl ?_
  try simp only [xlo0, List.map_cons, List.map_nil, List.length_cons, List.length_nil, xrs, xr0, Nat.reduceAdd, Nat.reduceSub, List.cons_append, List.nil_append, List.set_cons_zero, List.set_cons_succ, Option.toList_none, Option.toList_some, nI_1]
  refine xcV 7 rfl rfl rfl (c_SH_seenBy h hK) rfl kX7_seenBy iX7_seenBy h.2.1 ⟨_, rfl, rfl⟩ rfl rfl (Nat.le_of_ble_eq_true rfl) (fun v1 s1 q1 => ?_)
  obtain ⟨rfl, rfl⟩ := q1
  refine xto 8 80 rfl ?_
  try simp only [xlo0, List.map_cons, List.map_nil, List.length_cons, List.length_nil, xrs, xr0, Nat.reduceAdd, Nat.reduceSub, List.cons_append, List.nil_append, List.set_cons_zero, List.set_cons_succ, Option.toList_none, Option.toList_some, nI_1]
  exact l_SH_leastSealed h hK 16 0 none (by omega) rfl
/-- the latest overlay (of the first n) with a row of the key -/
def ovI (L : sL) (ov : List Int32) (key : Int32) : Nat → Int32
  | 0 => -1
  | n + 1 => match sget L (ov.getD n 0) with
    | some x => if (x.2.2.1.2.2.2.findIdx? (fun e => e.1 == key)).isSome then ov.getD n 0 else ovI L ov key n
    | none => ovI L ov key n
set_option maxRecDepth 100000 in
set_option maxHeartbeats 8000000 in
theorem l_SH_overlayWith {G : xG} {d s : Nat} {L : sL} {x : Nat × Nat × eV} {key i : Int32} {σ : xS} (h : shf G σ.1 s L) (hx : ent G σ.1 x.1 x.2.1 x.2.2) : ∀ (n : Nat) (x5 : Option Value), n ≤ x.2.2.2.2.2.2.length → ∀ y : Int32, y = nI n - 1 →
    xw G (d + 2) mX7_overlayWith 20 [some (rf G s), some (.int i), some (.int key), some (rf G (x.1 + 1)), some (.int y), x5] [] σ (fun v σ' => v = some (.int (ovI L x.2.2.2.2.2.2 key n)) ∧ σ' = σ) := by
  obtain ⟨mb, ovs, h1, h2, h3, h4, h5, h6, h7, h8, h9, h10⟩ := id hx
  intro n
  induction n with
  | zero =>
    intro x5 hn y hy
    subst hy
    refine xgo 80 rfl ?_
    try simp only [xlo0, List.map_cons, List.map_nil, List.length_cons, List.length_nil, xrs, xr0, Nat.reduceAdd, Nat.reduceSub, List.cons_append, List.nil_append, List.set_cons_zero, List.set_cons_succ, Option.toList_none, Option.toList_some, nI_1]
    refine xi_iflt rfl (fun c1 => ?_) (fun c1 => ?_)
    · refine xgo 80 rfl ?_
      try simp only [xlo0, List.map_cons, List.map_nil, List.length_cons, List.length_nil, xrs, xr0, Nat.reduceAdd, Nat.reduceSub, List.cons_append, List.nil_append, List.set_cons_zero, List.set_cons_succ, Option.toList_none, Option.toList_some, nI_1]
      refine xi_ret_i rfl rfl rfl ⟨rfl, rfl⟩
    · exact absurd (by decide) c1
  | succ n ih =>
    intro x5 hn y hy
    rw [nI_pred] at hy
    subst hy
    have hcl : (nI n).toNatClampNeg = n := nI_clamp (by omega)
    obtain ⟨o, ho⟩ := lt_get (l := x.2.2.2.2.2.2) (j := n) (by omega)
    have hov : ovs[n]? = some o := (take_get h10 (by omega)).trans ho
    have hgd : x.2.2.2.2.2.2.getD n 0 = o := by rw [List.getD_eq_getElem?_getD, ho]; rfl
    have hnx : nI n + (-1) = nI n - 1 := (Int32.sub_eq_add_neg ..).symm
    refine xgo 80 rfl ?_
    try simp only [xlo0, List.map_cons, List.map_nil, List.length_cons, List.length_nil, xrs, xr0, Nat.reduceAdd, Nat.reduceSub, List.cons_append, List.nil_append, List.set_cons_zero, List.set_cons_succ, Option.toList_none, Option.toList_some, nI_1]
    refine xi_iflt rfl (fun c1 => ?_) (fun c1 => ?_)
    · exact absurd c1 (nI_pos (by omega))
    refine xgo 80 rfl ?_
    try simp only [xlo0, List.map_cons, List.map_nil, List.length_cons, List.length_nil, xrs, xr0, Nat.reduceAdd, Nat.reduceSub, List.cons_append, List.nil_append, List.set_cons_zero, List.set_cons_succ, Option.toList_none, Option.toList_some, nI_1]
    refine xg 7 rfl rfl rfl h2 rfl ?_
    refine xgo 80 rfl ?_
    try simp only [xlo0, List.map_cons, List.map_nil, List.length_cons, List.length_nil, xrs, xr0, Nat.reduceAdd, Nat.reduceSub, List.cons_append, List.nil_append, List.set_cons_zero, List.set_cons_succ, Option.toList_none, Option.toList_some, nI_1]
    refine xi_iald rfl h3 (nI_pos (by omega)) (by rw [hcl]; exact vi_get hov) ?_
    cases hg : sget L o with
    | none =>
      have hz : ovI L x.2.2.2.2.2.2 key (n + 1) = ovI L x.2.2.2.2.2.2 key n := by simp only [ovI, hgd, hg]
      refine xgo 80 rfl ?_
      try simp only [xlo0, List.map_cons, List.map_nil, List.length_cons, List.length_nil, xrs, xr0, Nat.reduceAdd, Nat.reduceSub, List.cons_append, List.nil_append, List.set_cons_zero, List.set_cons_succ, Option.toList_none, Option.toList_some, nI_1]
      refine xcV 7 rfl rfl rfl (c_SH_atN h (sget_n hg)) rfl kX7_at iX7_at h.2.1 ⟨_, rfl, rfl⟩ rfl rfl (Nat.le_of_ble_eq_true rfl) (fun v1 s1 q1 => ?_)
      obtain ⟨rfl, rfl⟩ := q1
      refine xgo 80 rfl ?_
      try simp only [xlo0, List.map_cons, List.map_nil, List.length_cons, List.length_nil, xrs, xr0, Nat.reduceAdd, Nat.reduceSub, List.cons_append, List.nil_append, List.set_cons_zero, List.set_cons_succ, Option.toList_none, Option.toList_some, nI_1]
      refine xi_ifnull_n rfl ?_
      refine xto 20 80 rfl ?_
      try simp only [xlo0, List.map_cons, List.map_nil, List.length_cons, List.length_nil, xrs, xr0, Nat.reduceAdd, Nat.reduceSub, List.cons_append, List.nil_append, List.set_cons_zero, List.set_cons_succ, Option.toList_none, Option.toList_some, nI_1]
      rw [hz]
      exact ih _ (by omega) _ hnx
    | some z =>
      obtain ⟨k, hk, hz, hk12⟩ := sget_s hg h.1
      have hen := h.ent hz
      rw [hk]
      refine xgo 80 rfl ?_
      try simp only [xlo0, List.map_cons, List.map_nil, List.length_cons, List.length_nil, xrs, xr0, Nat.reduceAdd, Nat.reduceSub, List.cons_append, List.nil_append, List.set_cons_zero, List.set_cons_succ, Option.toList_none, Option.toList_some, nI_1]
      refine xcV 7 rfl rfl rfl (c_SH_at h hz) rfl kX7_at iX7_at h.2.1 ⟨_, rfl, rfl⟩ rfl rfl (Nat.le_of_ble_eq_true rfl) (fun v1 s1 q1 => ?_)
      obtain ⟨rfl, rfl⟩ := q1
      refine xgo 80 rfl ?_
      try simp only [xlo0, List.map_cons, List.map_nil, List.length_cons, List.length_nil, xrs, xr0, Nat.reduceAdd, Nat.reduceSub, List.cons_append, List.nil_append, List.set_cons_zero, List.set_cons_succ, Option.toList_none, Option.toList_some, nI_1]
      refine xi_ifnull_r rfl ?_
      refine xgo 80 rfl ?_
      try simp only [xlo0, List.map_cons, List.map_nil, List.length_cons, List.length_nil, xrs, xr0, Nat.reduceAdd, Nat.reduceSub, List.cons_append, List.nil_append, List.set_cons_zero, List.set_cons_succ, Option.toList_none, Option.toList_some, nI_1]
      refine xcV 7 rfl rfl rfl (c_EN_hasRowOf hen) rfl kX3_hasRowOf iX3_hasRowOf hen.obj ⟨_, rfl, rfl⟩ rfl rfl (Nat.le_of_ble_eq_true rfl) (fun v2 s2 q2 => ?_)
      obtain ⟨rfl, rfl⟩ := q2
      cases hr : (z.2.2.1.2.2.2.findIdx? (fun e => e.1 == key)).isSome with
      | false =>
        have hz : ovI L x.2.2.2.2.2.2 key (n + 1) = ovI L x.2.2.2.2.2.2 key n := by simp only [ovI, hgd, hg, hr]; rfl
        refine xgo 80 rfl ?_
        try simp only [xlo0, List.map_cons, List.map_nil, List.length_cons, List.length_nil, xrs, xr0, Nat.reduceAdd, Nat.reduceSub, List.cons_append, List.nil_append, List.set_cons_zero, List.set_cons_succ, Option.toList_none, Option.toList_some, nI_1]
        refine xi_ifeq rfl (fun c2 => ?_) (fun c2 => ?_)
        · refine xto 20 80 rfl ?_
          try simp only [xlo0, List.map_cons, List.map_nil, List.length_cons, List.length_nil, xrs, xr0, Nat.reduceAdd, Nat.reduceSub, List.cons_append, List.nil_append, List.set_cons_zero, List.set_cons_succ, Option.toList_none, Option.toList_some, nI_1]
          rw [hz]
          exact ih _ (by omega) _ hnx
        · exact absurd rfl c2
      | true =>
        have hz : ovI L x.2.2.2.2.2.2 key (n + 1) = o := by simp only [ovI, hgd, hg, hr]; rfl
        refine xgo 80 rfl ?_
        try simp only [xlo0, List.map_cons, List.map_nil, List.length_cons, List.length_nil, xrs, xr0, Nat.reduceAdd, Nat.reduceSub, List.cons_append, List.nil_append, List.set_cons_zero, List.set_cons_succ, Option.toList_none, Option.toList_some, nI_1]
        refine xi_ifeq rfl (fun c2 => ?_) (fun c2 => ?_)
        · exact absurd c2 (by decide)
        refine xgo 80 rfl ?_
        try simp only [xlo0, List.map_cons, List.map_nil, List.length_cons, List.length_nil, xrs, xr0, Nat.reduceAdd, Nat.reduceSub, List.cons_append, List.nil_append, List.set_cons_zero, List.set_cons_succ, Option.toList_none, Option.toList_some, nI_1]
        refine xg 7 rfl rfl rfl h2 rfl ?_
        refine xgo 80 rfl ?_
        try simp only [xlo0, List.map_cons, List.map_nil, List.length_cons, List.length_nil, xrs, xr0, Nat.reduceAdd, Nat.reduceSub, List.cons_append, List.nil_append, List.set_cons_zero, List.set_cons_succ, Option.toList_none, Option.toList_some, nI_1]
        refine xi_iald rfl h3 (nI_pos (by omega)) (by rw [hcl]; exact vi_get hov) ?_
        refine xgo 80 rfl ?_
        try simp only [xlo0, List.map_cons, List.map_nil, List.length_cons, List.length_nil, xrs, xr0, Nat.reduceAdd, Nat.reduceSub, List.cons_append, List.nil_append, List.set_cons_zero, List.set_cons_succ, Option.toList_none, Option.toList_some, nI_1]
        refine xi_ret_i rfl rfl rfl ⟨by rw [hz], rfl⟩
set_option maxRecDepth 100000 in
set_option maxHeartbeats 8000000 in
theorem c_SH_overlayWith {G : xG} {d s j : Nat} {L : sL} {x : Nat × Nat × eV} {key : Int32} {σ : xS} (h : shf G σ.1 s L) (hj : L[j]? = some x) : xm G (d + 2) mX7_overlayWith [rf G s, .int (nI j), .int key] σ (fun v σ' => v = some (.int (ovI L x.2.2.2.2.2.2 key x.2.2.2.2.2.2.length)) ∧ σ' = σ) := by
  have hen := h.ent hj
  refine xm_at 6 rfl (by decide) (Nat.le_of_ble_eq_true rfl) (by simp [Value.category]) tX7_overlayWith_ok ?_
  try simp only [xlo0, List.map_cons, List.map_nil, List.length_cons, List.length_nil, xrs, xr0, Nat.reduceAdd, Nat.reduceSub, List.cons_append, List.nil_append, List.set_cons_zero, List.set_cons_succ, Option.toList_none, Option.toList_some, nI_1]
  refine xgo 80 rfl ?_
  try simp only [xlo0, List.map_cons, List.map_nil, List.length_cons, List.length_nil, xrs, xr0, Nat.reduceAdd, Nat.reduceSub, List.cons_append, List.nil_append, List.set_cons_zero, List.set_cons_succ, Option.toList_none, Option.toList_some, nI_1]
  refine xcV 7 rfl rfl rfl (c_SH_at h hj) rfl kX7_at iX7_at h.2.1 ⟨_, rfl, rfl⟩ rfl rfl (Nat.le_of_ble_eq_true rfl) (fun v1 s1 q1 => ?_)
  obtain ⟨rfl, rfl⟩ := q1
  refine xgo 80 rfl ?_
  try simp only [xlo0, List.map_cons, List.map_nil, List.length_cons, List.length_nil, xrs, xr0, Nat.reduceAdd, Nat.reduceSub, List.cons_append, List.nil_append, List.set_cons_zero, List.set_cons_succ, Option.toList_none, Option.toList_some, nI_1]
  refine xi_ifnonnull_r rfl ?_
  refine xgo 80 rfl ?_
  try simp only [xlo0, List.map_cons, List.map_nil, List.length_cons, List.length_nil, xrs, xr0, Nat.reduceAdd, Nat.reduceSub, List.cons_append, List.nil_append, List.set_cons_zero, List.set_cons_succ, Option.toList_none, Option.toList_some, nI_1]
  refine xg 7 rfl rfl rfl hen.obj rfl ?_
  refine xto 20 80 rfl ?_
  try simp only [xlo0, List.map_cons, List.map_nil, List.length_cons, List.length_nil, xrs, xr0, Nat.reduceAdd, Nat.reduceSub, List.cons_append, List.nil_append, List.set_cons_zero, List.set_cons_succ, Option.toList_none, Option.toList_some, nI_1]
  exact l_SH_overlayWith h hen _ none (Nat.le_refl _) _ rfl
/-- is entry x (number f) ahead of the entry that says K (number e)? -/
def ahead (K : cV) (e : Int32) (f : Nat) (V : cV) : Bool := (V.1.1 == K.1.1) && (decide (K.1.2.1 < V.1.2.1) || ((V.1.2.1 == K.1.2.1) && decide (e < nI f)))
def cahead (K : cV) (e : Int32) : sL → Nat → Nat
  | [], _ => 0
  | x :: xs, f => (if ahead K e f x.2.2.1 then 1 else 0) + cahead K e xs (f + 1)
theorem cahead_le (K : cV) (e : Int32) : ∀ (L : sL) (f : Nat), cahead K e L f ≤ L.length
  | [], f => Nat.le_refl _
  | x :: xs, f => by
    have := cahead_le K e xs (f + 1)
    simp only [cahead, List.length_cons]
    split <;> omega
set_option maxRecDepth 100000 in
set_option maxHeartbeats 8000000 in
theorem l_SH_countAhead {G : xG} {d s b : Nat} {L : sL} {K : cV} {e : Int32} {σ : xS} (h : shf G σ.1 s L) (hK : cont G σ.1 b K) : ∀ (n f a : Nat) (x5 x6 : Option Value), f + n = L.length → a + cahead K e (L.drop f) f = cahead K e L 0 →
    xw G (d + 1) mX7_countAhead 5 [some (rf G s), some (rf G b), some (.int e), some (.int (nI a)), some (.int (nI f)), x5, x6] [] σ (fun v σ' => v = some (.int (nI (cahead K e L 0))) ∧ σ' = σ) := by
  have hL := h.1
  have h2 := h.2.1
  have o1 := hK.obj
  intro n
  induction n with
  | zero =>
    intro f a x5 x6 hf hm
    have hf' : f = L.length := by omega
    subst hf'
    rw [List.drop_length] at hm
    refine xgo 80 rfl ?_
    try simp only [xlo0, List.map_cons, List.map_nil, List.length_cons, List.length_nil, xrs, xr0, Nat.reduceAdd, Nat.reduceSub, List.cons_append, List.nil_append, List.set_cons_zero, List.set_cons_succ, Option.toList_none, Option.toList_some, nI_1]
    refine xg 7 rfl rfl rfl h2 rfl ?_
    refine xgo 80 rfl ?_
    try simp only [xlo0, List.map_cons, List.map_nil, List.length_cons, List.length_nil, xrs, xr0, Nat.reduceAdd, Nat.reduceSub, List.cons_append, List.nil_append, List.set_cons_zero, List.set_cons_succ, Option.toList_none, Option.toList_some, nI_1]
    refine xi_icmpge rfl (fun c1 => ?_) (fun c1 => ?_)
    · refine xgo 80 rfl ?_
      try simp only [xlo0, List.map_cons, List.map_nil, List.length_cons, List.length_nil, xrs, xr0, Nat.reduceAdd, Nat.reduceSub, List.cons_append, List.nil_append, List.set_cons_zero, List.set_cons_succ, Option.toList_none, Option.toList_some, nI_1]
      refine xi_ret_i rfl rfl rfl ⟨by rw [← hm]; rfl, rfl⟩
    · exact absurd (i_le.mpr (Int.le_refl _)) c1
  | succ n ih =>
    intro f a x5 x6 hf hm
    obtain ⟨x, hx⟩ := lt_get (l := L) (j := f) (by omega)
    have hen := h.ent hx
    rw [drop_cons hx] at hm
    have hm : a + ((if ahead K e f x.2.2.1 = true then 1 else 0) + cahead K e (L.drop (f + 1)) (f + 1)) = cahead K e L 0 := hm
    refine xgo 80 rfl ?_
    try simp only [xlo0, List.map_cons, List.map_nil, List.length_cons, List.length_nil, xrs, xr0, Nat.reduceAdd, Nat.reduceSub, List.cons_append, List.nil_append, List.set_cons_zero, List.set_cons_succ, Option.toList_none, Option.toList_some, nI_1]
    refine xg 7 rfl rfl rfl h2 rfl ?_
    refine xgo 80 rfl ?_
    try simp only [xlo0, List.map_cons, List.map_nil, List.length_cons, List.length_nil, xrs, xr0, Nat.reduceAdd, Nat.reduceSub, List.cons_append, List.nil_append, List.set_cons_zero, List.set_cons_succ, Option.toList_none, Option.toList_some, nI_1]
    refine xi_icmpge rfl (fun c1 => ?_) (fun c1 => ?_)
    · exact absurd c1 (by rw [i_le, i_n (by omega), i_n (by omega)]; omega)
    refine xgo 80 rfl ?_
    try simp only [xlo0, List.map_cons, List.map_nil, List.length_cons, List.length_nil, xrs, xr0, Nat.reduceAdd, Nat.reduceSub, List.cons_append, List.nil_append, List.set_cons_zero, List.set_cons_succ, Option.toList_none, Option.toList_some, nI_1]
    refine xcV 7 rfl rfl rfl (c_SH_at h hx) rfl kX7_at iX7_at h2 ⟨_, rfl, rfl⟩ rfl rfl (Nat.le_of_ble_eq_true rfl) (fun v1 s1 q1 => ?_)
    obtain ⟨rfl, rfl⟩ := q1
    refine xgo 80 rfl ?_
    try simp only [xlo0, List.map_cons, List.map_nil, List.length_cons, List.length_nil, xrs, xr0, Nat.reduceAdd, Nat.reduceSub, List.cons_append, List.nil_append, List.set_cons_zero, List.set_cons_succ, Option.toList_none, Option.toList_some, nI_1]
    refine xi_ifnull_r rfl ?_
    refine xgo 80 rfl ?_
    try simp only [xlo0, List.map_cons, List.map_nil, List.length_cons, List.length_nil, xrs, xr0, Nat.reduceAdd, Nat.reduceSub, List.cons_append, List.nil_append, List.set_cons_zero, List.set_cons_succ, Option.toList_none, Option.toList_some, nI_1]
    refine xg 7 rfl rfl rfl hen.obj rfl ?_
    refine xgo 80 rfl ?_
    try simp only [xlo0, List.map_cons, List.map_nil, List.length_cons, List.length_nil, xrs, xr0, Nat.reduceAdd, Nat.reduceSub, List.cons_append, List.nil_append, List.set_cons_zero, List.set_cons_succ, Option.toList_none, Option.toList_some, nI_1]
    refine xg 7 rfl rfl rfl hen.cont.obj rfl ?_
    refine xgo 80 rfl ?_
    try simp only [xlo0, List.map_cons, List.map_nil, List.length_cons, List.length_nil, xrs, xr0, Nat.reduceAdd, Nat.reduceSub, List.cons_append, List.nil_append, List.set_cons_zero, List.set_cons_succ, Option.toList_none, Option.toList_some, nI_1]
    refine xg 7 rfl rfl rfl o1 rfl ?_
    refine xgo 80 rfl ?_
    try simp only [xlo0, List.map_cons, List.map_nil, List.length_cons, List.length_nil, xrs, xr0, Nat.reduceAdd, Nat.reduceSub, List.cons_append, List.nil_append, List.set_cons_zero, List.set_cons_succ, Option.toList_none, Option.toList_some, nI_1]
    refine xi_icmpne rfl (fun c2 => ?_) (fun c2 => ?_)
    · refine xto 5 80 rfl ?_
      try simp only [xlo0, List.map_cons, List.map_nil, List.length_cons, List.length_nil, xrs, xr0, Nat.reduceAdd, Nat.reduceSub, List.cons_append, List.nil_append, List.set_cons_zero, List.set_cons_succ, Option.toList_none, Option.toList_some, nI_1]
      refine ih (f + 1) a _ _ (by omega) ?_
      rw [if_neg (by simp [ahead, c2])] at hm
      omega
    refine xgo 80 rfl ?_
    try simp only [xlo0, List.map_cons, List.map_nil, List.length_cons, List.length_nil, xrs, xr0, Nat.reduceAdd, Nat.reduceSub, List.cons_append, List.nil_append, List.set_cons_zero, List.set_cons_succ, Option.toList_none, Option.toList_some, nI_1]
    refine xg 7 rfl rfl rfl hen.obj rfl ?_
    refine xgo 80 rfl ?_
    try simp only [xlo0, List.map_cons, List.map_nil, List.length_cons, List.length_nil, xrs, xr0, Nat.reduceAdd, Nat.reduceSub, List.cons_append, List.nil_append, List.set_cons_zero, List.set_cons_succ, Option.toList_none, Option.toList_some, nI_1]
    refine xg 7 rfl rfl rfl hen.cont.obj rfl ?_
    refine xgo 80 rfl ?_
    try simp only [xlo0, List.map_cons, List.map_nil, List.length_cons, List.length_nil, xrs, xr0, Nat.reduceAdd, Nat.reduceSub, List.cons_append, List.nil_append, List.set_cons_zero, List.set_cons_succ, Option.toList_none, Option.toList_some, nI_1]
    refine xg 7 rfl rfl rfl o1 rfl ?_
    refine xgo 80 rfl ?_
    try simp only [xlo0, List.map_cons, List.map_nil, List.length_cons, List.length_nil, xrs, xr0, Nat.reduceAdd, Nat.reduceSub, List.cons_append, List.nil_append, List.set_cons_zero, List.set_cons_succ, Option.toList_none, Option.toList_some, nI_1]
    refine xi_icmple rfl (fun c3 => ?_) (fun c3 => ?_)
    · refine xgo 80 rfl ?_
      try simp only [xlo0, List.map_cons, List.map_nil, List.length_cons, List.length_nil, xrs, xr0, Nat.reduceAdd, Nat.reduceSub, List.cons_append, List.nil_append, List.set_cons_zero, List.set_cons_succ, Option.toList_none, Option.toList_some, nI_1]
      refine xi_ifne rfl (fun c4 => ?_) (fun c4 => ?_)
      · exact absurd rfl c4
      refine xgo 80 rfl ?_
      try simp only [xlo0, List.map_cons, List.map_nil, List.length_cons, List.length_nil, xrs, xr0, Nat.reduceAdd, Nat.reduceSub, List.cons_append, List.nil_append, List.set_cons_zero, List.set_cons_succ, Option.toList_none, Option.toList_some, nI_1]
      refine xg 7 rfl rfl rfl hen.obj rfl ?_
      refine xgo 80 rfl ?_
      try simp only [xlo0, List.map_cons, List.map_nil, List.length_cons, List.length_nil, xrs, xr0, Nat.reduceAdd, Nat.reduceSub, List.cons_append, List.nil_append, List.set_cons_zero, List.set_cons_succ, Option.toList_none, Option.toList_some, nI_1]
      refine xg 7 rfl rfl rfl hen.cont.obj rfl ?_
      refine xgo 80 rfl ?_
      try simp only [xlo0, List.map_cons, List.map_nil, List.length_cons, List.length_nil, xrs, xr0, Nat.reduceAdd, Nat.reduceSub, List.cons_append, List.nil_append, List.set_cons_zero, List.set_cons_succ, Option.toList_none, Option.toList_some, nI_1]
      refine xg 7 rfl rfl rfl o1 rfl ?_
      have hnlt : ¬ K.1.2.1 < x.2.2.1.1.2.1 := by rw [i_lt]; rw [i_le] at c3; omega
      refine xgo 80 rfl ?_
      try simp only [xlo0, List.map_cons, List.map_nil, List.length_cons, List.length_nil, xrs, xr0, Nat.reduceAdd, Nat.reduceSub, List.cons_append, List.nil_append, List.set_cons_zero, List.set_cons_succ, Option.toList_none, Option.toList_some, nI_1]
      refine xi_icmpne rfl (fun c5 => ?_) (fun c5 => ?_)
      · refine xto 5 80 rfl ?_
        try simp only [xlo0, List.map_cons, List.map_nil, List.length_cons, List.length_nil, xrs, xr0, Nat.reduceAdd, Nat.reduceSub, List.cons_append, List.nil_append, List.set_cons_zero, List.set_cons_succ, Option.toList_none, Option.toList_some, nI_1]
        refine ih (f + 1) a _ _ (by omega) ?_
        rw [if_neg (by simp [ahead, hnlt, c5])] at hm
        omega
      refine xgo 80 rfl ?_
      try simp only [xlo0, List.map_cons, List.map_nil, List.length_cons, List.length_nil, xrs, xr0, Nat.reduceAdd, Nat.reduceSub, List.cons_append, List.nil_append, List.set_cons_zero, List.set_cons_succ, Option.toList_none, Option.toList_some, nI_1]
      refine xi_icmple rfl (fun c6 => ?_) (fun c6 => ?_)
      · refine xto 5 80 rfl ?_
        try simp only [xlo0, List.map_cons, List.map_nil, List.length_cons, List.length_nil, xrs, xr0, Nat.reduceAdd, Nat.reduceSub, List.cons_append, List.nil_append, List.set_cons_zero, List.set_cons_succ, Option.toList_none, Option.toList_some, nI_1]
        refine ih (f + 1) a _ _ (by omega) ?_
        have : ¬ e < nI f := by rw [i_lt]; rw [i_le] at c6; omega
        rw [if_neg (by simp [ahead, hnlt, this])] at hm
        omega
      · refine xto 5 80 rfl ?_
        try simp only [xlo0, List.map_cons, List.map_nil, List.length_cons, List.length_nil, xrs, xr0, Nat.reduceAdd, Nat.reduceSub, List.cons_append, List.nil_append, List.set_cons_zero, List.set_cons_succ, Option.toList_none, Option.toList_some, nI_1]
        refine ih (f + 1) (a + 1) _ _ (by omega) ?_
        have : e < nI f := by rw [i_lt]; rw [i_le] at c6; omega
        rw [if_pos (by simp [ahead, c2, c5, this])] at hm
        omega
    · have hlt : K.1.2.1 < x.2.2.1.1.2.1 := by rw [i_lt]; rw [i_le] at c3; omega
      refine xgo 80 rfl ?_
      try simp only [xlo0, List.map_cons, List.map_nil, List.length_cons, List.length_nil, xrs, xr0, Nat.reduceAdd, Nat.reduceSub, List.cons_append, List.nil_append, List.set_cons_zero, List.set_cons_succ, Option.toList_none, Option.toList_some, nI_1]
      refine xi_ifne rfl (fun c4 => ?_) (fun c4 => ?_)
      · refine xto 5 80 rfl ?_
        try simp only [xlo0, List.map_cons, List.map_nil, List.length_cons, List.length_nil, xrs, xr0, Nat.reduceAdd, Nat.reduceSub, List.cons_append, List.nil_append, List.set_cons_zero, List.set_cons_succ, Option.toList_none, Option.toList_some, nI_1]
        refine ih (f + 1) (a + 1) _ _ (by omega) ?_
        rw [if_pos (by simp [ahead, c2, hlt])] at hm
        omega
      · exact absurd c4 (by decide)
set_option maxRecDepth 100000 in
set_option maxHeartbeats 8000000 in
theorem c_SH_countAhead {G : xG} {d s b : Nat} {L : sL} {K : cV} {e : Int32} {σ : xS} (h : shf G σ.1 s L) (hK : cont G σ.1 b K) : xm G (d + 1) mX7_countAhead [rf G s, rf G b, .int e] σ (fun v σ' => v = some (.int (nI (cahead K e L 0))) ∧ σ' = σ) := by
  refine xm_at 7 rfl (by decide) (Nat.le_of_ble_eq_true rfl) (by simp [Value.category]) tX7_countAhead_ok ?_
  try simp only [xlo0, List.map_cons, List.map_nil, List.length_cons, List.length_nil, xrs, xr0, Nat.reduceAdd, Nat.reduceSub, List.cons_append, List.nil_append, List.set_cons_zero, List.set_cons_succ, Option.toList_none, Option.toList_some, nI_1]
  refine xto 5 80 rfl ?_
  try simp only [xlo0, List.map_cons, List.map_nil, List.length_cons, List.length_nil, xrs, xr0, Nat.reduceAdd, Nat.reduceSub, List.cons_append, List.nil_append, List.set_cons_zero, List.set_cons_succ, Option.toList_none, Option.toList_some, nI_1]
  exact l_SH_countAhead h hK L.length 0 0 none none (by omega) (by simp)
end
section
def rnkI (L : sL) (name rank : Int32) : sL → Nat → Int32
  | [], _ => -1
  | x :: xs, e => if x.2.2.1.1.1 = name ∧ nI (cahead x.2.2.1 (nI e) L 0) = rank then nI e else rnkI L name rank xs (e + 1)
set_option maxRecDepth 100000 in
set_option maxHeartbeats 8000000 in
theorem l_SH_ranked {G : xG} {d s : Nat} {L : sL} {name rank : Int32} {σ : xS} (h : shf G σ.1 s L) : ∀ (n e : Nat) (x4 : Option Value), e + n = L.length → rnkI L name rank (L.drop e) e = rnkI L name rank L 0 →
    xw G (d + 2) mX7_ranked 2 [some (rf G s), some (.int name), some (.int rank), some (.int (nI e)), x4] [] σ (fun v σ' => v = some (.int (rnkI L name rank L 0)) ∧ σ' = σ) := by
  have hL := h.1
  have h2 := h.2.1
  intro n
  induction n with
  | zero =>
    intro f x4 hf hm
    have hf' : f = L.length := by omega
    subst hf'
    rw [List.drop_length] at hm
    refine xgo 80 rfl ?_
    try simp only [xlo0, List.map_cons, List.map_nil, List.length_cons, List.length_nil, xrs, xr0, Nat.reduceAdd, Nat.reduceSub, List.cons_append, List.nil_append, List.set_cons_zero, List.set_cons_succ, Option.toList_none, Option.toList_some, nI_1]
    refine xg 7 rfl rfl rfl h2 rfl ?_
    refine xgo 80 rfl ?_
    try simp only [xlo0, List.map_cons, List.map_nil, List.length_cons, List.length_nil, xrs, xr0, Nat.reduceAdd, Nat.reduceSub, List.cons_append, List.nil_append, List.set_cons_zero, List.set_cons_succ, Option.toList_none, Option.toList_some, nI_1]
    refine xi_icmpge rfl (fun c1 => ?_) (fun c1 => ?_)
    · refine xgo 80 rfl ?_
      try simp only [xlo0, List.map_cons, List.map_nil, List.length_cons, List.length_nil, xrs, xr0, Nat.reduceAdd, Nat.reduceSub, List.cons_append, List.nil_append, List.set_cons_zero, List.set_cons_succ, Option.toList_none, Option.toList_some, nI_1]
      refine xi_ret_i rfl rfl rfl ⟨by rw [← hm]; rfl, rfl⟩
    · exact absurd (i_le.mpr (Int.le_refl _)) c1
  | succ n ih =>
    intro f x4 hf hm
    obtain ⟨x, hx⟩ := lt_get (l := L) (j := f) (by omega)
    have hen := h.ent hx
    rw [drop_cons hx] at hm
    have hm : (if x.2.2.1.1.1 = name ∧ nI (cahead x.2.2.1 (nI f) L 0) = rank then nI f else rnkI L name rank (L.drop (f + 1)) (f + 1)) = rnkI L name rank L 0 := hm
    refine xgo 80 rfl ?_
    try simp only [xlo0, List.map_cons, List.map_nil, List.length_cons, List.length_nil, xrs, xr0, Nat.reduceAdd, Nat.reduceSub, List.cons_append, List.nil_append, List.set_cons_zero, List.set_cons_succ, Option.toList_none, Option.toList_some, nI_1]
    refine xg 7 rfl rfl rfl h2 rfl ?_
    refine xgo 80 rfl ?_
    try simp only [xlo0, List.map_cons, List.map_nil, List.length_cons, List.length_nil, xrs, xr0, Nat.reduceAdd, Nat.reduceSub, List.cons_append, List.nil_append, List.set_cons_zero, List.set_cons_succ, Option.toList_none, Option.toList_some, nI_1]
    refine xi_icmpge rfl (fun c1 => ?_) (fun c1 => ?_)
    · exact absurd c1 (by rw [i_le, i_n (by omega), i_n (by omega)]; omega)
    refine xgo 80 rfl ?_
    try simp only [xlo0, List.map_cons, List.map_nil, List.length_cons, List.length_nil, xrs, xr0, Nat.reduceAdd, Nat.reduceSub, List.cons_append, List.nil_append, List.set_cons_zero, List.set_cons_succ, Option.toList_none, Option.toList_some, nI_1]
    refine xcV 7 rfl rfl rfl (c_SH_at h hx) rfl kX7_at iX7_at h2 ⟨_, rfl, rfl⟩ rfl rfl (Nat.le_of_ble_eq_true rfl) (fun v1 s1 q1 => ?_)
    obtain ⟨rfl, rfl⟩ := q1
    refine xgo 80 rfl ?_
    try simp only [xlo0, List.map_cons, List.map_nil, List.length_cons, List.length_nil, xrs, xr0, Nat.reduceAdd, Nat.reduceSub, List.cons_append, List.nil_append, List.set_cons_zero, List.set_cons_succ, Option.toList_none, Option.toList_some, nI_1]
    refine xi_ifnull_r rfl ?_
    refine xgo 80 rfl ?_
    try simp only [xlo0, List.map_cons, List.map_nil, List.length_cons, List.length_nil, xrs, xr0, Nat.reduceAdd, Nat.reduceSub, List.cons_append, List.nil_append, List.set_cons_zero, List.set_cons_succ, Option.toList_none, Option.toList_some, nI_1]
    refine xg 7 rfl rfl rfl hen.obj rfl ?_
    refine xgo 80 rfl ?_
    try simp only [xlo0, List.map_cons, List.map_nil, List.length_cons, List.length_nil, xrs, xr0, Nat.reduceAdd, Nat.reduceSub, List.cons_append, List.nil_append, List.set_cons_zero, List.set_cons_succ, Option.toList_none, Option.toList_some, nI_1]
    refine xg 7 rfl rfl rfl hen.cont.obj rfl ?_
    refine xgo 80 rfl ?_
    try simp only [xlo0, List.map_cons, List.map_nil, List.length_cons, List.length_nil, xrs, xr0, Nat.reduceAdd, Nat.reduceSub, List.cons_append, List.nil_append, List.set_cons_zero, List.set_cons_succ, Option.toList_none, Option.toList_some, nI_1]
    refine xi_icmpne rfl (fun c2 => ?_) (fun c2 => ?_)
    · refine xto 2 80 rfl ?_
      try simp only [xlo0, List.map_cons, List.map_nil, List.length_cons, List.length_nil, xrs, xr0, Nat.reduceAdd, Nat.reduceSub, List.cons_append, List.nil_append, List.set_cons_zero, List.set_cons_succ, Option.toList_none, Option.toList_some, nI_1]
      refine ih (f + 1) _ (by omega) ?_
      rw [if_neg (fun q => c2 q.1)] at hm
      exact hm
    refine xgo 80 rfl ?_
    try simp only [xlo0, List.map_cons, List.map_nil, List.length_cons, List.length_nil, xrs, xr0, Nat.reduceAdd, Nat.reduceSub, List.cons_append, List.nil_append, List.set_cons_zero, List.set_cons_succ, Option.toList_none, Option.toList_some, nI_1]
    refine xg 7 rfl rfl rfl hen.obj rfl ?_
    refine xgo 80 rfl ?_
    try simp only [xlo0, List.map_cons, List.map_nil, List.length_cons, List.length_nil, xrs, xr0, Nat.reduceAdd, Nat.reduceSub, List.cons_append, List.nil_append, List.set_cons_zero, List.set_cons_succ, Option.toList_none, Option.toList_some, nI_1]
    refine xcV 7 rfl rfl rfl (c_SH_countAhead h hen.cont) rfl kX7_countAhead iX7_countAhead h2 ⟨_, rfl, rfl⟩ rfl rfl (Nat.le_of_ble_eq_true rfl) (fun v2 s2 q2 => ?_)
    obtain ⟨rfl, rfl⟩ := q2
    refine xgo 80 rfl ?_
    try simp only [xlo0, List.map_cons, List.map_nil, List.length_cons, List.length_nil, xrs, xr0, Nat.reduceAdd, Nat.reduceSub, List.cons_append, List.nil_append, List.set_cons_zero, List.set_cons_succ, Option.toList_none, Option.toList_some, nI_1]
    refine xi_icmpne rfl (fun c3 => ?_) (fun c3 => ?_)
    · refine xto 2 80 rfl ?_
      try simp only [xlo0, List.map_cons, List.map_nil, List.length_cons, List.length_nil, xrs, xr0, Nat.reduceAdd, Nat.reduceSub, List.cons_append, List.nil_append, List.set_cons_zero, List.set_cons_succ, Option.toList_none, Option.toList_some, nI_1]
      refine ih (f + 1) _ (by omega) ?_
      rw [if_neg (fun q => c3 q.2)] at hm
      exact hm
    · rw [if_pos ⟨c2, c3⟩] at hm
      refine xgo 80 rfl ?_
      try simp only [xlo0, List.map_cons, List.map_nil, List.length_cons, List.length_nil, xrs, xr0, Nat.reduceAdd, Nat.reduceSub, List.cons_append, List.nil_append, List.set_cons_zero, List.set_cons_succ, Option.toList_none, Option.toList_some, nI_1]
      refine xi_ret_i rfl rfl rfl ⟨by rw [hm], rfl⟩
set_option maxRecDepth 100000 in
set_option maxHeartbeats 8000000 in
theorem c_SH_ranked {G : xG} {d s : Nat} {L : sL} {name rank : Int32} {σ : xS} (h : shf G σ.1 s L) : xm G (d + 2) mX7_ranked [rf G s, .int name, .int rank] σ (fun v σ' => v = some (.int (rnkI L name rank L 0)) ∧ σ' = σ) := by
  refine xm_at 5 rfl (by decide) (Nat.le_of_ble_eq_true rfl) (by simp [Value.category]) tX7_ranked_ok ?_
  try simp only [xlo0, List.map_cons, List.map_nil, List.length_cons, List.length_nil, xrs, xr0, Nat.reduceAdd, Nat.reduceSub, List.cons_append, List.nil_append, List.set_cons_zero, List.set_cons_succ, Option.toList_none, Option.toList_some, nI_1]
  refine xto 2 80 rfl ?_
  try simp only [xlo0, List.map_cons, List.map_nil, List.length_cons, List.length_nil, xrs, xr0, Nat.reduceAdd, Nat.reduceSub, List.cons_append, List.nil_append, List.set_cons_zero, List.set_cons_succ, Option.toList_none, Option.toList_some, nI_1]
  exact l_SH_ranked h L.length 0 none (by omega) rfl
def leanI (e rank : Int32) : sL → Nat → Nat → Int32
  | [], _, _ => -1
  | x :: xs, f, b => if x.2.2.2.1.any (fun m => m == e) then (if nI b = rank then nI f else leanI e rank xs (f + 1) (b + 1)) else leanI e rank xs (f + 1) b
set_option maxRecDepth 100000 in
set_option maxHeartbeats 8000000 in
theorem l_SH_leaning {G : xG} {d s : Nat} {L : sL} {e rank : Int32} {σ : xS} (h : shf G σ.1 s L) : ∀ (n f b : Nat) (x5 : Option Value), f + n = L.length → leanI e rank (L.drop f) f b = leanI e rank L 0 0 →
    xw G (d + 2) mX7_leaning 5 [some (rf G s), some (.int e), some (.int rank), some (.int (nI b)), some (.int (nI f)), x5] [] σ (fun v σ' => v = some (.int (leanI e rank L 0 0)) ∧ σ' = σ) := by
  have hL := h.1
  have h2 := h.2.1
  intro n
  induction n with
  | zero =>
    intro f b x5 hf hm
    have hf' : f = L.length := by omega
    subst hf'
    rw [List.drop_length] at hm
    refine xgo 80 rfl ?_
    try simp only [xlo0, List.map_cons, List.map_nil, List.length_cons, List.length_nil, xrs, xr0, Nat.reduceAdd, Nat.reduceSub, List.cons_append, List.nil_append, List.set_cons_zero, List.set_cons_succ, Option.toList_none, Option.toList_some, nI_1]
    refine xg 7 rfl rfl rfl h2 rfl ?_
    refine xgo 80 rfl ?_
    try simp only [xlo0, List.map_cons, List.map_nil, List.length_cons, List.length_nil, xrs, xr0, Nat.reduceAdd, Nat.reduceSub, List.cons_append, List.nil_append, List.set_cons_zero, List.set_cons_succ, Option.toList_none, Option.toList_some, nI_1]
    refine xi_icmpge rfl (fun c1 => ?_) (fun c1 => ?_)
    · refine xgo 80 rfl ?_
      try simp only [xlo0, List.map_cons, List.map_nil, List.length_cons, List.length_nil, xrs, xr0, Nat.reduceAdd, Nat.reduceSub, List.cons_append, List.nil_append, List.set_cons_zero, List.set_cons_succ, Option.toList_none, Option.toList_some, nI_1]
      refine xi_ret_i rfl rfl rfl ⟨by rw [← hm]; rfl, rfl⟩
    · exact absurd (i_le.mpr (Int.le_refl _)) c1
  | succ n ih =>
    intro f b x5 hf hm
    obtain ⟨x, hx⟩ := lt_get (l := L) (j := f) (by omega)
    have hen := h.ent hx
    rw [drop_cons hx] at hm
    have hm : (if x.2.2.2.1.any (fun m => m == e) = true then (if nI b = rank then nI f else leanI e rank (L.drop (f + 1)) (f + 1) (b + 1)) else leanI e rank (L.drop (f + 1)) (f + 1) b) = leanI e rank L 0 0 := hm
    refine xgo 80 rfl ?_
    try simp only [xlo0, List.map_cons, List.map_nil, List.length_cons, List.length_nil, xrs, xr0, Nat.reduceAdd, Nat.reduceSub, List.cons_append, List.nil_append, List.set_cons_zero, List.set_cons_succ, Option.toList_none, Option.toList_some, nI_1]
    refine xg 7 rfl rfl rfl h2 rfl ?_
    refine xgo 80 rfl ?_
    try simp only [xlo0, List.map_cons, List.map_nil, List.length_cons, List.length_nil, xrs, xr0, Nat.reduceAdd, Nat.reduceSub, List.cons_append, List.nil_append, List.set_cons_zero, List.set_cons_succ, Option.toList_none, Option.toList_some, nI_1]
    refine xi_icmpge rfl (fun c1 => ?_) (fun c1 => ?_)
    · exact absurd c1 (by rw [i_le, i_n (by omega), i_n (by omega)]; omega)
    refine xgo 80 rfl ?_
    try simp only [xlo0, List.map_cons, List.map_nil, List.length_cons, List.length_nil, xrs, xr0, Nat.reduceAdd, Nat.reduceSub, List.cons_append, List.nil_append, List.set_cons_zero, List.set_cons_succ, Option.toList_none, Option.toList_some, nI_1]
    refine xcV 7 rfl rfl rfl (c_SH_at h hx) rfl kX7_at iX7_at h2 ⟨_, rfl, rfl⟩ rfl rfl (Nat.le_of_ble_eq_true rfl) (fun v1 s1 q1 => ?_)
    obtain ⟨rfl, rfl⟩ := q1
    refine xgo 80 rfl ?_
    try simp only [xlo0, List.map_cons, List.map_nil, List.length_cons, List.length_nil, xrs, xr0, Nat.reduceAdd, Nat.reduceSub, List.cons_append, List.nil_append, List.set_cons_zero, List.set_cons_succ, Option.toList_none, Option.toList_some, nI_1]
    refine xi_ifnull_r rfl ?_
    refine xgo 80 rfl ?_
    try simp only [xlo0, List.map_cons, List.map_nil, List.length_cons, List.length_nil, xrs, xr0, Nat.reduceAdd, Nat.reduceSub, List.cons_append, List.nil_append, List.set_cons_zero, List.set_cons_succ, Option.toList_none, Option.toList_some, nI_1]
    refine xcV 7 rfl rfl rfl (c_EN_leansOn hen) rfl kX3_leansOn iX3_leansOn hen.obj ⟨_, rfl, rfl⟩ rfl rfl (Nat.le_of_ble_eq_true rfl) (fun v2 s2 q2 => ?_)
    obtain ⟨rfl, rfl⟩ := q2
    cases hl : x.2.2.2.1.any (fun m => m == e) with
    | false =>
      rw [hl, if_neg (by decide)] at hm
      refine xgo 80 rfl ?_
      try simp only [xlo0, List.map_cons, List.map_nil, List.length_cons, List.length_nil, xrs, xr0, Nat.reduceAdd, Nat.reduceSub, List.cons_append, List.nil_append, List.set_cons_zero, List.set_cons_succ, Option.toList_none, Option.toList_some, nI_1]
      refine xi_ifeq rfl (fun c2 => ?_) (fun c2 => ?_)
      · refine xto 5 80 rfl ?_
        try simp only [xlo0, List.map_cons, List.map_nil, List.length_cons, List.length_nil, xrs, xr0, Nat.reduceAdd, Nat.reduceSub, List.cons_append, List.nil_append, List.set_cons_zero, List.set_cons_succ, Option.toList_none, Option.toList_some, nI_1]
        exact ih (f + 1) b _ (by omega) hm
      · exact absurd rfl c2
    | true =>
      rw [hl, if_pos rfl] at hm
      refine xgo 80 rfl ?_
      try simp only [xlo0, List.map_cons, List.map_nil, List.length_cons, List.length_nil, xrs, xr0, Nat.reduceAdd, Nat.reduceSub, List.cons_append, List.nil_append, List.set_cons_zero, List.set_cons_succ, Option.toList_none, Option.toList_some, nI_1]
      refine xi_ifeq rfl (fun c2 => ?_) (fun c2 => ?_)
      · exact absurd c2 (by decide)
      refine xgo 80 rfl ?_
      try simp only [xlo0, List.map_cons, List.map_nil, List.length_cons, List.length_nil, xrs, xr0, Nat.reduceAdd, Nat.reduceSub, List.cons_append, List.nil_append, List.set_cons_zero, List.set_cons_succ, Option.toList_none, Option.toList_some, nI_1]
      refine xi_icmpne rfl (fun c3 => ?_) (fun c3 => ?_)
      · rw [if_neg c3] at hm
        refine xto 5 80 rfl ?_
        try simp only [xlo0, List.map_cons, List.map_nil, List.length_cons, List.length_nil, xrs, xr0, Nat.reduceAdd, Nat.reduceSub, List.cons_append, List.nil_append, List.set_cons_zero, List.set_cons_succ, Option.toList_none, Option.toList_some, nI_1]
        exact ih (f + 1) (b + 1) _ (by omega) hm
      · rw [if_pos c3] at hm
        refine xgo 80 rfl ?_
        try simp only [xlo0, List.map_cons, List.map_nil, List.length_cons, List.length_nil, xrs, xr0, Nat.reduceAdd, Nat.reduceSub, List.cons_append, List.nil_append, List.set_cons_zero, List.set_cons_succ, Option.toList_none, Option.toList_some, nI_1]
        refine xi_ret_i rfl rfl rfl ⟨by rw [hm], rfl⟩
set_option maxRecDepth 100000 in
set_option maxHeartbeats 8000000 in
theorem c_SH_leaning {G : xG} {d s : Nat} {L : sL} {e rank : Int32} {σ : xS} (h : shf G σ.1 s L) : xm G (d + 2) mX7_leaning [rf G s, .int e, .int rank] σ (fun v σ' => v = some (.int (leanI e rank L 0 0)) ∧ σ' = σ) := by
  refine xm_at 6 rfl (by decide) (Nat.le_of_ble_eq_true rfl) (by simp [Value.category]) tX7_leaning_ok ?_
  try simp only [xlo0, List.map_cons, List.map_nil, List.length_cons, List.length_nil, xrs, xr0, Nat.reduceAdd, Nat.reduceSub, List.cons_append, List.nil_append, List.set_cons_zero, List.set_cons_succ, Option.toList_none, Option.toList_some, nI_1]
  refine xto 5 80 rfl ?_
  try simp only [xlo0, List.map_cons, List.map_nil, List.length_cons, List.length_nil, xrs, xr0, Nat.reduceAdd, Nat.reduceSub, List.cons_append, List.nil_append, List.set_cons_zero, List.set_cons_succ, Option.toList_none, Option.toList_some, nI_1]
  exact l_SH_leaning h L.length 0 0 none (by omega) rfl
/-- the shelf's cells and those of its entries lie apart, all below n -/
def shsep (s n : Nat) (L : sL) : Prop := s + 2 ≤ n ∧ ∀ (i : Nat) (x : Nat × Nat × eV), L[i]? = some x → s + 2 ≤ x.1 ∧ x.1 + 3 ≤ n ∧ (s + 2 ≤ x.2.1 ∨ x.2.1 + 17 ≤ s) ∧ x.2.1 + 17 ≤ n
theorem shf.keepN {G : xG} {h h' : Nat → Option xC} {s n : Nat} {L : sL} (H : shf G h s L) (hs : shsep s n L) (f : ∀ q, q < n → h' q = h q) : shf G h' s L := by
  obtain ⟨h1, h2, ⟨ar, h3, h4⟩, h5⟩ := H
  have f' : frz h h' n (0) → True := fun _ => trivial
  refine ⟨h1, by rw [f s (by have := hs.1; omega)]; exact h2, ⟨ar, by rw [f (s + 1) (by have := hs.1; omega)]; exact h3, h4⟩, fun i x hx => ?_⟩
  obtain ⟨a1, a2, a3, a4⟩ := hs.2 i x hx
  obtain ⟨mb, ovs, b1, b2, b3, b4, r⟩ := h5 i x hx
  obtain ⟨nn, ne, nx, sa, ks, ps, ln, pg, g0, g1, g2, g3, g4, g5, g6, g7, g8, hp, rr⟩ := b4
  exact ⟨mb, ovs, by rw [f _ (by omega)]; exact b1, by rw [f _ (by omega)]; exact b2, by rw [f _ (by omega)]; exact b3, ⟨nn, ne, nx, sa, ks, ps, ln, pg, by rw [f _ (by omega)]; exact g0, by rw [f _ (by omega)]; exact g1, by rw [f _ (by omega)]; exact g2, by rw [f _ (by omega)]; exact g3, by rw [f _ (by omega)]; exact g4, by rw [f _ (by omega)]; exact g5, by rw [f _ (by omega)]; exact g6, by rw [f _ (by omega)]; exact g7, by rw [f _ (by omega)]; exact g8, fun r hr => by rw [f _ (by omega)]; exact hp r hr, rr⟩, r⟩
theorem cont.keepN {G : xG} {h h' : Nat → Option xC} {c n : Nat} {K : cV} (H : cont G h c K) (hc : c + 17 ≤ n) (f : ∀ q, q < n → h' q = h q) : cont G h' c K := by
  obtain ⟨nn, ne, nx, sa, ks, ps, ln, pg, g0, g1, g2, g3, g4, g5, g6, g7, g8, hp, rr⟩ := H
  exact ⟨nn, ne, nx, sa, ks, ps, ln, pg, by rw [f _ (by omega)]; exact g0, by rw [f _ (by omega)]; exact g1, by rw [f _ (by omega)]; exact g2, by rw [f _ (by omega)]; exact g3, by rw [f _ (by omega)]; exact g4, by rw [f _ (by omega)]; exact g5, by rw [f _ (by omega)]; exact g6, by rw [f _ (by omega)]; exact g7, by rw [f _ (by omega)]; exact g8, fun r hr => by rw [f _ (by omega)]; exact hp r hr, rr⟩
theorem ent.keepQ {G : xG} {h h' : Nat → Option xC} {k c : Nat} {V : eV} (H : ent G h k c V) (f : ∀ q, ((k ≤ q ∧ q < k + 3) ∨ (c ≤ q ∧ q < c + 17)) → h' q = h q) : ent G h' k c V := by
  obtain ⟨mb, ovs, b1, b2, b3, b4, r⟩ := H
  obtain ⟨nn, ne, nx, sa, ks, ps, ln, pg, g0, g1, g2, g3, g4, g5, g6, g7, g8, hp, rr⟩ := b4
  exact ⟨mb, ovs, by rw [f _ (by omega)]; exact b1, by rw [f _ (by omega)]; exact b2, by rw [f _ (by omega)]; exact b3, ⟨nn, ne, nx, sa, ks, ps, ln, pg, by rw [f _ (by omega)]; exact g0, by rw [f _ (by omega)]; exact g1, by rw [f _ (by omega)]; exact g2, by rw [f _ (by omega)]; exact g3, by rw [f _ (by omega)]; exact g4, by rw [f _ (by omega)]; exact g5, by rw [f _ (by omega)]; exact g6, by rw [f _ (by omega)]; exact g7, by rw [f _ (by omega)]; exact g8, fun r hr => by rw [f _ (by omega)]; exact hp r hr, rr⟩, r⟩
theorem map_snoc {nd : List (Int32 × Int32 × Int32)} {f : Int32 × Int32 × Int32 → Int32} {j : Nat} {e : Int32 × Int32 × Int32} (h : nd[j]? = some e) : (nd.take (j + 1)).map f = (nd.take j).map f ++ [f e] := by
  rw [List.take_succ, h]
  simp
set_option maxRecDepth 100000 in
set_option maxHeartbeats 8000000 in
theorem l_SH_put {G : xG} {d s c k : Nat} {L : sL} {K : cV} {σ : xS} {Q : Option Value → xS → Prop} (hc : c + 17 ≤ k) (hs : shsep s k L)
    (kk : ∀ (mb : List Int32) (t : xS) (x3 : Option Value), shf G t.1 s L → cont G t.1 c K → t.1 k = some (11, vi mb) → mb.length = 4 → mb.take K.2.1.length = K.2.1.map (meetI L) → (∀ q, q < k → t.1 q = σ.1 q) → t.2.1 = k + 1 → t.2.2 = σ.2.2 + 4 → xw G (d + 3) mX7_put 41 [some (rf G s), some (rf G c), some (rf G k), x3] [] t Q) :
    ∀ (n j : Nat) (mb : List Int32) (t : xS), j + n = K.2.1.length → shf G t.1 s L → cont G t.1 c K → t.1 k = some (11, vi mb) → mb.length = 4 → mb.take j = (K.2.1.take j).map (meetI L) → (∀ q, q < k → t.1 q = σ.1 q) → t.2.1 = k + 1 → t.2.2 = σ.2.2 + 4 →
    xw G (d + 3) mX7_put 18 [some (rf G s), some (rf G c), some (rf G k), some (.int (nI j))] [] t Q := by
  intro n
  induction n with
  | zero =>
    intro j mb t hj h hK hk hl hm hf g1 g2
    have hb := hK.bnd
    have hj' : j = K.2.1.length := by omega
    subst hj'
    rw [List.take_length] at hm
    refine xgo 80 rfl ?_
    try simp only [xlo0, List.map_cons, List.map_nil, List.length_cons, List.length_nil, xrs, xr0, Nat.reduceAdd, Nat.reduceSub, List.cons_append, List.nil_append, List.set_cons_zero, List.set_cons_succ, Option.toList_none, Option.toList_some, nI_1]
    refine xg 7 rfl rfl rfl hK.obj rfl ?_
    refine xgo 80 rfl ?_
    try simp only [xlo0, List.map_cons, List.map_nil, List.length_cons, List.length_nil, xrs, xr0, Nat.reduceAdd, Nat.reduceSub, List.cons_append, List.nil_append, List.set_cons_zero, List.set_cons_succ, Option.toList_none, Option.toList_some, nI_1]
    refine xi_icmpge rfl (fun c1 => ?_) (fun c1 => ?_)
    · exact kk mb t _ h hK hk hl hm hf g1 g2
    · exact absurd (i_le.mpr (Int.le_refl _)) c1
  | succ n ih =>
    intro j mb t hj h hK hk hl hm hf g1 g2
    have hb := hK.bnd
    obtain ⟨e, he⟩ := lt_get (l := K.2.1) (j := j) (by omega)
    have hcl : (nI j).toNatClampNeg = j := nI_clamp (by omega)
    refine xgo 80 rfl ?_
    try simp only [xlo0, List.map_cons, List.map_nil, List.length_cons, List.length_nil, xrs, xr0, Nat.reduceAdd, Nat.reduceSub, List.cons_append, List.nil_append, List.set_cons_zero, List.set_cons_succ, Option.toList_none, Option.toList_some, nI_1]
    refine xg 7 rfl rfl rfl hK.obj rfl ?_
    refine xgo 80 rfl ?_
    try simp only [xlo0, List.map_cons, List.map_nil, List.length_cons, List.length_nil, xrs, xr0, Nat.reduceAdd, Nat.reduceSub, List.cons_append, List.nil_append, List.set_cons_zero, List.set_cons_succ, Option.toList_none, Option.toList_some, nI_1]
    refine xi_icmpge rfl (fun c1 => ?_) (fun c1 => ?_)
    · exact absurd c1 (by rw [i_le, i_n (by omega), i_n (by omega)]; omega)
    refine xgo 80 rfl ?_
    try simp only [xlo0, List.map_cons, List.map_nil, List.length_cons, List.length_nil, xrs, xr0, Nat.reduceAdd, Nat.reduceSub, List.cons_append, List.nil_append, List.set_cons_zero, List.set_cons_succ, Option.toList_none, Option.toList_some, nI_1]
    refine xcV 7 rfl rfl rfl (c_SH_meeting h hK he) rfl kX7_meeting iX7_meeting h.2.1 ⟨_, rfl, rfl⟩ rfl rfl (Nat.le_of_ble_eq_true rfl) (fun v1 s1 q1 => ?_)
    obtain ⟨rfl, rfl⟩ := q1
    refine xgo 80 rfl ?_
    try simp only [xlo0, List.map_cons, List.map_nil, List.length_cons, List.length_nil, xrs, xr0, Nat.reduceAdd, Nat.reduceSub, List.cons_append, List.nil_append, List.set_cons_zero, List.set_cons_succ, Option.toList_none, Option.toList_some, nI_1]
    refine xsi rfl hk (nI_pos (by omega)) (by rw [hcl, vi_len]; omega) (fun s2 n2 f2 e2 => ?_)
    refine xto 18 80 rfl ?_
    try simp only [xlo0, List.map_cons, List.map_nil, List.length_cons, List.length_nil, xrs, xr0, Nat.reduceAdd, Nat.reduceSub, List.cons_append, List.nil_append, List.set_cons_zero, List.set_cons_succ, Option.toList_none, Option.toList_some, nI_1]
    have hf2 : ∀ q, q < k → s2.1 q = s1.1 q := fun q hq => f2 q (by omega)
    refine ih (j + 1) (mb.set j (meetI L e)) s2 (by omega) (h.keepN hs hf2) (hK.keepN hc hf2) (by rw [n2, hcl, vi_set]) (by simp [hl]) ?_ (fun q hq => (hf2 q hq).trans (hf q hq)) ((congrArg Prod.fst e2).trans g1) ((congrArg Prod.snd e2).trans g2)
    rw [map_snoc he, ← hm]
    have hlen : (mb.take j).length = j := by simp; omega
    have := take_snoc (xs := mb) (bs := mb.take j) (b := meetI L e) (by rw [hlen]) (by omega)
    rw [hlen] at this
    simpa [hlen, Nat.min_eq_left (show j ≤ mb.length by omega)] using this
set_option maxRecDepth 100000 in
set_option maxHeartbeats 8000000 in
theorem c_SH_put {G : xG} {d s c : Nat} {L : sL} {K : cV} {σ : xS} (h : shf G σ.1 s L) (hK : cont G σ.1 c K) (hL : L.length < 12) (hc : c + 17 ≤ σ.2.1) (hs : shsep s σ.2.1 L) (hcs : s + 2 ≤ c ∨ c + 17 ≤ s) : xm G (d + 4) mX7_put [rf G s, rf G c] σ (fun v σ' => v = some (.int (nI L.length)) ∧ shf G σ'.1 s (L ++ [(σ.2.1, c, K, K.2.1.map (meetI L), seenI L K, 0, [])]) ∧ (∀ q, q < σ.2.1 → q ≠ s → q ≠ s + 1 → σ'.1 q = σ.1 q) ∧ σ'.2.1 = σ.2.1 + 3 ∧ σ'.2.2 = σ.2.2 + 14) := by
  obtain ⟨k, hk⟩ : ∃ k, σ.2.1 = k := ⟨_, rfl⟩
  rw [hk] at hc hs ⊢
  have hb := hK.bnd
  have z12 : (12 : Int32).toInt = 12 := rfl
  refine xm_at 4 rfl (by decide) (Nat.le_of_ble_eq_true rfl) (by simp [Value.category]) tX7_put_ok ?_
  try simp only [xlo0, List.map_cons, List.map_nil, List.length_cons, List.length_nil, xrs, xr0, Nat.reduceAdd, Nat.reduceSub, List.cons_append, List.nil_append, List.set_cons_zero, List.set_cons_succ, Option.toList_none, Option.toList_some, nI_1]
  refine xgo 80 rfl ?_
  try simp only [xlo0, List.map_cons, List.map_nil, List.length_cons, List.length_nil, xrs, xr0, Nat.reduceAdd, Nat.reduceSub, List.cons_append, List.nil_append, List.set_cons_zero, List.set_cons_succ, Option.toList_none, Option.toList_some, nI_1]
  refine xg 7 rfl rfl rfl h.2.1 rfl ?_
  refine xgo 80 rfl ?_
  try simp only [xlo0, List.map_cons, List.map_nil, List.length_cons, List.length_nil, xrs, xr0, Nat.reduceAdd, Nat.reduceSub, List.cons_append, List.nil_append, List.set_cons_zero, List.set_cons_succ, Option.toList_none, Option.toList_some, nI_1]
  refine xi_icmplt rfl (fun c1 => ?_) (fun c1 => ?_)
  · refine xgo 80 rfl ?_
    try simp only [xlo0, List.map_cons, List.map_nil, List.length_cons, List.length_nil, xrs, xr0, Nat.reduceAdd, Nat.reduceSub, List.cons_append, List.nil_append, List.set_cons_zero, List.set_cons_succ, Option.toList_none, Option.toList_some, nI_1]
    refine xna (t := 11) (atype := .int) (N := 4) hk rfl rfl (by decide) (by decide) rfl a_11 (by decide) rfl (by decide) (fun s1 n1 f1 g1 k1 => ?_)
    have hf1 : ∀ q, q < k → s1.1 q = σ.1 q := fun q hq => f1 q (by omega)
    refine xto 18 80 rfl ?_
    try simp only [xlo0, List.map_cons, List.map_nil, List.length_cons, List.length_nil, xrs, xr0, Nat.reduceAdd, Nat.reduceSub, List.cons_append, List.nil_append, List.set_cons_zero, List.set_cons_succ, Option.toList_none, Option.toList_some, nI_1]
    refine l_SH_put (σ := σ) hc hs (fun mb t x3 h hK hk' hl hm hf g1 g2 => ?_) K.2.1.length 0 [0, 0, 0, 0] s1 (by omega) (h.keepN hs hf1) (hK.keepN hc hf1) (by rw [n1]; rfl) rfl rfl hf1 g1 k1
    obtain ⟨h1, h2, ⟨ar, h3, h4, h5⟩, h6⟩ := id h
    refine xgo 80 rfl ?_
    try simp only [xlo0, List.map_cons, List.map_nil, List.length_cons, List.length_nil, xrs, xr0, Nat.reduceAdd, Nat.reduceSub, List.cons_append, List.nil_append, List.set_cons_zero, List.set_cons_succ, Option.toList_none, Option.toList_some, nI_1]
    refine xg 7 rfl rfl rfl h2 rfl ?_
    refine xgo 80 rfl ?_
    try simp only [xlo0, List.map_cons, List.map_nil, List.length_cons, List.length_nil, xrs, xr0, Nat.reduceAdd, Nat.reduceSub, List.cons_append, List.nil_append, List.set_cons_zero, List.set_cons_succ, Option.toList_none, Option.toList_some, nI_1]
    refine xg 7 rfl rfl rfl h2 rfl ?_
    refine xgo 80 rfl ?_
    try simp only [xlo0, List.map_cons, List.map_nil, List.length_cons, List.length_nil, xrs, xr0, Nat.reduceAdd, Nat.reduceSub, List.cons_append, List.nil_append, List.set_cons_zero, List.set_cons_succ, Option.toList_none, Option.toList_some, nI_1]
    refine xnn g1 rfl nX7_9 (fun s2 n2 f2 g2' k2 => ?_)
    have hf2 : ∀ q, q < k → s2.1 q = t.1 q := fun q hq => f2 q (by omega)
    have hS2 := h.keepN hs hf2
    have hK2 := hK.keepN hc hf2
    refine xgo 80 rfl ?_
    try simp only [xlo0, List.map_cons, List.map_nil, List.length_cons, List.length_nil, xrs, xr0, Nat.reduceAdd, Nat.reduceSub, List.cons_append, List.nil_append, List.set_cons_zero, List.set_cons_succ, Option.toList_none, Option.toList_some, nI_1]
    refine xcV 7 rfl rfl rfl (c_SH_seenBy hS2 hK2) rfl kX7_seenBy iX7_seenBy hS2.2.1 ⟨_, rfl, rfl⟩ rfl rfl (Nat.le_of_ble_eq_true rfl) (fun v3 s3 q3 => ?_)
    obtain ⟨rfl, rfl⟩ := q3
    refine xgo 80 rfl ?_
    try simp only [xlo0, List.map_cons, List.map_nil, List.length_cons, List.length_nil, xrs, xr0, Nat.reduceAdd, Nat.reduceSub, List.cons_append, List.nil_append, List.set_cons_zero, List.set_cons_succ, Option.toList_none, Option.toList_some, nI_1]
    refine xcI 7 rfl rfl rfl (c_EN_init (k := k) (c := c) (K := K) (met := K.2.1.map (meetI L)) (mb := mb) ((f2 _ (by omega)).trans hk') n2 g2' hK2 hc hl (by simp) (by simpa using hm)) rfl kX3_init iX3_init rfl rfl rfl rfl (Nat.le_of_ble_eq_true rfl) (fun v4 s4 q4 => ?_)
    obtain ⟨rfl, p1, p2, p3, p4⟩ := q4
    have hf4 : ∀ q, q < k → s4.1 q = t.1 q := fun q hq => (p2 q hq).trans (hf2 q hq)
    have hsl := hs.1
    refine xgo 80 rfl ?_
    try simp only [xlo0, List.map_cons, List.map_nil, List.length_cons, List.length_nil, xrs, xr0, Nat.reduceAdd, Nat.reduceSub, List.cons_append, List.nil_append, List.set_cons_zero, List.set_cons_succ, Option.toList_none, Option.toList_some, nI_1]
    refine xsa rfl ((hf4 _ (by omega)).trans h3) (by decide) (by decide) p1.obj (nI_pos (by omega)) (by rw [nI_clamp (by omega), h4]; omega) (fun s5 n5 f5 e5 => ?_)
    have n5' := n5
    have o5 : s5.1 s = some (7, [rf G (s + 1), .int (nI L.length)]) := (f5 _ (by omega)).trans ((hf4 _ (by omega)).trans h2)
    refine xgo 80 rfl ?_
    try simp only [xlo0, List.map_cons, List.map_nil, List.length_cons, List.length_nil, xrs, xr0, Nat.reduceAdd, Nat.reduceSub, List.cons_append, List.nil_append, List.set_cons_zero, List.set_cons_succ, Option.toList_none, Option.toList_some, nI_1]
    refine xg 7 rfl rfl rfl o5 rfl ?_
    refine xgo 80 rfl ?_
    try simp only [xlo0, List.map_cons, List.map_nil, List.length_cons, List.length_nil, xrs, xr0, Nat.reduceAdd, Nat.reduceSub, List.cons_append, List.nil_append, List.set_cons_zero, List.set_cons_succ, Option.toList_none, Option.toList_some, nI_1]
    refine xp 7 rfl rfl rfl o5 rfl rfl rfl (fun s6 n6 f6 e6 => ?_)
    have n5 := (f6 _ (by omega)).trans n5
    refine xgo 80 rfl ?_
    try simp only [xlo0, List.map_cons, List.map_nil, List.length_cons, List.length_nil, xrs, xr0, Nat.reduceAdd, Nat.reduceSub, List.cons_append, List.nil_append, List.set_cons_zero, List.set_cons_succ, Option.toList_none, Option.toList_some, nI_1]
    refine xg 7 rfl rfl rfl n6 rfl ?_
    refine xgo 80 rfl ?_
    try simp only [xlo0, List.map_cons, List.map_nil, List.length_cons, List.length_nil, xrs, xr0, Nat.reduceAdd, Nat.reduceSub, List.cons_append, List.nil_append, List.set_cons_zero, List.set_cons_succ, Option.toList_none, Option.toList_some, nI_1]
    have hf6 : ∀ q, q ≠ s → q ≠ s + 1 → s6.1 q = s4.1 q := fun q x1 x2 => (f6 q x1).trans (f5 q x2)
    have hkk : s6.2 = s4.2 := e6.trans e5
    have g61 : s6.2.1 = s4.2.1 := congrArg Prod.fst hkk
    have g62 : s6.2.2 = s4.2.2 := congrArg Prod.snd hkk
    have hN3 : xN 3 = 6 := rfl
    refine xgo 80 rfl ?_
    try simp only [xlo0, List.map_cons, List.map_nil, List.length_cons, List.length_nil, xrs, xr0, Nat.reduceAdd, Nat.reduceSub, List.cons_append, List.nil_append, List.set_cons_zero, List.set_cons_succ, Option.toList_none, Option.toList_some, nI_1]
    refine xi_ret_i rfl rfl rfl ⟨by rw [nI_pred], ⟨by simp; omega, by rw [n6]; simp, ⟨ar.set L.length (rf G (k + 1)), by rw [n5, nI_clamp (by omega)], by simp [h4], fun i y hy => ?_⟩, fun i y hy => ?_⟩, fun q x1 x2 x3 => by rw [hf6 q x2 x3, hf4 q x1, hf q x1], by omega, by omega⟩
    · rcases snoc_get hy with ⟨q1, q2⟩ | ⟨q1, q2⟩
      · rw [List.getElem?_set_ne (by omega)]
        exact h5 i y q2
      · rw [q1, q2]
        exact List.getElem?_set_self (by omega)
    · rcases snoc_get hy with ⟨q1, q2⟩ | ⟨q1, q2⟩
      · obtain ⟨a1, a2, a3, a4⟩ := hs.2 i y q2
        exact (h6 i y q2).keepQ (fun q hq => by rw [hf6 q (by omega) (by omega), hf4 q (by omega)])
      · rw [q2]
        exact p1.keepQ (fun q hq => hf6 q (by omega) (by omega))
  · exact absurd (by rw [i_lt, i_n (by omega), z12]; omega) c1
end
section
/-! ===== Finding ===== -/
abbrev fS : Type := List Int32 × List Int32
def fnd (G : xG) (h : Nat → Option xC) (f : Nat) (st : fS) : Prop := ∃ ts : List Int32, h f = some (4, [rf G (f + 1), rf G (f + 2), .int (nI st.2.length)]) ∧ h (f + 1) = some (12, vi st.1) ∧ st.1.length = 12 ∧ h (f + 2) = some (11, vi ts) ∧ ts.length = 12 ∧ st.2.length ≤ 12 ∧ ts.take st.2.length = st.2
theorem fnd.obj {G : xG} {h : Nat → Option xC} {f : Nat} {st : fS} (H : fnd G h f st) : h f = some (4, [rf G (f + 1), rf G (f + 2), .int (nI st.2.length)]) := by
  obtain ⟨ts, h1, -⟩ := H
  exact h1
set_option maxRecDepth 100000 in
set_option maxHeartbeats 8000000 in
theorem c_FN_init {G : xG} {d f : Nat} {σ : xS} (h : σ.1 f = some (4, xdef 4)) (hx : σ.2.1 = f + 1) : xm G (d + 1) mX4_init [rf G f] σ (fun v σ' => v = none ∧ fnd G σ'.1 f (List.replicate 12 0, []) ∧ (∀ q, (q < f ∨ f + 3 ≤ q) → σ'.1 q = σ.1 q) ∧ σ'.2.1 = f + 3 ∧ σ'.2.2 = σ.2.2 + 24) := by
  have hxd : xdef 4 = [.null, .null, .int 0] := rfl
  rw [hxd] at h
  refine xm_at 1 rfl (by decide) (Nat.le_of_ble_eq_true rfl) (by simp [Value.category]) tX4_init_ok ?_
  try simp only [xlo0, List.map_cons, List.map_nil, List.length_cons, List.length_nil, xrs, xr0, Nat.reduceAdd, Nat.reduceSub, List.cons_append, List.nil_append, List.set_cons_zero, List.set_cons_succ, Option.toList_none, Option.toList_some, nI_1]
  refine xgo 80 rfl ?_
  try simp only [xlo0, List.map_cons, List.map_nil, List.length_cons, List.length_nil, xrs, xr0, Nat.reduceAdd, Nat.reduceSub, List.cons_append, List.nil_append, List.set_cons_zero, List.set_cons_succ, Option.toList_none, Option.toList_some, nI_1]
  refine xi_obj rfl oX4 (Nat.le_of_ble_eq_true rfl) ?_
  refine xgo 80 rfl ?_
  try simp only [xlo0, List.map_cons, List.map_nil, List.length_cons, List.length_nil, xrs, xr0, Nat.reduceAdd, Nat.reduceSub, List.cons_append, List.nil_append, List.set_cons_zero, List.set_cons_succ, Option.toList_none, Option.toList_some, nI_1]
  refine xna (t := 12) (atype := .boolean) (N := 12) hx rfl rfl (by decide) (by decide) rfl a_12 (by decide) rfl (by decide) (fun s1 n1 f1 g1 k1 => ?_)
  have h := (f1 _ (by omega)).trans h
  refine xgo 80 rfl ?_
  try simp only [xlo0, List.map_cons, List.map_nil, List.length_cons, List.length_nil, xrs, xr0, Nat.reduceAdd, Nat.reduceSub, List.cons_append, List.nil_append, List.set_cons_zero, List.set_cons_succ, Option.toList_none, Option.toList_some, nI_1]
  refine xpF rfl fX4_9F rfl h rfl rfl rfl (fun s2 n2 f2 e2 => ?_)
  have n1 := (f2 _ (by omega)).trans n1
  refine xgo 80 rfl ?_
  try simp only [xlo0, List.map_cons, List.map_nil, List.length_cons, List.length_nil, xrs, xr0, Nat.reduceAdd, Nat.reduceSub, List.cons_append, List.nil_append, List.set_cons_zero, List.set_cons_succ, Option.toList_none, Option.toList_some, nI_1]
  refine xna (t := 11) (atype := .int) (N := 12) ((congrArg Prod.fst e2).trans g1) rfl rfl (by decide) (by decide) rfl a_11 (by decide) rfl (by decide) (fun s3 n3 f3 g3 k3 => ?_)
  have n1 := (f3 _ (by omega)).trans n1
  have n2 := (f3 _ (by omega)).trans n2
  refine xgo 80 rfl ?_
  try simp only [xlo0, List.map_cons, List.map_nil, List.length_cons, List.length_nil, xrs, xr0, Nat.reduceAdd, Nat.reduceSub, List.cons_append, List.nil_append, List.set_cons_zero, List.set_cons_succ, Option.toList_none, Option.toList_some, nI_1]
  refine xpF rfl fX4_15F rfl n2 rfl rfl rfl (fun s4 n4 f4 e4 => ?_)
  have n1 := (f4 _ (by omega)).trans n1
  have n3 := (f4 _ (by omega)).trans n3
  have e21 : s2.2.1 = s1.2.1 := congrArg Prod.fst e2
  have e22 : s2.2.2 = s1.2.2 := congrArg Prod.snd e2
  have e41 : s4.2.1 = s3.2.1 := congrArg Prod.fst e4
  have e42 : s4.2.2 = s3.2.2 := congrArg Prod.snd e4
  refine xgo 80 rfl ?_
  try simp only [xlo0, List.map_cons, List.map_nil, List.length_cons, List.length_nil, xrs, xr0, Nat.reduceAdd, Nat.reduceSub, List.cons_append, List.nil_append, List.set_cons_zero, List.set_cons_succ, Option.toList_none, Option.toList_some, nI_1]
  refine xi_ret_v rfl rfl ⟨rfl, ⟨List.replicate 12 0, n4, n1, rfl, n3, rfl, by simp, by simp⟩, fun q hq => by rw [f4 q (by omega), f3 q (by omega), f2 q (by omega), f1 q (by omega)], by omega, by omega⟩
def tpush (tr : List Int32) (e : Int32) : List Int32 := if tr.length < 12 then tr ++ [e] else tr
def hasR (V : eV) (key : Int32) : Bool := (V.1.2.2.2.findIdx? (fun e => e.1 == key)).isSome
set_option maxRecDepth 100000 in
set_option maxHeartbeats 8000000 in
theorem c_FN_looksInto {G : xG} {d f : Nat} {st : fS} {x : Nat × Nat × eV} {e key : Int32} {σ : xS} (h : fnd G σ.1 f st) (hx : ent G σ.1 x.1 x.2.1 x.2.2) (h1 : f + 3 ≤ x.1 ∨ x.1 + 3 ≤ f) (h2 : f + 3 ≤ x.2.1 ∨ x.2.1 + 17 ≤ f) : xm G (d + 2) mX4_looksInto [rf G f, rf G (x.1 + 1), .int e, .int key] σ (fun v σ' => v = some (.int (bI (hasR x.2.2 key))) ∧ fnd G σ'.1 f (st.1, tpush st.2 e) ∧ frz σ.1 σ'.1 f 3 ∧ σ'.2 = σ.2) := by
  obtain ⟨ts, a1, a2, a3, a4, a5, a6, a7⟩ := h
  have z12 : (12 : Int32).toInt = 12 := rfl
  have hcl : (nI st.2.length).toNatClampNeg = st.2.length := nI_clamp (by omega)
  have hz : ∀ b : Bool, bI b &&& 1 = bI b := by decide
  refine xm_at 4 rfl (by decide) (Nat.le_of_ble_eq_true rfl) (by simp [Value.category]) tX4_looksInto_ok ?_
  try simp only [xlo0, List.map_cons, List.map_nil, List.length_cons, List.length_nil, xrs, xr0, Nat.reduceAdd, Nat.reduceSub, List.cons_append, List.nil_append, List.set_cons_zero, List.set_cons_succ, Option.toList_none, Option.toList_some, nI_1]
  refine xgo 80 rfl ?_
  try simp only [xlo0, List.map_cons, List.map_nil, List.length_cons, List.length_nil, xrs, xr0, Nat.reduceAdd, Nat.reduceSub, List.cons_append, List.nil_append, List.set_cons_zero, List.set_cons_succ, Option.toList_none, Option.toList_some, nI_1]
  refine xg 4 rfl rfl rfl a1 rfl ?_
  refine xgo 80 rfl ?_
  try simp only [xlo0, List.map_cons, List.map_nil, List.length_cons, List.length_nil, xrs, xr0, Nat.reduceAdd, Nat.reduceSub, List.cons_append, List.nil_append, List.set_cons_zero, List.set_cons_succ, Option.toList_none, Option.toList_some, nI_1]
  refine xi_icmpge rfl (fun c1 => ?_) (fun c1 => ?_)
  · rw [i_le, i_n (by omega), z12] at c1
    refine xgo 80 rfl ?_
    try simp only [xlo0, List.map_cons, List.map_nil, List.length_cons, List.length_nil, xrs, xr0, Nat.reduceAdd, Nat.reduceSub, List.cons_append, List.nil_append, List.set_cons_zero, List.set_cons_succ, Option.toList_none, Option.toList_some, nI_1]
    refine xcV 4 rfl rfl rfl (c_EN_hasRowOf hx) rfl kX3_hasRowOf iX3_hasRowOf hx.obj ⟨_, rfl, rfl⟩ rfl rfl (Nat.le_of_ble_eq_true rfl) (fun v1 s1 q1 => ?_)
    obtain ⟨rfl, rfl⟩ := q1
    refine xgo 80 rfl ?_
    try simp only [xlo0, List.map_cons, List.map_nil, List.length_cons, List.length_nil, xrs, xr0, Nat.reduceAdd, Nat.reduceSub, List.cons_append, List.nil_append, List.set_cons_zero, List.set_cons_succ, Option.toList_none, Option.toList_some, nI_1]
    refine xi_ret_i rfl rfl (congrArg Value.int (hz _)) ⟨rfl, ?_, frz.rf, rfl⟩
    rw [tpush, if_neg (by omega)]
    exact ⟨ts, a1, a2, a3, a4, a5, a6, a7⟩
  rw [i_le, i_n (by omega), z12] at c1
  refine xgo 80 rfl ?_
  try simp only [xlo0, List.map_cons, List.map_nil, List.length_cons, List.length_nil, xrs, xr0, Nat.reduceAdd, Nat.reduceSub, List.cons_append, List.nil_append, List.set_cons_zero, List.set_cons_succ, Option.toList_none, Option.toList_some, nI_1]
  refine xg 4 rfl rfl rfl a1 rfl ?_
  refine xgo 80 rfl ?_
  try simp only [xlo0, List.map_cons, List.map_nil, List.length_cons, List.length_nil, xrs, xr0, Nat.reduceAdd, Nat.reduceSub, List.cons_append, List.nil_append, List.set_cons_zero, List.set_cons_succ, Option.toList_none, Option.toList_some, nI_1]
  refine xg 4 rfl rfl rfl a1 rfl ?_
  refine xgo 80 rfl ?_
  try simp only [xlo0, List.map_cons, List.map_nil, List.length_cons, List.length_nil, xrs, xr0, Nat.reduceAdd, Nat.reduceSub, List.cons_append, List.nil_append, List.set_cons_zero, List.set_cons_succ, Option.toList_none, Option.toList_some, nI_1]
  refine xsi rfl a4 (nI_pos (by omega)) (by rw [hcl, vi_len]; omega) (fun s1 n1 f1 e1 => ?_)
  have a1 := (f1 _ (by omega)).trans a1
  have a2 := (f1 _ (by omega)).trans a2
  refine xgo 80 rfl ?_
  try simp only [xlo0, List.map_cons, List.map_nil, List.length_cons, List.length_nil, xrs, xr0, Nat.reduceAdd, Nat.reduceSub, List.cons_append, List.nil_append, List.set_cons_zero, List.set_cons_succ, Option.toList_none, Option.toList_some, nI_1]
  refine xg 4 rfl rfl rfl a1 rfl ?_
  refine xgo 80 rfl ?_
  try simp only [xlo0, List.map_cons, List.map_nil, List.length_cons, List.length_nil, xrs, xr0, Nat.reduceAdd, Nat.reduceSub, List.cons_append, List.nil_append, List.set_cons_zero, List.set_cons_succ, Option.toList_none, Option.toList_some, nI_1]
  refine xp 4 rfl rfl rfl a1 rfl rfl rfl (fun s2 n2 f2 e2 => ?_)
  have a2 := (f2 _ (by omega)).trans a2
  have n1 := (f2 _ (by omega)).trans n1
  have hf : frz σ.1 s2.1 f 3 := (frz.one f1 (by omega) (by omega)).tr (frz.one f2 (by omega) (by omega))
  have hx2 := hx.keep hf (by omega) (by omega)
  refine xgo 80 rfl ?_
  try simp only [xlo0, List.map_cons, List.map_nil, List.length_cons, List.length_nil, xrs, xr0, Nat.reduceAdd, Nat.reduceSub, List.cons_append, List.nil_append, List.set_cons_zero, List.set_cons_succ, Option.toList_none, Option.toList_some, nI_1]
  refine xcV 4 rfl rfl rfl (c_EN_hasRowOf hx2) rfl kX3_hasRowOf iX3_hasRowOf hx2.obj ⟨_, rfl, rfl⟩ rfl rfl (Nat.le_of_ble_eq_true rfl) (fun v3 s3 q3 => ?_)
  obtain ⟨rfl, rfl⟩ := q3
  refine xgo 80 rfl ?_
  try simp only [xlo0, List.map_cons, List.map_nil, List.length_cons, List.length_nil, xrs, xr0, Nat.reduceAdd, Nat.reduceSub, List.cons_append, List.nil_append, List.set_cons_zero, List.set_cons_succ, Option.toList_none, Option.toList_some, nI_1]
  refine xi_ret_i rfl rfl (congrArg Value.int (hz _)) ⟨rfl, ?_, hf, by rw [e2, e1]⟩
  rw [tpush, if_pos (by omega)]
  exact ⟨ts.set st.2.length e, by rw [n2]; simp [nI_1], a2, a3, by rw [n1, hcl, vi_set], by simp [a5], by simp; omega, take_snoc a7 (by omega)⟩
set_option maxRecDepth 100000 in
set_option maxHeartbeats 8000000 in
theorem c_FN_step {G : xG} {d f : Nat} {st : fS} {i : Int32} {σ : xS} (h : fnd G σ.1 f st) : xm G (d + 1) mX4_step [rf G f, .int i] σ (fun v σ' => v = some (.int (bat st.2 i)) ∧ σ' = σ) := by
  obtain ⟨ts, a1, a2, a3, a4, a5, a6, a7⟩ := h
  have hn : (nI st.2.length).toInt = st.2.length := i_n (by omega)
  have z : (0 : Int32).toInt = 0 := rfl
  refine xm_at 2 rfl (by decide) (Nat.le_of_ble_eq_true rfl) (by simp [Value.category]) tX4_step_ok ?_
  try simp only [xlo0, List.map_cons, List.map_nil, List.length_cons, List.length_nil, xrs, xr0, Nat.reduceAdd, Nat.reduceSub, List.cons_append, List.nil_append, List.set_cons_zero, List.set_cons_succ, Option.toList_none, Option.toList_some, nI_1]
  refine xgo 80 rfl ?_
  try simp only [xlo0, List.map_cons, List.map_nil, List.length_cons, List.length_nil, xrs, xr0, Nat.reduceAdd, Nat.reduceSub, List.cons_append, List.nil_append, List.set_cons_zero, List.set_cons_succ, Option.toList_none, Option.toList_some, nI_1]
  refine xg 4 rfl rfl rfl a1 rfl ?_
  refine xgo 80 rfl ?_
  try simp only [xlo0, List.map_cons, List.map_nil, List.length_cons, List.length_nil, xrs, xr0, Nat.reduceAdd, Nat.reduceSub, List.cons_append, List.nil_append, List.set_cons_zero, List.set_cons_succ, Option.toList_none, Option.toList_some, nI_1]
  refine xcS 4 rfl rfl rfl c_isBelow rfl kX8_isBelow iX8_isBelow rfl rfl (Nat.le_of_ble_eq_true rfl) (fun v1 s1 q1 => ?_)
  obtain ⟨rfl, rfl⟩ := q1
  by_cases hin : 0 ≤ i.toInt ∧ i.toInt < (nI st.2.length).toInt
  · rw [if_pos hin]
    refine xgo 80 rfl ?_
    try simp only [xlo0, List.map_cons, List.map_nil, List.length_cons, List.length_nil, xrs, xr0, Nat.reduceAdd, Nat.reduceSub, List.cons_append, List.nil_append, List.set_cons_zero, List.set_cons_succ, Option.toList_none, Option.toList_some, nI_1]
    refine xi_ifeq rfl (fun c1 => ?_) (fun c1 => ?_)
    · exact absurd c1 (by decide)
    have hi : i.toInt.toNat < st.2.length := by omega
    have hg : ts[i.toNatClampNeg]? = some (bat st.2 i) := by
      rw [i_cl, take_get a7 hi, bat, if_neg (by omega), List.getD_eq_getElem?_getD, List.getElem?_eq_getElem hi]
      rfl
    refine xgo 80 rfl ?_
    try simp only [xlo0, List.map_cons, List.map_nil, List.length_cons, List.length_nil, xrs, xr0, Nat.reduceAdd, Nat.reduceSub, List.cons_append, List.nil_append, List.set_cons_zero, List.set_cons_succ, Option.toList_none, Option.toList_some, nI_1]
    refine xg 4 rfl rfl rfl a1 rfl ?_
    refine xgo 80 rfl ?_
    try simp only [xlo0, List.map_cons, List.map_nil, List.length_cons, List.length_nil, xrs, xr0, Nat.reduceAdd, Nat.reduceSub, List.cons_append, List.nil_append, List.set_cons_zero, List.set_cons_succ, Option.toList_none, Option.toList_some, nI_1]
    refine xi_iald rfl a4 (by rw [i_lt]; omega) (vi_get hg) ?_
    refine xgo 80 rfl ?_
    try simp only [xlo0, List.map_cons, List.map_nil, List.length_cons, List.length_nil, xrs, xr0, Nat.reduceAdd, Nat.reduceSub, List.cons_append, List.nil_append, List.set_cons_zero, List.set_cons_succ, Option.toList_none, Option.toList_some, nI_1]
    refine xi_ret_i rfl rfl rfl ⟨rfl, rfl⟩
  · rw [if_neg hin]
    refine xgo 80 rfl ?_
    try simp only [xlo0, List.map_cons, List.map_nil, List.length_cons, List.length_nil, xrs, xr0, Nat.reduceAdd, Nat.reduceSub, List.cons_append, List.nil_append, List.set_cons_zero, List.set_cons_succ, Option.toList_none, Option.toList_some, nI_1]
    refine xi_ifeq rfl (fun c1 => ?_) (fun c1 => ?_)
    · refine xgo 80 rfl ?_
      try simp only [xlo0, List.map_cons, List.map_nil, List.length_cons, List.length_nil, xrs, xr0, Nat.reduceAdd, Nat.reduceSub, List.cons_append, List.nil_append, List.set_cons_zero, List.set_cons_succ, Option.toList_none, Option.toList_some, nI_1]
      refine xi_ret_i rfl rfl rfl ⟨by rw [bat_out (by omega)], rfl⟩
    · exact absurd rfl c1
/-- one after the other is asked, until one answers -/
def askLF (f : Int32 → fS → Int32 × fS) : List Int32 → fS → Int32 × fS
  | [], st => (-1, st)
  | m :: ms, st => if (f m st).1 < 0 then askLF f ms (f m st).2 else f m st
def askS (L : sL) (key : Int32) : Nat → Bool → Int32 → fS → Int32 × fS
  | 0, _, _, st => (-1, st)
  | n + 1, d0, e, st => match sget L e with
    | none => (-1, st)
    | some x => if st.1.getD e.toInt.toNat 0 ≠ 0 then (-1, st) else if d0 = false ∧ x.2.2.2.2.2.1 ≠ 0 then (-1, st) else
      if x.2.2.1.1.2.2.1 = 1 then
        (let r := askLF (askS L key n false) x.2.2.2.1 (st.1.set e.toInt.toNat 1, st.2)
         if r.1 < 0 then (if hasR x.2.2 key then (e, (r.2.1, tpush r.2.2 e)) else (-1, (r.2.1, tpush r.2.2 e))) else r)
      else (if hasR x.2.2 key then (e, (st.1.set e.toInt.toNat 1, tpush st.2 e)) else
        askLF (askS L key n false) x.2.2.2.1 (st.1.set e.toInt.toNat 1, tpush st.2 e))
/-- the finding's cells lie apart from the shelf and its entries -/
def fsep (f s : Nat) (L : sL) : Prop := (f + 3 ≤ s ∨ s + 2 ≤ f) ∧ ∀ (i : Nat) (x : Nat × Nat × eV), L[i]? = some x → (f + 3 ≤ x.1 ∨ x.1 + 3 ≤ f) ∧ (f + 3 ≤ x.2.1 ∨ x.2.1 + 17 ≤ f)
theorem shf.keepF {G : xG} {h h' : Nat → Option xC} {s f : Nat} {L : sL} (H : shf G h s L) (hs : fsep f s L) (g : frz h h' f 3) : shf G h' s L := by
  obtain ⟨h1, h2, ⟨ar, h3, h4⟩, h5⟩ := H
  have := hs.1
  exact ⟨h1, by rw [g _ (by omega)]; exact h2, ⟨ar, by rw [g _ (by omega)]; exact h3, h4⟩, fun i x hx => (h5 i x hx).keep g (by have := (hs.2 i x hx).1; omega) (by have := (hs.2 i x hx).2; omega)⟩
end
section
theorem askLF_neg (f : Int32 → fS → Int32 × fS) : ∀ (ms : List Int32) (st : fS), (askLF f ms st).1 < 0 → (askLF f ms st).1 = -1
  | [], _, _ => rfl
  | m :: ms, st, h => by
    unfold askLF at h ⊢
    split at h
    · next c => rw [if_pos c]; exact askLF_neg f ms _ h
    · next c => exact absurd h c
def fpost (G : xG) (f : Nat) (σ : xS) (F : Int32 × fS) : Option Value → xS → Prop := fun v σ' => v = some (.int F.1) ∧ fnd G σ'.1 f F.2 ∧ frz σ.1 σ'.1 f 3 ∧ σ'.2 = σ.2
theorem fpost.of {G : xG} {f : Nat} {σ s : xS} {F : Int32 × fS} (h1 : frz σ.1 s.1 f 3) (h2 : s.2 = σ.2) {v : Option Value} {σ' : xS} (h : fpost G f s F v σ') : fpost G f σ F v σ' := ⟨h.1, h.2.1, h1.tr h.2.2.1, h.2.2.2.trans h2⟩
set_option maxRecDepth 100000 in
set_option maxHeartbeats 8000000 in
theorem l_FN_ask {G : xG} {D f s dp : Nat} {L : sL} {key e nf : Int32} {x : Nat × Nat × eV} {F R : Int32 × fS} {g : Int32 → fS → Int32 × fS} {σ : xS} (hdp : dp < 12) (hs : fsep f s L) (hx1 : f + 3 ≤ x.1 ∨ x.1 + 3 ≤ f) (hx2 : f + 3 ≤ x.2.1 ∨ x.2.1 + 17 ≤ f)
    (ih : ∀ (e' : Int32) (st' : fS) (t : xS), fnd G t.1 f st' → shf G t.1 s L → xm G (D + 1) mX4_ask [rf G f, rf G s, .int e', .int key, .int (nI (dp + 1))] t (fpost G f t (g e' st')))
    (hF : ¬ R.1 < 0 → F = R)
    (kend : ∀ (t : xS) (x7 x8 : Option Value), R.1 < 0 → fnd G t.1 f R.2 → shf G t.1 s L → ent G t.1 x.1 x.2.1 x.2.2 → frz σ.1 t.1 f 3 → t.2 = σ.2 → xw G (D + 2) mX4_ask 147 [some (rf G f), some (rf G s), some (.int e), some (.int key), some (.int (nI dp)), some (rf G (x.1 + 1)), some (.int nf), x7, x8] [] t (fpost G f σ F)) :
    ∀ (n i : Nat) (st' : fS) (t : xS) (x8 : Option Value), i + n = x.2.2.2.1.length → askLF g (x.2.2.2.1.drop i) st' = R → fnd G t.1 f st' → shf G t.1 s L → ent G t.1 x.1 x.2.1 x.2.2 → frz σ.1 t.1 f 3 → t.2 = σ.2 →
    xw G (D + 2) mX4_ask 101 [some (rf G f), some (rf G s), some (.int e), some (.int key), some (.int (nI dp)), some (rf G (x.1 + 1)), some (.int nf), some (.int (nI i)), x8] [] t (fpost G f σ F) := by
  intro n
  induction n with
  | zero =>
    intro i st' t x8 hi hR h1 h2 h3 h4 h5
    have hb := h3.cont.bnd
    have h6 : x.2.2.2.1.length = x.2.2.1.2.1.length := by obtain ⟨mb, ovs, -, -, -, -, -, h6, -⟩ := h3; exact h6
    have hi' : i = x.2.2.2.1.length := by omega
    subst hi'
    rw [List.drop_length] at hR
    subst hR
    refine xgo 80 rfl ?_
    try simp only [xlo0, List.map_cons, List.map_nil, List.length_cons, List.length_nil, xrs, xr0, Nat.reduceAdd, Nat.reduceSub, List.cons_append, List.nil_append, List.set_cons_zero, List.set_cons_succ, Option.toList_none, Option.toList_some, nI_1]
    refine xg 4 rfl rfl rfl h3.obj rfl ?_
    refine xgo 80 rfl ?_
    try simp only [xlo0, List.map_cons, List.map_nil, List.length_cons, List.length_nil, xrs, xr0, Nat.reduceAdd, Nat.reduceSub, List.cons_append, List.nil_append, List.set_cons_zero, List.set_cons_succ, Option.toList_none, Option.toList_some, nI_1]
    refine xg 4 rfl rfl rfl h3.cont.obj rfl ?_
    rw [← h6]
    refine xgo 80 rfl ?_
    try simp only [xlo0, List.map_cons, List.map_nil, List.length_cons, List.length_nil, xrs, xr0, Nat.reduceAdd, Nat.reduceSub, List.cons_append, List.nil_append, List.set_cons_zero, List.set_cons_succ, Option.toList_none, Option.toList_some, nI_1]
    refine xi_icmpge rfl (fun c1 => ?_) (fun c1 => ?_)
    · exact kend t _ _ (by show (-1 : Int32) < 0; decide) h1 h2 h3 h4 h5
    · exact absurd (i_le.mpr (Int.le_refl _)) c1
  | succ n ihn =>
    intro i st' t x8 hi hR h1 h2 h3 h4 h5
    have hb := h3.cont.bnd
    have h6 : x.2.2.2.1.length = x.2.2.1.2.1.length := by obtain ⟨mb, ovs, -, -, -, -, -, h6, -⟩ := h3; exact h6
    obtain ⟨m, hm⟩ := lt_get (l := x.2.2.2.1) (j := i) (by omega)
    have hbm : bat x.2.2.2.1 (nI i) = m := by rw [bat_n (by omega), List.getD_eq_getElem?_getD, hm]; rfl
    rw [drop_cons hm] at hR
    have hR : (if (g m st').1 < 0 then askLF g (x.2.2.2.1.drop (i + 1)) (g m st').2 else g m st') = R := hR
    refine xgo 80 rfl ?_
    try simp only [xlo0, List.map_cons, List.map_nil, List.length_cons, List.length_nil, xrs, xr0, Nat.reduceAdd, Nat.reduceSub, List.cons_append, List.nil_append, List.set_cons_zero, List.set_cons_succ, Option.toList_none, Option.toList_some, nI_1]
    refine xg 4 rfl rfl rfl h3.obj rfl ?_
    refine xgo 80 rfl ?_
    try simp only [xlo0, List.map_cons, List.map_nil, List.length_cons, List.length_nil, xrs, xr0, Nat.reduceAdd, Nat.reduceSub, List.cons_append, List.nil_append, List.set_cons_zero, List.set_cons_succ, Option.toList_none, Option.toList_some, nI_1]
    refine xg 4 rfl rfl rfl h3.cont.obj rfl ?_
    rw [← h6]
    refine xgo 80 rfl ?_
    try simp only [xlo0, List.map_cons, List.map_nil, List.length_cons, List.length_nil, xrs, xr0, Nat.reduceAdd, Nat.reduceSub, List.cons_append, List.nil_append, List.set_cons_zero, List.set_cons_succ, Option.toList_none, Option.toList_some, nI_1]
    refine xi_icmpge rfl (fun c1 => ?_) (fun c1 => ?_)
    · exact absurd c1 (by rw [i_le, i_n (by omega), i_n (by omega)]; omega)
    refine xgo 80 rfl ?_
    try simp only [xlo0, List.map_cons, List.map_nil, List.length_cons, List.length_nil, xrs, xr0, Nat.reduceAdd, Nat.reduceSub, List.cons_append, List.nil_append, List.set_cons_zero, List.set_cons_succ, Option.toList_none, Option.toList_some, nI_1]
    refine xcV 4 rfl rfl rfl (c_EN_meeting h3) rfl kX3_meeting iX3_meeting h3.obj ⟨_, rfl, rfl⟩ rfl rfl (Nat.le_of_ble_eq_true rfl) (fun v1 s1 q1 => ?_)
    obtain ⟨rfl, rfl⟩ := q1
    rw [hbm]
    refine xgo 80 rfl ?_
    try simp only [xlo0, List.map_cons, List.map_nil, List.length_cons, List.length_nil, xrs, xr0, Nat.reduceAdd, Nat.reduceSub, List.cons_append, List.nil_append, List.set_cons_zero, List.set_cons_succ, Option.toList_none, Option.toList_some, nI_1]
    refine xgo 80 rfl ?_
    try simp only [xlo0, List.map_cons, List.map_nil, List.length_cons, List.length_nil, xrs, xr0, Nat.reduceAdd, Nat.reduceSub, List.cons_append, List.nil_append, List.set_cons_zero, List.set_cons_succ, Option.toList_none, Option.toList_some, nI_1]
    refine xcV 4 rfl rfl rfl (ih m st' s1 h1 h2) rfl kX4_ask iX4_ask h1.obj ⟨_, rfl, rfl⟩ rfl rfl (Nat.le_of_ble_eq_true rfl) (fun v2 s2 q2 => ?_)
    obtain ⟨rfl, p1, p2, p3⟩ := q2
    refine xgo 80 rfl ?_
    try simp only [xlo0, List.map_cons, List.map_nil, List.length_cons, List.length_nil, xrs, xr0, Nat.reduceAdd, Nat.reduceSub, List.cons_append, List.nil_append, List.set_cons_zero, List.set_cons_succ, Option.toList_none, Option.toList_some, nI_1]
    refine xi_iflt rfl (fun c2 => ?_) (fun c2 => ?_)
    · rw [if_pos c2] at hR
      refine xto 101 80 rfl ?_
      try simp only [xlo0, List.map_cons, List.map_nil, List.length_cons, List.length_nil, xrs, xr0, Nat.reduceAdd, Nat.reduceSub, List.cons_append, List.nil_append, List.set_cons_zero, List.set_cons_succ, Option.toList_none, Option.toList_some, nI_1]
      exact ihn (i + 1) _ s2 _ (by omega) hR p1 (h2.keepF hs p2) (h3.keep p2 (by omega) (by omega)) (h4.tr p2) (p3.trans h5)
    · rw [if_neg c2] at hR
      have := hF (by rw [← hR]; exact c2)
      refine xgo 80 rfl ?_
      try simp only [xlo0, List.map_cons, List.map_nil, List.length_cons, List.length_nil, xrs, xr0, Nat.reduceAdd, Nat.reduceSub, List.cons_append, List.nil_append, List.set_cons_zero, List.set_cons_succ, Option.toList_none, Option.toList_some, nI_1]
      refine xi_ret_i rfl rfl rfl ⟨?_, ?_, h4.tr p2, p3.trans h5⟩
      · rw [this, ← hR]
      · rw [this, ← hR]; exact p1
set_option maxRecDepth 100000 in
set_option maxHeartbeats 8000000 in
theorem c_FN_ask {G : xG} {d f s : Nat} {L : sL} {key : Int32} (hs : fsep f s L) : ∀ (n dp : Nat) (e : Int32) (st : fS) (σ : xS), dp + n = 12 → fnd G σ.1 f st → shf G σ.1 s L →
    xm G (d + n + 3) mX4_ask [rf G f, rf G s, .int e, .int key, .int (nI dp)] σ (fpost G f σ (askS L key n (decide (dp = 0)) e st)) := by
  have z12 : (12 : Int32).toInt = 12 := rfl
  intro n
  induction n with
  | zero =>
    intro dp e st σ hn h1 h2
    have hd : dp = 12 := by omega
    subst hd
    refine xm_at 9 rfl (by decide) (Nat.le_of_ble_eq_true rfl) (by simp [Value.category]) tX4_ask_ok ?_
    try simp only [xlo0, List.map_cons, List.map_nil, List.length_cons, List.length_nil, xrs, xr0, Nat.reduceAdd, Nat.reduceSub, List.cons_append, List.nil_append, List.set_cons_zero, List.set_cons_succ, Option.toList_none, Option.toList_some, nI_1]
    cases hg : sget L e with
    | none =>
      refine xgo 80 rfl ?_
      try simp only [xlo0, List.map_cons, List.map_nil, List.length_cons, List.length_nil, xrs, xr0, Nat.reduceAdd, Nat.reduceSub, List.cons_append, List.nil_append, List.set_cons_zero, List.set_cons_succ, Option.toList_none, Option.toList_some, nI_1]
      refine xcV 4 rfl rfl rfl (c_SH_atN h2 (sget_n hg)) rfl kX7_at iX7_at h2.2.1 ⟨_, rfl, rfl⟩ rfl rfl (Nat.le_of_ble_eq_true rfl) (fun v1 s1 q1 => ?_)
      obtain ⟨rfl, rfl⟩ := q1
      refine xgo 80 rfl ?_
      try simp only [xlo0, List.map_cons, List.map_nil, List.length_cons, List.length_nil, xrs, xr0, Nat.reduceAdd, Nat.reduceSub, List.cons_append, List.nil_append, List.set_cons_zero, List.set_cons_succ, Option.toList_none, Option.toList_some, nI_1]
      refine xi_ifnull_n rfl ?_
      refine xgo 80 rfl ?_
      try simp only [xlo0, List.map_cons, List.map_nil, List.length_cons, List.length_nil, xrs, xr0, Nat.reduceAdd, Nat.reduceSub, List.cons_append, List.nil_append, List.set_cons_zero, List.set_cons_succ, Option.toList_none, Option.toList_some, nI_1]
      refine xi_ret_i rfl rfl rfl ⟨rfl, h1, frz.rf, rfl⟩
    | some x =>
      obtain ⟨k, rfl, hx, hk12⟩ := sget_s hg h2.1
      refine xgo 80 rfl ?_
      try simp only [xlo0, List.map_cons, List.map_nil, List.length_cons, List.length_nil, xrs, xr0, Nat.reduceAdd, Nat.reduceSub, List.cons_append, List.nil_append, List.set_cons_zero, List.set_cons_succ, Option.toList_none, Option.toList_some, nI_1]
      refine xcV 4 rfl rfl rfl (c_SH_at h2 hx) rfl kX7_at iX7_at h2.2.1 ⟨_, rfl, rfl⟩ rfl rfl (Nat.le_of_ble_eq_true rfl) (fun v1 s1 q1 => ?_)
      obtain ⟨rfl, rfl⟩ := q1
      refine xgo 80 rfl ?_
      try simp only [xlo0, List.map_cons, List.map_nil, List.length_cons, List.length_nil, xrs, xr0, Nat.reduceAdd, Nat.reduceSub, List.cons_append, List.nil_append, List.set_cons_zero, List.set_cons_succ, Option.toList_none, Option.toList_some, nI_1]
      refine xi_ifnull_r rfl ?_
      refine xgo 80 rfl ?_
      try simp only [xlo0, List.map_cons, List.map_nil, List.length_cons, List.length_nil, xrs, xr0, Nat.reduceAdd, Nat.reduceSub, List.cons_append, List.nil_append, List.set_cons_zero, List.set_cons_succ, Option.toList_none, Option.toList_some, nI_1]
      refine xi_icmpge rfl (fun c1 => ?_) (fun c1 => ?_)
      · refine xgo 80 rfl ?_
        try simp only [xlo0, List.map_cons, List.map_nil, List.length_cons, List.length_nil, xrs, xr0, Nat.reduceAdd, Nat.reduceSub, List.cons_append, List.nil_append, List.set_cons_zero, List.set_cons_succ, Option.toList_none, Option.toList_some, nI_1]
        refine xi_ret_i rfl rfl rfl ⟨rfl, h1, frz.rf, rfl⟩
      · exact absurd (by decide) c1
  | succ n ih =>
    intro dp e st σ hn h1 h2
    refine xm_at 9 rfl (by decide) (Nat.le_of_ble_eq_true rfl) (by simp [Value.category]) tX4_ask_ok ?_
    try simp only [xlo0, List.map_cons, List.map_nil, List.length_cons, List.length_nil, xrs, xr0, Nat.reduceAdd, Nat.reduceSub, List.cons_append, List.nil_append, List.set_cons_zero, List.set_cons_succ, Option.toList_none, Option.toList_some, nI_1]
    cases hg : sget L e with
    | none =>
      refine xgo 80 rfl ?_
      try simp only [xlo0, List.map_cons, List.map_nil, List.length_cons, List.length_nil, xrs, xr0, Nat.reduceAdd, Nat.reduceSub, List.cons_append, List.nil_append, List.set_cons_zero, List.set_cons_succ, Option.toList_none, Option.toList_some, nI_1]
      refine xcV 4 rfl rfl rfl (c_SH_atN h2 (sget_n hg)) rfl kX7_at iX7_at h2.2.1 ⟨_, rfl, rfl⟩ rfl rfl (Nat.le_of_ble_eq_true rfl) (fun v1 s1 q1 => ?_)
      obtain ⟨rfl, rfl⟩ := q1
      refine xgo 80 rfl ?_
      try simp only [xlo0, List.map_cons, List.map_nil, List.length_cons, List.length_nil, xrs, xr0, Nat.reduceAdd, Nat.reduceSub, List.cons_append, List.nil_append, List.set_cons_zero, List.set_cons_succ, Option.toList_none, Option.toList_some, nI_1]
      refine xi_ifnull_n rfl ?_
      refine xgo 80 rfl ?_
      try simp only [xlo0, List.map_cons, List.map_nil, List.length_cons, List.length_nil, xrs, xr0, Nat.reduceAdd, Nat.reduceSub, List.cons_append, List.nil_append, List.set_cons_zero, List.set_cons_succ, Option.toList_none, Option.toList_some, nI_1]
      refine xi_ret_i rfl rfl rfl ⟨by simp only [askS, hg], by simp only [askS, hg]; exact h1, frz.rf, rfl⟩
    | some x =>
      obtain ⟨k, rfl, hx, hk12⟩ := sget_s hg h2.1
      have hen := h2.ent hx
      obtain ⟨hx1, hx2⟩ := hs.2 k x hx
      have hkt : (nI k).toInt.toNat = k := by rw [i_n (by omega)]; rfl
      have hcl : (nI k).toNatClampNeg = k := nI_clamp (by omega)
      obtain ⟨ts, a1, a2, a3, a4, a5, a6, a7⟩ := id h1
      obtain ⟨av, hav⟩ := lt_get (l := st.1) (j := k) (by omega)
      have hgd : st.1.getD k 0 = av := by rw [List.getD_eq_getElem?_getD, hav]; rfl
      refine xgo 80 rfl ?_
      try simp only [xlo0, List.map_cons, List.map_nil, List.length_cons, List.length_nil, xrs, xr0, Nat.reduceAdd, Nat.reduceSub, List.cons_append, List.nil_append, List.set_cons_zero, List.set_cons_succ, Option.toList_none, Option.toList_some, nI_1]
      refine xcV 4 rfl rfl rfl (c_SH_at h2 hx) rfl kX7_at iX7_at h2.2.1 ⟨_, rfl, rfl⟩ rfl rfl (Nat.le_of_ble_eq_true rfl) (fun v1 s1 q1 => ?_)
      obtain ⟨rfl, rfl⟩ := q1
      refine xgo 80 rfl ?_
      try simp only [xlo0, List.map_cons, List.map_nil, List.length_cons, List.length_nil, xrs, xr0, Nat.reduceAdd, Nat.reduceSub, List.cons_append, List.nil_append, List.set_cons_zero, List.set_cons_succ, Option.toList_none, Option.toList_some, nI_1]
      refine xi_ifnull_r rfl ?_
      refine xgo 80 rfl ?_
      try simp only [xlo0, List.map_cons, List.map_nil, List.length_cons, List.length_nil, xrs, xr0, Nat.reduceAdd, Nat.reduceSub, List.cons_append, List.nil_append, List.set_cons_zero, List.set_cons_succ, Option.toList_none, Option.toList_some, nI_1]
      refine xi_icmpge rfl (fun c1 => ?_) (fun c1 => ?_)
      · exact absurd c1 (by rw [i_le, i_n (by omega), z12]; omega)
      refine xgo 80 rfl ?_
      try simp only [xlo0, List.map_cons, List.map_nil, List.length_cons, List.length_nil, xrs, xr0, Nat.reduceAdd, Nat.reduceSub, List.cons_append, List.nil_append, List.set_cons_zero, List.set_cons_succ, Option.toList_none, Option.toList_some, nI_1]
      refine xcS 4 rfl rfl rfl c_isBelow rfl kX8_isBelow iX8_isBelow rfl rfl (Nat.le_of_ble_eq_true rfl) (fun v2 s2 q2 => ?_)
      obtain ⟨rfl, rfl⟩ := q2
      rw [if_pos (by rw [i_n (by omega), z12]; omega)]
      refine xgo 80 rfl ?_
      try simp only [xlo0, List.map_cons, List.map_nil, List.length_cons, List.length_nil, xrs, xr0, Nat.reduceAdd, Nat.reduceSub, List.cons_append, List.nil_append, List.set_cons_zero, List.set_cons_succ, Option.toList_none, Option.toList_some, nI_1]
      refine xi_ifeq rfl (fun c2 => ?_) (fun c2 => ?_)
      · exact absurd c2 (by decide)
      refine xgo 80 rfl ?_
      try simp only [xlo0, List.map_cons, List.map_nil, List.length_cons, List.length_nil, xrs, xr0, Nat.reduceAdd, Nat.reduceSub, List.cons_append, List.nil_append, List.set_cons_zero, List.set_cons_succ, Option.toList_none, Option.toList_some, nI_1]
      refine xg 4 rfl rfl rfl a1 rfl ?_
      refine xgo 80 rfl ?_
      try simp only [xlo0, List.map_cons, List.map_nil, List.length_cons, List.length_nil, xrs, xr0, Nat.reduceAdd, Nat.reduceSub, List.cons_append, List.nil_append, List.set_cons_zero, List.set_cons_succ, Option.toList_none, Option.toList_some, nI_1]
      refine xi_zald rfl a2 (nI_pos (by omega)) (by rw [hcl]; exact vi_get hav) ?_
      have hS : askS L key (n + 1) (decide (dp = 0)) (nI k) st = (if av ≠ 0 then (-1, st) else if decide (dp = 0) = false ∧ x.2.2.2.2.2.1 ≠ 0 then (-1, st) else
          if x.2.2.1.1.2.2.1 = 1 then
            (let r := askLF (askS L key n false) x.2.2.2.1 (st.1.set k 1, st.2)
             if r.1 < 0 then (if hasR x.2.2 key then (nI k, (r.2.1, tpush r.2.2 (nI k))) else (-1, (r.2.1, tpush r.2.2 (nI k)))) else r)
          else (if hasR x.2.2 key then (nI k, (st.1.set k 1, tpush st.2 (nI k))) else
            askLF (askS L key n false) x.2.2.2.1 (st.1.set k 1, tpush st.2 (nI k)))) := by
        simp only [askS, hg, hkt, hgd]
      refine xgo 80 rfl ?_
      try simp only [xlo0, List.map_cons, List.map_nil, List.length_cons, List.length_nil, xrs, xr0, Nat.reduceAdd, Nat.reduceSub, List.cons_append, List.nil_append, List.set_cons_zero, List.set_cons_succ, Option.toList_none, Option.toList_some, nI_1]
      refine xi_ifeq rfl (fun c3 => ?_) (fun c3 => ?_)
      · rw [if_neg (fun q => q c3)] at hS
        have closing : ¬ (decide (dp = 0) = false ∧ x.2.2.2.2.2.1 ≠ 0) → xw G (d + n + 4) mX4_ask 54 [some (rf G f), some (rf G s), some (.int (nI k)), some (.int key), some (.int (nI dp)), some (rf G (x.1 + 1)), none, none, none] [] s2 (fpost G f s2 (askS L key (n + 1) (decide (dp = 0)) (nI k) st)) := by
          intro hnc
          rw [if_neg hnc] at hS
          rw [hS]
          refine xgo 80 rfl ?_
          try simp only [xlo0, List.map_cons, List.map_nil, List.length_cons, List.length_nil, xrs, xr0, Nat.reduceAdd, Nat.reduceSub, List.cons_append, List.nil_append, List.set_cons_zero, List.set_cons_succ, Option.toList_none, Option.toList_some, nI_1]
          refine xg 4 rfl rfl rfl a1 rfl ?_
          refine xgo 80 rfl ?_
          try simp only [xlo0, List.map_cons, List.map_nil, List.length_cons, List.length_nil, xrs, xr0, Nat.reduceAdd, Nat.reduceSub, List.cons_append, List.nil_append, List.set_cons_zero, List.set_cons_succ, Option.toList_none, Option.toList_some, nI_1]
          refine xsz rfl a2 (nI_pos (by omega)) (by rw [hcl, vi_len]; omega) (by decide) (fun s3 n3 f3 e3 => ?_)
          have hf3 : frz s2.1 s3.1 f 3 := frz.one f3 (by omega) (by omega)
          have a1 := (f3 _ (by omega)).trans a1
          have a4 := (f3 _ (by omega)).trans a4
          have hn3 : fnd G s3.1 f (st.1.set k 1, st.2) := ⟨ts, a1, by rw [n3, hcl, vi_set], by simp [a3], a4, a5, a6, a7⟩
          have hsh3 := h2.keepF hs hf3
          have hen3 := hen.keep hf3 (by omega) (by omega)
          refine xgo 80 rfl ?_
          try simp only [xlo0, List.map_cons, List.map_nil, List.length_cons, List.length_nil, xrs, xr0, Nat.reduceAdd, Nat.reduceSub, List.cons_append, List.nil_append, List.set_cons_zero, List.set_cons_succ, Option.toList_none, Option.toList_some, nI_1]
          refine xg 4 rfl rfl rfl hen3.obj rfl ?_
          refine xgo 80 rfl ?_
          try simp only [xlo0, List.map_cons, List.map_nil, List.length_cons, List.length_nil, xrs, xr0, Nat.reduceAdd, Nat.reduceSub, List.cons_append, List.nil_append, List.set_cons_zero, List.set_cons_succ, Option.toList_none, Option.toList_some, nI_1]
          refine xg 4 rfl rfl rfl hen3.cont.obj rfl ?_
          have ihx : ∀ (e' : Int32) (st' : fS) (t : xS), fnd G t.1 f st' → shf G t.1 s L → xm G (d + n + 3) mX4_ask [rf G f, rf G s, .int e', .int key, .int (nI (dp + 1))] t (fpost G f t (askS L key n false e' st')) := fun e' st' t g1 g2 => by
            have := ih (dp + 1) e' st' t (by omega) g1 g2
            rw [show decide (dp + 1 = 0) = false by simp] at this
            exact this
          refine xgo 80 rfl ?_
          try simp only [xlo0, List.map_cons, List.map_nil, List.length_cons, List.length_nil, xrs, xr0, Nat.reduceAdd, Nat.reduceSub, List.cons_append, List.nil_append, List.set_cons_zero, List.set_cons_succ, Option.toList_none, Option.toList_some, nI_1]
          refine xi_icmpne rfl (fun c5 => ?_) (fun c5 => ?_)
          · rw [if_neg c5]
            refine xgo 80 rfl ?_
            try simp only [xlo0, List.map_cons, List.map_nil, List.length_cons, List.length_nil, xrs, xr0, Nat.reduceAdd, Nat.reduceSub, List.cons_append, List.nil_append, List.set_cons_zero, List.set_cons_succ, Option.toList_none, Option.toList_some, nI_1]
            refine xi_ifne rfl (fun c6 => ?_) (fun c6 => ?_)
            · exact absurd rfl c6
            refine xgo 80 rfl ?_
            try simp only [xlo0, List.map_cons, List.map_nil, List.length_cons, List.length_nil, xrs, xr0, Nat.reduceAdd, Nat.reduceSub, List.cons_append, List.nil_append, List.set_cons_zero, List.set_cons_succ, Option.toList_none, Option.toList_some, nI_1]
            refine xcV 4 rfl rfl rfl (c_FN_looksInto (e := nI k) (key := key) hn3 hen3 (by omega) (by omega)) rfl kX4_looksInto iX4_looksInto hn3.obj ⟨_, rfl, rfl⟩ rfl rfl (Nat.le_of_ble_eq_true rfl) (fun v4 s4 q4 => ?_)
            obtain ⟨rfl, p1, p2, p3⟩ := q4
            cases hr : hasR x.2.2 key with
            | true =>
              refine xgo 80 rfl ?_
              try simp only [xlo0, List.map_cons, List.map_nil, List.length_cons, List.length_nil, xrs, xr0, Nat.reduceAdd, Nat.reduceSub, List.cons_append, List.nil_append, List.set_cons_zero, List.set_cons_succ, Option.toList_none, Option.toList_some, nI_1]
              refine xi_ifeq rfl (fun c7 => ?_) (fun c7 => ?_)
              · exact absurd c7 (by decide)
              · first | rw [if_pos rfl] | rw [if_pos trivial]
                refine xgo 80 rfl ?_
                try simp only [xlo0, List.map_cons, List.map_nil, List.length_cons, List.length_nil, xrs, xr0, Nat.reduceAdd, Nat.reduceSub, List.cons_append, List.nil_append, List.set_cons_zero, List.set_cons_succ, Option.toList_none, Option.toList_some, nI_1]
                refine xi_ret_i rfl rfl rfl ⟨rfl, p1, hf3.tr p2, p3.trans e3⟩
            | false =>
              refine xgo 80 rfl ?_
              try simp only [xlo0, List.map_cons, List.map_nil, List.length_cons, List.length_nil, xrs, xr0, Nat.reduceAdd, Nat.reduceSub, List.cons_append, List.nil_append, List.set_cons_zero, List.set_cons_succ, Option.toList_none, Option.toList_some, nI_1]
              refine xi_ifeq rfl (fun c7 => ?_) (fun c7 => ?_)
              · rw [if_neg (by decide)]
                refine xto 101 80 rfl ?_
                try simp only [xlo0, List.map_cons, List.map_nil, List.length_cons, List.length_nil, xrs, xr0, Nat.reduceAdd, Nat.reduceSub, List.cons_append, List.nil_append, List.set_cons_zero, List.set_cons_succ, Option.toList_none, Option.toList_some, nI_1]
                refine l_FN_ask (R := askLF (askS L key n false) x.2.2.2.1 (st.1.set k 1, tpush st.2 (nI k))) (g := askS L key n false) (by omega) hs hx1 hx2 ihx (fun _ => rfl) (fun t x7 x8 hR t1 t2 t3 t4 t5 => ?_) x.2.2.2.1.length 0 _ s4 _ (by omega) rfl p1 (hsh3.keepF hs p2) (hen3.keep p2 (by omega) (by omega)) (hf3.tr p2) (p3.trans e3)
                refine xgo 80 rfl ?_
                try simp only [xlo0, List.map_cons, List.map_nil, List.length_cons, List.length_nil, xrs, xr0, Nat.reduceAdd, Nat.reduceSub, List.cons_append, List.nil_append, List.set_cons_zero, List.set_cons_succ, Option.toList_none, Option.toList_some, nI_1]
                refine xi_ifeq rfl (fun c8 => ?_) (fun c8 => ?_)
                · refine xgo 80 rfl ?_
                  try simp only [xlo0, List.map_cons, List.map_nil, List.length_cons, List.length_nil, xrs, xr0, Nat.reduceAdd, Nat.reduceSub, List.cons_append, List.nil_append, List.set_cons_zero, List.set_cons_succ, Option.toList_none, Option.toList_some, nI_1]
                  refine xi_ret_i rfl rfl rfl ⟨by rw [askLF_neg _ _ _ hR], t1, t4, t5⟩
                · exact absurd rfl c8
              · exact absurd rfl c7
          · rw [if_pos c5]
            refine xgo 80 rfl ?_
            try simp only [xlo0, List.map_cons, List.map_nil, List.length_cons, List.length_nil, xrs, xr0, Nat.reduceAdd, Nat.reduceSub, List.cons_append, List.nil_append, List.set_cons_zero, List.set_cons_succ, Option.toList_none, Option.toList_some, nI_1]
            refine xi_ifne rfl (fun c6 => ?_) (fun c6 => ?_)
            · refine xto 101 80 rfl ?_
              try simp only [xlo0, List.map_cons, List.map_nil, List.length_cons, List.length_nil, xrs, xr0, Nat.reduceAdd, Nat.reduceSub, List.cons_append, List.nil_append, List.set_cons_zero, List.set_cons_succ, Option.toList_none, Option.toList_some, nI_1]
              refine l_FN_ask (R := askLF (askS L key n false) x.2.2.2.1 (st.1.set k 1, st.2)) (g := askS L key n false) (by omega) hs hx1 hx2 ihx (fun hR => if_neg hR) (fun t x7 x8 hR t1 t2 t3 t4 t5 => ?_) x.2.2.2.1.length 0 _ s3 _ (by omega) rfl hn3 hsh3 hen3 hf3 e3
              refine xgo 80 rfl ?_
              try simp only [xlo0, List.map_cons, List.map_nil, List.length_cons, List.length_nil, xrs, xr0, Nat.reduceAdd, Nat.reduceSub, List.cons_append, List.nil_append, List.set_cons_zero, List.set_cons_succ, Option.toList_none, Option.toList_some, nI_1]
              refine xi_ifeq rfl (fun c8 => ?_) (fun c8 => ?_)
              · exact absurd c8 (by decide)
              refine xgo 80 rfl ?_
              try simp only [xlo0, List.map_cons, List.map_nil, List.length_cons, List.length_nil, xrs, xr0, Nat.reduceAdd, Nat.reduceSub, List.cons_append, List.nil_append, List.set_cons_zero, List.set_cons_succ, Option.toList_none, Option.toList_some, nI_1]
              refine xcV 4 rfl rfl rfl (c_FN_looksInto (e := nI k) (key := key) t1 t3 (by omega) (by omega)) rfl kX4_looksInto iX4_looksInto t1.obj ⟨_, rfl, rfl⟩ rfl rfl (Nat.le_of_ble_eq_true rfl) (fun v4 s4 q4 => ?_)
              obtain ⟨rfl, p1, p2, p3⟩ := q4
              cases hr : hasR x.2.2 key with
              | true =>
                refine xgo 80 rfl ?_
                try simp only [xlo0, List.map_cons, List.map_nil, List.length_cons, List.length_nil, xrs, xr0, Nat.reduceAdd, Nat.reduceSub, List.cons_append, List.nil_append, List.set_cons_zero, List.set_cons_succ, Option.toList_none, Option.toList_some, nI_1]
                refine xi_ifeq rfl (fun c9 => ?_) (fun c9 => ?_)
                · exact absurd c9 (by decide)
                · refine xgo 80 rfl ?_
                  try simp only [xlo0, List.map_cons, List.map_nil, List.length_cons, List.length_nil, xrs, xr0, Nat.reduceAdd, Nat.reduceSub, List.cons_append, List.nil_append, List.set_cons_zero, List.set_cons_succ, Option.toList_none, Option.toList_some, nI_1]
                  refine xi_ret_i rfl rfl rfl ⟨?_, ?_, t4.tr p2, p3.trans t5⟩
                  · simp only [if_pos hR]; rfl
                  · simp only [if_pos hR]; exact p1
              | false =>
                refine xgo 80 rfl ?_
                try simp only [xlo0, List.map_cons, List.map_nil, List.length_cons, List.length_nil, xrs, xr0, Nat.reduceAdd, Nat.reduceSub, List.cons_append, List.nil_append, List.set_cons_zero, List.set_cons_succ, Option.toList_none, Option.toList_some, nI_1]
                refine xi_ifeq rfl (fun c9 => ?_) (fun c9 => ?_)
                · refine xgo 80 rfl ?_
                  try simp only [xlo0, List.map_cons, List.map_nil, List.length_cons, List.length_nil, xrs, xr0, Nat.reduceAdd, Nat.reduceSub, List.cons_append, List.nil_append, List.set_cons_zero, List.set_cons_succ, Option.toList_none, Option.toList_some, nI_1]
                  refine xi_ret_i rfl rfl rfl ⟨?_, ?_, t4.tr p2, p3.trans t5⟩
                  · simp only [if_pos hR]; rfl
                  · simp only [if_pos hR]; exact p1
                · exact absurd rfl c9
            · exact absurd c6 (by decide)
        refine xgo 80 rfl ?_
        try simp only [xlo0, List.map_cons, List.map_nil, List.length_cons, List.length_nil, xrs, xr0, Nat.reduceAdd, Nat.reduceSub, List.cons_append, List.nil_append, List.set_cons_zero, List.set_cons_succ, Option.toList_none, Option.toList_some, nI_1]
        refine xi_ifle rfl (fun c4 => ?_) (fun c4 => ?_)
        · refine closing (fun q => ?_)
          rw [i_le, i_n (by omega)] at c4
          have hz0 : (0 : Int32).toInt = 0 := rfl
          have : dp = 0 := by omega
          rw [this] at q
          exact absurd q.1 (by decide)
        · refine xgo 80 rfl ?_
          try simp only [xlo0, List.map_cons, List.map_nil, List.length_cons, List.length_nil, xrs, xr0, Nat.reduceAdd, Nat.reduceSub, List.cons_append, List.nil_append, List.set_cons_zero, List.set_cons_succ, Option.toList_none, Option.toList_some, nI_1]
          refine xg 4 rfl rfl rfl hen.obj rfl ?_
          refine xgo 80 rfl ?_
          try simp only [xlo0, List.map_cons, List.map_nil, List.length_cons, List.length_nil, xrs, xr0, Nat.reduceAdd, Nat.reduceSub, List.cons_append, List.nil_append, List.set_cons_zero, List.set_cons_succ, Option.toList_none, Option.toList_some, nI_1]
          refine xi_ifeq rfl (fun c5 => ?_) (fun c5 => ?_)
          · exact closing (fun q => q.2 c5)
          · rw [i_le, i_n (by omega)] at c4
            have hz0 : (0 : Int32).toInt = 0 := rfl
            rw [if_pos ⟨decide_eq_false (by omega), c5⟩] at hS
            refine xgo 80 rfl ?_
            try simp only [xlo0, List.map_cons, List.map_nil, List.length_cons, List.length_nil, xrs, xr0, Nat.reduceAdd, Nat.reduceSub, List.cons_append, List.nil_append, List.set_cons_zero, List.set_cons_succ, Option.toList_none, Option.toList_some, nI_1]
            refine xi_ret_i rfl rfl rfl ⟨by rw [hS], by rw [hS]; exact h1, frz.rf, rfl⟩
      · rw [if_pos c3] at hS
        refine xgo 80 rfl ?_
        try simp only [xlo0, List.map_cons, List.map_nil, List.length_cons, List.length_nil, xrs, xr0, Nat.reduceAdd, Nat.reduceSub, List.cons_append, List.nil_append, List.set_cons_zero, List.set_cons_succ, Option.toList_none, Option.toList_some, nI_1]
        refine xi_ret_i rfl rfl rfl ⟨by rw [hS], by rw [hS]; exact h1, frz.rf, rfl⟩
set_option maxRecDepth 100000 in
set_option maxHeartbeats 8000000 in
theorem l_FN_from {G : xG} {d f s : Nat} {L : sL} {key e : Int32} {σ : xS} (hs : fsep f s L) : ∀ (n j : Nat) (st : fS) (t : xS), j + n = 12 → fnd G t.1 f st → (∀ i, i < j → st.1[i]? = some 0) → shf G t.1 s L → frz σ.1 t.1 f 3 → t.2 = σ.2 →
    xw G (d + 16) mX4_from 3 [some (rf G f), some (rf G s), some (.int e), some (.int key), some (.int (nI j))] [] t (fpost G f σ (askS L key 12 true e (List.replicate 12 0, []))) := by
  have z12 : (12 : Int32).toInt = 12 := rfl
  intro n
  induction n with
  | zero =>
    intro j st t hj h1 h0 h2 h3 h4
    have hj' : j = 12 := by omega
    subst hj'
    obtain ⟨ts, a1, a2, a3, a4, a5, a6, a7⟩ := id h1
    have hst : st.1 = List.replicate 12 0 := List.eq_replicate_iff.mpr ⟨a3, fun o ho => by
      obtain ⟨i, hi⟩ := List.getElem?_of_mem ho
      have := h0 i (by have := (List.getElem?_eq_some_iff.mp hi).1; omega)
      rw [this] at hi
      exact (Option.some.inj hi).symm⟩
    refine xgo 80 rfl ?_
    try simp only [xlo0, List.map_cons, List.map_nil, List.length_cons, List.length_nil, xrs, xr0, Nat.reduceAdd, Nat.reduceSub, List.cons_append, List.nil_append, List.set_cons_zero, List.set_cons_succ, Option.toList_none, Option.toList_some, nI_1]
    refine xi_icmpge rfl (fun c1 => ?_) (fun c1 => ?_)
    · refine xgo 80 rfl ?_
      try simp only [xlo0, List.map_cons, List.map_nil, List.length_cons, List.length_nil, xrs, xr0, Nat.reduceAdd, Nat.reduceSub, List.cons_append, List.nil_append, List.set_cons_zero, List.set_cons_succ, Option.toList_none, Option.toList_some, nI_1]
      refine xp 4 rfl rfl rfl a1 rfl rfl rfl (fun s1 n1 f1 e1 => ?_)
      have a2 := (f1 _ (by omega)).trans a2
      have a4 := (f1 _ (by omega)).trans a4
      have hf : frz t.1 s1.1 f 3 := frz.one f1 (by omega) (by omega)
      have h1' : fnd G s1.1 f (List.replicate 12 0, []) := ⟨ts, n1, by rw [a2, hst], rfl, a4, a5, by simp, by simp⟩
      refine xgo 80 rfl ?_
      try simp only [xlo0, List.map_cons, List.map_nil, List.length_cons, List.length_nil, xrs, xr0, Nat.reduceAdd, Nat.reduceSub, List.cons_append, List.nil_append, List.set_cons_zero, List.set_cons_succ, Option.toList_none, Option.toList_some, nI_1]
      refine xcV 4 rfl rfl rfl (c_FN_ask (d := d) (n := 12) (dp := 0) (e := e) (key := key) hs _ s1 (by omega) h1' (h2.keepF hs hf)) rfl kX4_ask iX4_ask h1'.obj ⟨_, rfl, rfl⟩ rfl rfl (Nat.le_of_ble_eq_true rfl) (fun v2 s2 q2 => ?_)
      obtain ⟨rfl, p1, p2, p3⟩ := q2
      refine xgo 80 rfl ?_
      try simp only [xlo0, List.map_cons, List.map_nil, List.length_cons, List.length_nil, xrs, xr0, Nat.reduceAdd, Nat.reduceSub, List.cons_append, List.nil_append, List.set_cons_zero, List.set_cons_succ, Option.toList_none, Option.toList_some, nI_1]
      refine xi_ret_i rfl rfl rfl ⟨rfl, p1, (h3.tr hf).tr p2, p3.trans (e1.trans h4)⟩
    · exact absurd (by decide) c1
  | succ n ih =>
    intro j st t hj h1 h0 h2 h3 h4
    obtain ⟨ts, a1, a2, a3, a4, a5, a6, a7⟩ := id h1
    have hcl : (nI j).toNatClampNeg = j := nI_clamp (by omega)
    refine xgo 80 rfl ?_
    try simp only [xlo0, List.map_cons, List.map_nil, List.length_cons, List.length_nil, xrs, xr0, Nat.reduceAdd, Nat.reduceSub, List.cons_append, List.nil_append, List.set_cons_zero, List.set_cons_succ, Option.toList_none, Option.toList_some, nI_1]
    refine xi_icmpge rfl (fun c1 => ?_) (fun c1 => ?_)
    · exact absurd c1 (by rw [i_le, i_n (by omega), z12]; omega)
    refine xgo 80 rfl ?_
    try simp only [xlo0, List.map_cons, List.map_nil, List.length_cons, List.length_nil, xrs, xr0, Nat.reduceAdd, Nat.reduceSub, List.cons_append, List.nil_append, List.set_cons_zero, List.set_cons_succ, Option.toList_none, Option.toList_some, nI_1]
    refine xg 4 rfl rfl rfl a1 rfl ?_
    refine xgo 80 rfl ?_
    try simp only [xlo0, List.map_cons, List.map_nil, List.length_cons, List.length_nil, xrs, xr0, Nat.reduceAdd, Nat.reduceSub, List.cons_append, List.nil_append, List.set_cons_zero, List.set_cons_succ, Option.toList_none, Option.toList_some, nI_1]
    refine xsz rfl a2 (nI_pos (by omega)) (by rw [hcl, vi_len]; omega) (by decide) (fun s1 n1 f1 e1 => ?_)
    have a1 := (f1 _ (by omega)).trans a1
    have a4 := (f1 _ (by omega)).trans a4
    have hf : frz t.1 s1.1 f 3 := frz.one f1 (by omega) (by omega)
    refine xto 3 80 rfl ?_
    try simp only [xlo0, List.map_cons, List.map_nil, List.length_cons, List.length_nil, xrs, xr0, Nat.reduceAdd, Nat.reduceSub, List.cons_append, List.nil_append, List.set_cons_zero, List.set_cons_succ, Option.toList_none, Option.toList_some, nI_1]
    refine ih (j + 1) (st.1.set j 0, st.2) s1 (by omega) ⟨ts, a1, by rw [n1, hcl, vi_set], by simp [a3], a4, a5, a6, a7⟩ (fun i hi => ?_) (h2.keepF hs hf) (h3.tr hf) (e1.trans h4)
    by_cases hij : j = i
    · subst hij
      exact List.getElem?_set_self (by omega)
    · rw [List.getElem?_set_ne hij]
      exact h0 i (by omega)
set_option maxRecDepth 100000 in
set_option maxHeartbeats 8000000 in
theorem c_FN_from {G : xG} {d f s : Nat} {L : sL} {key e : Int32} {st : fS} {σ : xS} (hs : fsep f s L) (h1 : fnd G σ.1 f st) (h2 : shf G σ.1 s L) : xm G (d + 16) mX4_from [rf G f, rf G s, .int e, .int key] σ (fpost G f σ (askS L key 12 true e (List.replicate 12 0, []))) := by
  refine xm_at 5 rfl (by decide) (Nat.le_of_ble_eq_true rfl) (by simp [Value.category]) tX4_from_ok ?_
  try simp only [xlo0, List.map_cons, List.map_nil, List.length_cons, List.length_nil, xrs, xr0, Nat.reduceAdd, Nat.reduceSub, List.cons_append, List.nil_append, List.set_cons_zero, List.set_cons_succ, Option.toList_none, Option.toList_some, nI_1]
  refine xto 3 80 rfl ?_
  try simp only [xlo0, List.map_cons, List.map_nil, List.length_cons, List.length_nil, xrs, xr0, Nat.reduceAdd, Nat.reduceSub, List.cons_append, List.nil_append, List.set_cons_zero, List.set_cons_succ, Option.toList_none, Option.toList_some, nI_1]
  exact l_FN_from hs 12 0 st σ (by omega) h1 (fun i hi => by omega) h2 frz.rf rfl
end
