section
-- ===== PART A: goes FIRST, ahead of the names: the tables' words, and 'selects' of the private methods out of them =====
/-- a private method of a class that the tables say can be made, by its rows of tables_1 -/
def lw_okq (q : MethodName × Nat) : Prop := (q.1.cls ≠ "java/lang/invoke/MethodHandle" ∧ q.1.cls ≠ "java/lang/invoke/VarHandle") ∧ Cond.instantiable q.1.cls q.2 ∈ tables_1 ∧ Cond.privateMethod q.1 ∈ tables_1 ∧ Cond.instanceMethod q.1 ∈ tables_1
theorem lw_p0 : lw_okq (⟨"PackPost", "hasRowInDraft", "()Z"⟩, 12) := ⟨⟨by decide +kernel, by decide +kernel⟩, List.mem_of_getElem? (i := 13) (by decide +kernel), List.mem_of_getElem? (i := 328) (by decide +kernel), List.mem_of_getElem? (i := 329) (by decide +kernel)⟩
theorem lw_p1 : lw_okq (⟨"PackPost$PackWriter", "writeBody", "(LPackPost$Content;)V"⟩, 4) := ⟨⟨by decide +kernel, by decide +kernel⟩, List.mem_of_getElem? (i := 153) (by decide +kernel), List.mem_of_getElem? (i := 363) (by decide +kernel), List.mem_of_getElem? (i := 364) (by decide +kernel)⟩
theorem lw_p2 : lw_okq (⟨"PackPost$PackWriter", "writePairs", "(LPackPost$Content;I)V"⟩, 4) := ⟨⟨by decide +kernel, by decide +kernel⟩, List.mem_of_getElem? (i := 153) (by decide +kernel), List.mem_of_getElem? (i := 371) (by decide +kernel), List.mem_of_getElem? (i := 372) (by decide +kernel)⟩
theorem lw_p3 : lw_okq (⟨"PackPost$PackWriter", "writeOps", "(LPackPost$Content;I)V"⟩, 4) := ⟨⟨by decide +kernel, by decide +kernel⟩, List.mem_of_getElem? (i := 153) (by decide +kernel), List.mem_of_getElem? (i := 381) (by decide +kernel), List.mem_of_getElem? (i := 382) (by decide +kernel)⟩
theorem lw_p4 : lw_okq (⟨"PackPost$PackWriter", "searchMatch", "(LPackPost$Content;II)V"⟩, 4) := ⟨⟨by decide +kernel, by decide +kernel⟩, List.mem_of_getElem? (i := 153) (by decide +kernel), List.mem_of_getElem? (i := 385) (by decide +kernel), List.mem_of_getElem? (i := 386) (by decide +kernel)⟩
theorem lw_p5 : lw_okq (⟨"PackPost$PackWriter", "writePlainOps", "(LPackPost$Content;III)V"⟩, 4) := ⟨⟨by decide +kernel, by decide +kernel⟩, List.mem_of_getElem? (i := 153) (by decide +kernel), List.mem_of_getElem? (i := 392) (by decide +kernel), List.mem_of_getElem? (i := 393) (by decide +kernel)⟩
theorem lw_p6 : lw_okq (⟨"PackPost$PackWriter", "writePlain", "(LPackPost$Content;III)V"⟩, 4) := ⟨⟨by decide +kernel, by decide +kernel⟩, List.mem_of_getElem? (i := 153) (by decide +kernel), List.mem_of_getElem? (i := 396) (by decide +kernel), List.mem_of_getElem? (i := 397) (by decide +kernel)⟩
theorem lw_p7 : lw_okq (⟨"PackPost$PackWriter", "writeHead", "(LPackPost$Content;ZLPackPost$ByteRow;)V"⟩, 4) := ⟨⟨by decide +kernel, by decide +kernel⟩, List.mem_of_getElem? (i := 153) (by decide +kernel), List.mem_of_getElem? (i := 400) (by decide +kernel), List.mem_of_getElem? (i := 401) (by decide +kernel)⟩
theorem lw_p8 : lw_okq (⟨"PackPost", "keepDesk", "()I"⟩, 12) := ⟨⟨by decide +kernel, by decide +kernel⟩, List.mem_of_getElem? (i := 13) (by decide +kernel), List.mem_of_getElem? (i := 425) (by decide +kernel), List.mem_of_getElem? (i := 426) (by decide +kernel)⟩
theorem lw_p9 : lw_okq (⟨"PackPost", "packAt", "(I)LPackPost$ByteRow;"⟩, 12) := ⟨⟨by decide +kernel, by decide +kernel⟩, List.mem_of_getElem? (i := 13) (by decide +kernel), List.mem_of_getElem? (i := 440) (by decide +kernel), List.mem_of_getElem? (i := 441) (by decide +kernel)⟩
theorem lw_p10 : lw_okq (⟨"PackPost$PackReader", "hearTitle", "()V"⟩, 6) := ⟨⟨by decide +kernel, by decide +kernel⟩, List.mem_of_getElem? (i := 174) (by decide +kernel), List.mem_of_getElem? (i := 482) (by decide +kernel), List.mem_of_getElem? (i := 483) (by decide +kernel)⟩
theorem lw_p11 : lw_okq (⟨"PackPost$PackReader", "next", "(II)I"⟩, 6) := ⟨⟨by decide +kernel, by decide +kernel⟩, List.mem_of_getElem? (i := 174) (by decide +kernel), List.mem_of_getElem? (i := 486) (by decide +kernel), List.mem_of_getElem? (i := 487) (by decide +kernel)⟩
theorem lw_p12 : lw_okq (⟨"PackPost$PackReader", "hearNeeds", "()V"⟩, 6) := ⟨⟨by decide +kernel, by decide +kernel⟩, List.mem_of_getElem? (i := 174) (by decide +kernel), List.mem_of_getElem? (i := 492) (by decide +kernel), List.mem_of_getElem? (i := 493) (by decide +kernel)⟩
theorem lw_p13 : lw_okq (⟨"PackPost$PackReader", "isFine", "()Z"⟩, 6) := ⟨⟨by decide +kernel, by decide +kernel⟩, List.mem_of_getElem? (i := 174) (by decide +kernel), List.mem_of_getElem? (i := 496) (by decide +kernel), List.mem_of_getElem? (i := 497) (by decide +kernel)⟩
theorem lw_p14 : lw_okq (⟨"PackPost$PackReader", "refuseAt", "(I)V"⟩, 6) := ⟨⟨by decide +kernel, by decide +kernel⟩, List.mem_of_getElem? (i := 174) (by decide +kernel), List.mem_of_getElem? (i := 501) (by decide +kernel), List.mem_of_getElem? (i := 502) (by decide +kernel)⟩
theorem lw_p15 : lw_okq (⟨"PackPost$PackReader", "hearSeals", "()V"⟩, 6) := ⟨⟨by decide +kernel, by decide +kernel⟩, List.mem_of_getElem? (i := 174) (by decide +kernel), List.mem_of_getElem? (i := 506) (by decide +kernel), List.mem_of_getElem? (i := 507) (by decide +kernel)⟩
def lw_privs_1 : List (MethodName × Nat) := [(⟨"PackPost", "hasRowInDraft", "()Z"⟩, 12), (⟨"PackPost$PackWriter", "writeBody", "(LPackPost$Content;)V"⟩, 4), (⟨"PackPost$PackWriter", "writePairs", "(LPackPost$Content;I)V"⟩, 4), (⟨"PackPost$PackWriter", "writeOps", "(LPackPost$Content;I)V"⟩, 4), (⟨"PackPost$PackWriter", "searchMatch", "(LPackPost$Content;II)V"⟩, 4), (⟨"PackPost$PackWriter", "writePlainOps", "(LPackPost$Content;III)V"⟩, 4), (⟨"PackPost$PackWriter", "writePlain", "(LPackPost$Content;III)V"⟩, 4), (⟨"PackPost$PackWriter", "writeHead", "(LPackPost$Content;ZLPackPost$ByteRow;)V"⟩, 4), (⟨"PackPost", "keepDesk", "()I"⟩, 12), (⟨"PackPost", "packAt", "(I)LPackPost$ByteRow;"⟩, 12), (⟨"PackPost$PackReader", "hearTitle", "()V"⟩, 6), (⟨"PackPost$PackReader", "next", "(II)I"⟩, 6), (⟨"PackPost$PackReader", "hearNeeds", "()V"⟩, 6), (⟨"PackPost$PackReader", "isFine", "()Z"⟩, 6), (⟨"PackPost$PackReader", "refuseAt", "(I)V"⟩, 6), (⟨"PackPost$PackReader", "hearSeals", "()V"⟩, 6)]
theorem lw_r1 : ∀ q ∈ lw_privs_1, lw_okq q := List.forall_mem_cons.mpr ⟨lw_p0, List.forall_mem_cons.mpr ⟨lw_p1, List.forall_mem_cons.mpr ⟨lw_p2, List.forall_mem_cons.mpr ⟨lw_p3, List.forall_mem_cons.mpr ⟨lw_p4, List.forall_mem_cons.mpr ⟨lw_p5, List.forall_mem_cons.mpr ⟨lw_p6, List.forall_mem_cons.mpr ⟨lw_p7, List.forall_mem_cons.mpr ⟨lw_p8, List.forall_mem_cons.mpr ⟨lw_p9, List.forall_mem_cons.mpr ⟨lw_p10, List.forall_mem_cons.mpr ⟨lw_p11, List.forall_mem_cons.mpr ⟨lw_p12, List.forall_mem_cons.mpr ⟨lw_p13, List.forall_mem_cons.mpr ⟨lw_p14, List.forall_mem_cons.mpr ⟨lw_p15, fun _ h => absurd h List.not_mem_nil⟩⟩⟩⟩⟩⟩⟩⟩⟩⟩⟩⟩⟩⟩⟩⟩
theorem lw_p16 : lw_okq (⟨"PackPost$PackReader", "hearRows", "()V"⟩, 6) := ⟨⟨by decide +kernel, by decide +kernel⟩, List.mem_of_getElem? (i := 174) (by decide +kernel), List.mem_of_getElem? (i := 512) (by decide +kernel), List.mem_of_getElem? (i := 513) (by decide +kernel)⟩
theorem lw_p17 : lw_okq (⟨"PackPost$PackReader", "hearPair", "(I)I"⟩, 6) := ⟨⟨by decide +kernel, by decide +kernel⟩, List.mem_of_getElem? (i := 174) (by decide +kernel), List.mem_of_getElem? (i := 518) (by decide +kernel), List.mem_of_getElem? (i := 519) (by decide +kernel)⟩
theorem lw_p18 : lw_okq (⟨"PackPost$PackReader", "hearPages", "()V"⟩, 6) := ⟨⟨by decide +kernel, by decide +kernel⟩, List.mem_of_getElem? (i := 174) (by decide +kernel), List.mem_of_getElem? (i := 522) (by decide +kernel), List.mem_of_getElem? (i := 523) (by decide +kernel)⟩
theorem lw_p19 : lw_okq (⟨"PackPost$PackReader", "hearPairs", "(I)V"⟩, 6) := ⟨⟨by decide +kernel, by decide +kernel⟩, List.mem_of_getElem? (i := 174) (by decide +kernel), List.mem_of_getElem? (i := 526) (by decide +kernel), List.mem_of_getElem? (i := 527) (by decide +kernel)⟩
theorem lw_p20 : lw_okq (⟨"PackPost$PackReader", "lacking", "(I)I"⟩, 6) := ⟨⟨by decide +kernel, by decide +kernel⟩, List.mem_of_getElem? (i := 174) (by decide +kernel), List.mem_of_getElem? (i := 530) (by decide +kernel), List.mem_of_getElem? (i := 531) (by decide +kernel)⟩
theorem lw_p21 : lw_okq (⟨"PackPost$PackReader", "refuseIfLacking", "(I)V"⟩, 6) := ⟨⟨by decide +kernel, by decide +kernel⟩, List.mem_of_getElem? (i := 174) (by decide +kernel), List.mem_of_getElem? (i := 539) (by decide +kernel), List.mem_of_getElem? (i := 540) (by decide +kernel)⟩
theorem lw_p22 : lw_okq (⟨"PackPost$PackReader", "hearOps", "(I)V"⟩, 6) := ⟨⟨by decide +kernel, by decide +kernel⟩, List.mem_of_getElem? (i := 174) (by decide +kernel), List.mem_of_getElem? (i := 543) (by decide +kernel), List.mem_of_getElem? (i := 544) (by decide +kernel)⟩
theorem lw_p23 : lw_okq (⟨"PackPost$PackReader", "hearCopy", "(II)V"⟩, 6) := ⟨⟨by decide +kernel, by decide +kernel⟩, List.mem_of_getElem? (i := 174) (by decide +kernel), List.mem_of_getElem? (i := 547) (by decide +kernel), List.mem_of_getElem? (i := 548) (by decide +kernel)⟩
theorem lw_p24 : lw_okq (⟨"PackPost$PackReader", "hearPlain", "(II)V"⟩, 6) := ⟨⟨by decide +kernel, by decide +kernel⟩, List.mem_of_getElem? (i := 174) (by decide +kernel), List.mem_of_getElem? (i := 552) (by decide +kernel), List.mem_of_getElem? (i := 553) (by decide +kernel)⟩
theorem lw_p25 : lw_okq (⟨"PackPost$PackReader", "hearPlainPage", "(I)V"⟩, 6) := ⟨⟨by decide +kernel, by decide +kernel⟩, List.mem_of_getElem? (i := 174) (by decide +kernel), List.mem_of_getElem? (i := 557) (by decide +kernel), List.mem_of_getElem? (i := 558) (by decide +kernel)⟩
theorem lw_p26 : lw_okq (⟨"PackPost$PackReader", "hearEnd", "()V"⟩, 6) := ⟨⟨by decide +kernel, by decide +kernel⟩, List.mem_of_getElem? (i := 174) (by decide +kernel), List.mem_of_getElem? (i := 561) (by decide +kernel), List.mem_of_getElem? (i := 562) (by decide +kernel)⟩
theorem lw_p27 : lw_okq (⟨"PackPost", "bookAt", "(I)LPackPost$Book;"⟩, 12) := ⟨⟨by decide +kernel, by decide +kernel⟩, List.mem_of_getElem? (i := 13) (by decide +kernel), List.mem_of_getElem? (i := 610) (by decide +kernel), List.mem_of_getElem? (i := 611) (by decide +kernel)⟩
theorem lw_p28 : lw_okq (⟨"PackPost", "isReelSpoiled", "()Z"⟩, 12) := ⟨⟨by decide +kernel, by decide +kernel⟩, List.mem_of_getElem? (i := 13) (by decide +kernel), List.mem_of_getElem? (i := 614) (by decide +kernel), List.mem_of_getElem? (i := 615) (by decide +kernel)⟩
theorem lw_p29 : lw_okq (⟨"PackPost", "refuse", "(II)I"⟩, 12) := ⟨⟨by decide +kernel, by decide +kernel⟩, List.mem_of_getElem? (i := 13) (by decide +kernel), List.mem_of_getElem? (i := 651) (by decide +kernel), List.mem_of_getElem? (i := 652) (by decide +kernel)⟩
theorem lw_p30 : lw_okq (⟨"PackPost$Shelf", "meeting", "(LPackPost$Content;I)I"⟩, 2) := ⟨⟨by decide +kernel, by decide +kernel⟩, List.mem_of_getElem? (i := 204) (by decide +kernel), List.mem_of_getElem? (i := 659) (by decide +kernel), List.mem_of_getElem? (i := 660) (by decide +kernel)⟩
theorem lw_p31 : lw_okq (⟨"PackPost$Shelf", "seenBy", "(LPackPost$Content;)I"⟩, 2) := ⟨⟨by decide +kernel, by decide +kernel⟩, List.mem_of_getElem? (i := 204) (by decide +kernel), List.mem_of_getElem? (i := 675) (by decide +kernel), List.mem_of_getElem? (i := 676) (by decide +kernel)⟩
def lw_privs_2 : List (MethodName × Nat) := [(⟨"PackPost$PackReader", "hearRows", "()V"⟩, 6), (⟨"PackPost$PackReader", "hearPair", "(I)I"⟩, 6), (⟨"PackPost$PackReader", "hearPages", "()V"⟩, 6), (⟨"PackPost$PackReader", "hearPairs", "(I)V"⟩, 6), (⟨"PackPost$PackReader", "lacking", "(I)I"⟩, 6), (⟨"PackPost$PackReader", "refuseIfLacking", "(I)V"⟩, 6), (⟨"PackPost$PackReader", "hearOps", "(I)V"⟩, 6), (⟨"PackPost$PackReader", "hearCopy", "(II)V"⟩, 6), (⟨"PackPost$PackReader", "hearPlain", "(II)V"⟩, 6), (⟨"PackPost$PackReader", "hearPlainPage", "(I)V"⟩, 6), (⟨"PackPost$PackReader", "hearEnd", "()V"⟩, 6), (⟨"PackPost", "bookAt", "(I)LPackPost$Book;"⟩, 12), (⟨"PackPost", "isReelSpoiled", "()Z"⟩, 12), (⟨"PackPost", "refuse", "(II)I"⟩, 12), (⟨"PackPost$Shelf", "meeting", "(LPackPost$Content;I)I"⟩, 2), (⟨"PackPost$Shelf", "seenBy", "(LPackPost$Content;)I"⟩, 2)]
theorem lw_r2 : ∀ q ∈ lw_privs_2, lw_okq q := List.forall_mem_cons.mpr ⟨lw_p16, List.forall_mem_cons.mpr ⟨lw_p17, List.forall_mem_cons.mpr ⟨lw_p18, List.forall_mem_cons.mpr ⟨lw_p19, List.forall_mem_cons.mpr ⟨lw_p20, List.forall_mem_cons.mpr ⟨lw_p21, List.forall_mem_cons.mpr ⟨lw_p22, List.forall_mem_cons.mpr ⟨lw_p23, List.forall_mem_cons.mpr ⟨lw_p24, List.forall_mem_cons.mpr ⟨lw_p25, List.forall_mem_cons.mpr ⟨lw_p26, List.forall_mem_cons.mpr ⟨lw_p27, List.forall_mem_cons.mpr ⟨lw_p28, List.forall_mem_cons.mpr ⟨lw_p29, List.forall_mem_cons.mpr ⟨lw_p30, List.forall_mem_cons.mpr ⟨lw_p31, fun _ h => absurd h List.not_mem_nil⟩⟩⟩⟩⟩⟩⟩⟩⟩⟩⟩⟩⟩⟩⟩⟩
theorem lw_p32 : lw_okq (⟨"PackPost", "setClosed", "(IZ)I"⟩, 12) := ⟨⟨by decide +kernel, by decide +kernel⟩, List.mem_of_getElem? (i := 13) (by decide +kernel), List.mem_of_getElem? (i := 745) (by decide +kernel), List.mem_of_getElem? (i := 746) (by decide +kernel)⟩
theorem lw_p33 : lw_okq (⟨"PackPost$Finding", "ask", "(LPackPost$Shelf;III)I"⟩, 3) := ⟨⟨by decide +kernel, by decide +kernel⟩, List.mem_of_getElem? (i := 220) (by decide +kernel), List.mem_of_getElem? (i := 773) (by decide +kernel), List.mem_of_getElem? (i := 774) (by decide +kernel)⟩
theorem lw_p34 : lw_okq (⟨"PackPost$Finding", "looksInto", "(LPackPost$Entry;II)Z"⟩, 3) := ⟨⟨by decide +kernel, by decide +kernel⟩, List.mem_of_getElem? (i := 220) (by decide +kernel), List.mem_of_getElem? (i := 779) (by decide +kernel), List.mem_of_getElem? (i := 780) (by decide +kernel)⟩
theorem lw_p35 : lw_okq (⟨"PackPost", "pageEntry", "(II)I"⟩, 12) := ⟨⟨by decide +kernel, by decide +kernel⟩, List.mem_of_getElem? (i := 13) (by decide +kernel), List.mem_of_getElem? (i := 801) (by decide +kernel), List.mem_of_getElem? (i := 802) (by decide +kernel)⟩
theorem lw_p36 : lw_okq (⟨"PackPost$Shelf", "countAhead", "(LPackPost$Content;I)I"⟩, 2) := ⟨⟨by decide +kernel, by decide +kernel⟩, List.mem_of_getElem? (i := 204) (by decide +kernel), List.mem_of_getElem? (i := 823) (by decide +kernel), List.mem_of_getElem? (i := 824) (by decide +kernel)⟩
theorem lw_p37 : lw_okq (⟨"PackPostModel", "addByte", "(I)V"⟩, 57) := ⟨⟨by decide +kernel, by decide +kernel⟩, List.mem_of_getElem? (i := 840) (by decide +kernel), List.mem_of_getElem? (i := 1049) (by decide +kernel), List.mem_of_getElem? (i := 1050) (by decide +kernel)⟩
theorem lw_p38 : lw_okq (⟨"PackPostModel", "writeHead", "(I)V"⟩, 57) := ⟨⟨by decide +kernel, by decide +kernel⟩, List.mem_of_getElem? (i := 840) (by decide +kernel), List.mem_of_getElem? (i := 1061) (by decide +kernel), List.mem_of_getElem? (i := 1062) (by decide +kernel)⟩
theorem lw_p39 : lw_okq (⟨"PackPostModel", "write", "(I)V"⟩, 57) := ⟨⟨by decide +kernel, by decide +kernel⟩, List.mem_of_getElem? (i := 840) (by decide +kernel), List.mem_of_getElem? (i := 1065) (by decide +kernel), List.mem_of_getElem? (i := 1066) (by decide +kernel)⟩
theorem lw_p40 : lw_okq (⟨"PackPostModel", "squeezeRow", "(I)V"⟩, 57) := ⟨⟨by decide +kernel, by decide +kernel⟩, List.mem_of_getElem? (i := 840) (by decide +kernel), List.mem_of_getElem? (i := 1069) (by decide +kernel), List.mem_of_getElem? (i := 1070) (by decide +kernel)⟩
theorem lw_p41 : lw_okq (⟨"PackPostModel", "writePairs", "(II)V"⟩, 57) := ⟨⟨by decide +kernel, by decide +kernel⟩, List.mem_of_getElem? (i := 840) (by decide +kernel), List.mem_of_getElem? (i := 1073) (by decide +kernel), List.mem_of_getElem? (i := 1074) (by decide +kernel)⟩
theorem lw_p42 : lw_okq (⟨"PackPostModel", "squeeze", "(I)V"⟩, 57) := ⟨⟨by decide +kernel, by decide +kernel⟩, List.mem_of_getElem? (i := 840) (by decide +kernel), List.mem_of_getElem? (i := 1077) (by decide +kernel), List.mem_of_getElem? (i := 1078) (by decide +kernel)⟩
theorem lw_p43 : lw_okq (⟨"PackPostModel", "writeOps", "(II)V"⟩, 57) := ⟨⟨by decide +kernel, by decide +kernel⟩, List.mem_of_getElem? (i := 840) (by decide +kernel), List.mem_of_getElem? (i := 1081) (by decide +kernel), List.mem_of_getElem? (i := 1082) (by decide +kernel)⟩
theorem lw_p44 : lw_okq (⟨"PackPostModel", "bestBack", "(III)I"⟩, 57) := ⟨⟨by decide +kernel, by decide +kernel⟩, List.mem_of_getElem? (i := 840) (by decide +kernel), List.mem_of_getElem? (i := 1085) (by decide +kernel), List.mem_of_getElem? (i := 1086) (by decide +kernel)⟩
theorem lw_p45 : lw_okq (⟨"PackPostModel", "likeAhead", "(IIII)I"⟩, 57) := ⟨⟨by decide +kernel, by decide +kernel⟩, List.mem_of_getElem? (i := 840) (by decide +kernel), List.mem_of_getElem? (i := 1089) (by decide +kernel), List.mem_of_getElem? (i := 1090) (by decide +kernel)⟩
theorem lw_p46 : lw_okq (⟨"PackPostModel", "writePlain", "(II)V"⟩, 57) := ⟨⟨by decide +kernel, by decide +kernel⟩, List.mem_of_getElem? (i := 840) (by decide +kernel), List.mem_of_getElem? (i := 1093) (by decide +kernel), List.mem_of_getElem? (i := 1094) (by decide +kernel)⟩
theorem lw_p47 : lw_okq (⟨"PackPostModel", "writtenSum", "(I)I"⟩, 57) := ⟨⟨by decide +kernel, by decide +kernel⟩, List.mem_of_getElem? (i := 840) (by decide +kernel), List.mem_of_getElem? (i := 1097) (by decide +kernel), List.mem_of_getElem? (i := 1098) (by decide +kernel)⟩
def lw_privs_3 : List (MethodName × Nat) := [(⟨"PackPost", "setClosed", "(IZ)I"⟩, 12), (⟨"PackPost$Finding", "ask", "(LPackPost$Shelf;III)I"⟩, 3), (⟨"PackPost$Finding", "looksInto", "(LPackPost$Entry;II)Z"⟩, 3), (⟨"PackPost", "pageEntry", "(II)I"⟩, 12), (⟨"PackPost$Shelf", "countAhead", "(LPackPost$Content;I)I"⟩, 2), (⟨"PackPostModel", "addByte", "(I)V"⟩, 57), (⟨"PackPostModel", "writeHead", "(I)V"⟩, 57), (⟨"PackPostModel", "write", "(I)V"⟩, 57), (⟨"PackPostModel", "squeezeRow", "(I)V"⟩, 57), (⟨"PackPostModel", "writePairs", "(II)V"⟩, 57), (⟨"PackPostModel", "squeeze", "(I)V"⟩, 57), (⟨"PackPostModel", "writeOps", "(II)V"⟩, 57), (⟨"PackPostModel", "bestBack", "(III)I"⟩, 57), (⟨"PackPostModel", "likeAhead", "(IIII)I"⟩, 57), (⟨"PackPostModel", "writePlain", "(II)V"⟩, 57), (⟨"PackPostModel", "writtenSum", "(I)I"⟩, 57)]
theorem lw_r3 : ∀ q ∈ lw_privs_3, lw_okq q := List.forall_mem_cons.mpr ⟨lw_p32, List.forall_mem_cons.mpr ⟨lw_p33, List.forall_mem_cons.mpr ⟨lw_p34, List.forall_mem_cons.mpr ⟨lw_p35, List.forall_mem_cons.mpr ⟨lw_p36, List.forall_mem_cons.mpr ⟨lw_p37, List.forall_mem_cons.mpr ⟨lw_p38, List.forall_mem_cons.mpr ⟨lw_p39, List.forall_mem_cons.mpr ⟨lw_p40, List.forall_mem_cons.mpr ⟨lw_p41, List.forall_mem_cons.mpr ⟨lw_p42, List.forall_mem_cons.mpr ⟨lw_p43, List.forall_mem_cons.mpr ⟨lw_p44, List.forall_mem_cons.mpr ⟨lw_p45, List.forall_mem_cons.mpr ⟨lw_p46, List.forall_mem_cons.mpr ⟨lw_p47, fun _ h => absurd h List.not_mem_nil⟩⟩⟩⟩⟩⟩⟩⟩⟩⟩⟩⟩⟩⟩⟩⟩
theorem lw_p48 : lw_okq (⟨"PackPostModel", "writeFour", "(I)V"⟩, 57) := ⟨⟨by decide +kernel, by decide +kernel⟩, List.mem_of_getElem? (i := 840) (by decide +kernel), List.mem_of_getElem? (i := 1105) (by decide +kernel), List.mem_of_getElem? (i := 1106) (by decide +kernel)⟩
theorem lw_p49 : lw_okq (⟨"PackPostModel", "isPack", "(I)Z"⟩, 57) := ⟨⟨by decide +kernel, by decide +kernel⟩, List.mem_of_getElem? (i := 840) (by decide +kernel), List.mem_of_getElem? (i := 1113) (by decide +kernel), List.mem_of_getElem? (i := 1114) (by decide +kernel)⟩
theorem lw_p50 : lw_okq (⟨"PackPostModel", "isOctet", "(II)Z"⟩, 57) := ⟨⟨by decide +kernel, by decide +kernel⟩, List.mem_of_getElem? (i := 840) (by decide +kernel), List.mem_of_getElem? (i := 1121) (by decide +kernel), List.mem_of_getElem? (i := 1122) (by decide +kernel)⟩
theorem lw_p51 : lw_okq (⟨"PackPostModel", "wrong", "(I)I"⟩, 57) := ⟨⟨by decide +kernel, by decide +kernel⟩, List.mem_of_getElem? (i := 840) (by decide +kernel), List.mem_of_getElem? (i := 1137) (by decide +kernel), List.mem_of_getElem? (i := 1138) (by decide +kernel)⟩
theorem lw_p52 : lw_okq (⟨"PackPostModel", "readHead", "()V"⟩, 57) := ⟨⟨by decide +kernel, by decide +kernel⟩, List.mem_of_getElem? (i := 840) (by decide +kernel), List.mem_of_getElem? (i := 1141) (by decide +kernel), List.mem_of_getElem? (i := 1142) (by decide +kernel)⟩
theorem lw_p53 : lw_okq (⟨"PackPostModel", "exactly", "(I)V"⟩, 57) := ⟨⟨by decide +kernel, by decide +kernel⟩, List.mem_of_getElem? (i := 840) (by decide +kernel), List.mem_of_getElem? (i := 1145) (by decide +kernel), List.mem_of_getElem? (i := 1146) (by decide +kernel)⟩
theorem lw_p54 : lw_okq (⟨"PackPostModel", "want", "(I)I"⟩, 57) := ⟨⟨by decide +kernel, by decide +kernel⟩, List.mem_of_getElem? (i := 840) (by decide +kernel), List.mem_of_getElem? (i := 1149) (by decide +kernel), List.mem_of_getElem? (i := 1150) (by decide +kernel)⟩
theorem lw_p55 : lw_okq (⟨"PackPostModel", "here", "(I)I"⟩, 57) := ⟨⟨by decide +kernel, by decide +kernel⟩, List.mem_of_getElem? (i := 840) (by decide +kernel), List.mem_of_getElem? (i := 1153) (by decide +kernel), List.mem_of_getElem? (i := 1154) (by decide +kernel)⟩
theorem lw_p56 : lw_okq (⟨"PackPostModel", "wantNew", "(IIII)V"⟩, 57) := ⟨⟨by decide +kernel, by decide +kernel⟩, List.mem_of_getElem? (i := 840) (by decide +kernel), List.mem_of_getElem? (i := 1157) (by decide +kernel), List.mem_of_getElem? (i := 1158) (by decide +kernel)⟩
theorem lw_p57 : lw_okq (⟨"PackPostModel", "came", "(IIII)Z"⟩, 57) := ⟨⟨by decide +kernel, by decide +kernel⟩, List.mem_of_getElem? (i := 840) (by decide +kernel), List.mem_of_getElem? (i := 1161) (by decide +kernel), List.mem_of_getElem? (i := 1162) (by decide +kernel)⟩
theorem lw_p58 : lw_okq (⟨"PackPostModel", "wantTwo", "(I)V"⟩, 57) := ⟨⟨by decide +kernel, by decide +kernel⟩, List.mem_of_getElem? (i := 840) (by decide +kernel), List.mem_of_getElem? (i := 1165) (by decide +kernel), List.mem_of_getElem? (i := 1166) (by decide +kernel)⟩
theorem lw_p59 : lw_okq (⟨"PackPostModel", "readPlain", "(II)V"⟩, 57) := ⟨⟨by decide +kernel, by decide +kernel⟩, List.mem_of_getElem? (i := 840) (by decide +kernel), List.mem_of_getElem? (i := 1169) (by decide +kernel), List.mem_of_getElem? (i := 1170) (by decide +kernel)⟩
theorem lw_p60 : lw_okq (⟨"PackPostModel", "readPairs", "(II)V"⟩, 57) := ⟨⟨by decide +kernel, by decide +kernel⟩, List.mem_of_getElem? (i := 840) (by decide +kernel), List.mem_of_getElem? (i := 1173) (by decide +kernel), List.mem_of_getElem? (i := 1174) (by decide +kernel)⟩
theorem lw_p61 : lw_okq (⟨"PackPostModel", "readOps", "(II)V"⟩, 57) := ⟨⟨by decide +kernel, by decide +kernel⟩, List.mem_of_getElem? (i := 840) (by decide +kernel), List.mem_of_getElem? (i := 1177) (by decide +kernel), List.mem_of_getElem? (i := 1178) (by decide +kernel)⟩
theorem lw_p62 : lw_okq (⟨"PackPostModel", "sumOf", "(II)I"⟩, 57) := ⟨⟨by decide +kernel, by decide +kernel⟩, List.mem_of_getElem? (i := 840) (by decide +kernel), List.mem_of_getElem? (i := 1181) (by decide +kernel), List.mem_of_getElem? (i := 1182) (by decide +kernel)⟩
theorem lw_p63 : lw_okq (⟨"PackPostModel", "isSigned", "()Z"⟩, 57) := ⟨⟨by decide +kernel, by decide +kernel⟩, List.mem_of_getElem? (i := 840) (by decide +kernel), List.mem_of_getElem? (i := 1185) (by decide +kernel), List.mem_of_getElem? (i := 1186) (by decide +kernel)⟩
def lw_privs_4 : List (MethodName × Nat) := [(⟨"PackPostModel", "writeFour", "(I)V"⟩, 57), (⟨"PackPostModel", "isPack", "(I)Z"⟩, 57), (⟨"PackPostModel", "isOctet", "(II)Z"⟩, 57), (⟨"PackPostModel", "wrong", "(I)I"⟩, 57), (⟨"PackPostModel", "readHead", "()V"⟩, 57), (⟨"PackPostModel", "exactly", "(I)V"⟩, 57), (⟨"PackPostModel", "want", "(I)I"⟩, 57), (⟨"PackPostModel", "here", "(I)I"⟩, 57), (⟨"PackPostModel", "wantNew", "(IIII)V"⟩, 57), (⟨"PackPostModel", "came", "(IIII)Z"⟩, 57), (⟨"PackPostModel", "wantTwo", "(I)V"⟩, 57), (⟨"PackPostModel", "readPlain", "(II)V"⟩, 57), (⟨"PackPostModel", "readPairs", "(II)V"⟩, 57), (⟨"PackPostModel", "readOps", "(II)V"⟩, 57), (⟨"PackPostModel", "sumOf", "(II)I"⟩, 57), (⟨"PackPostModel", "isSigned", "()Z"⟩, 57)]
theorem lw_r4 : ∀ q ∈ lw_privs_4, lw_okq q := List.forall_mem_cons.mpr ⟨lw_p48, List.forall_mem_cons.mpr ⟨lw_p49, List.forall_mem_cons.mpr ⟨lw_p50, List.forall_mem_cons.mpr ⟨lw_p51, List.forall_mem_cons.mpr ⟨lw_p52, List.forall_mem_cons.mpr ⟨lw_p53, List.forall_mem_cons.mpr ⟨lw_p54, List.forall_mem_cons.mpr ⟨lw_p55, List.forall_mem_cons.mpr ⟨lw_p56, List.forall_mem_cons.mpr ⟨lw_p57, List.forall_mem_cons.mpr ⟨lw_p58, List.forall_mem_cons.mpr ⟨lw_p59, List.forall_mem_cons.mpr ⟨lw_p60, List.forall_mem_cons.mpr ⟨lw_p61, List.forall_mem_cons.mpr ⟨lw_p62, List.forall_mem_cons.mpr ⟨lw_p63, fun _ h => absurd h List.not_mem_nil⟩⟩⟩⟩⟩⟩⟩⟩⟩⟩⟩⟩⟩⟩⟩⟩
theorem lw_p64 : lw_okq (⟨"PackPostModel", "tapeSum", "(I)I"⟩, 57) := ⟨⟨by decide +kernel, by decide +kernel⟩, List.mem_of_getElem? (i := 840) (by decide +kernel), List.mem_of_getElem? (i := 1202) (by decide +kernel), List.mem_of_getElem? (i := 1203) (by decide +kernel)⟩
theorem lw_p65 : lw_okq (⟨"PackPostModel", "isSpoiled", "()Z"⟩, 57) := ⟨⟨by decide +kernel, by decide +kernel⟩, List.mem_of_getElem? (i := 840) (by decide +kernel), List.mem_of_getElem? (i := 1218) (by decide +kernel), List.mem_of_getElem? (i := 1219) (by decide +kernel)⟩
theorem lw_p66 : lw_okq (⟨"PackPostModel", "bookLength", "(I)I"⟩, 57) := ⟨⟨by decide +kernel, by decide +kernel⟩, List.mem_of_getElem? (i := 840) (by decide +kernel), List.mem_of_getElem? (i := 1222) (by decide +kernel), List.mem_of_getElem? (i := 1223) (by decide +kernel)⟩
theorem lw_p67 : lw_okq (⟨"PackPostModel", "join", "(I)I"⟩, 57) := ⟨⟨by decide +kernel, by decide +kernel⟩, List.mem_of_getElem? (i := 840) (by decide +kernel), List.mem_of_getElem? (i := 1226) (by decide +kernel), List.mem_of_getElem? (i := 1227) (by decide +kernel)⟩
theorem lw_p68 : lw_okq (⟨"PackPostModel", "emptyBook", "(I)V"⟩, 57) := ⟨⟨by decide +kernel, by decide +kernel⟩, List.mem_of_getElem? (i := 840) (by decide +kernel), List.mem_of_getElem? (i := 1230) (by decide +kernel), List.mem_of_getElem? (i := 1231) (by decide +kernel)⟩
theorem lw_p69 : lw_okq (⟨"PackPostModel", "layDown", "(I)Z"⟩, 57) := ⟨⟨by decide +kernel, by decide +kernel⟩, List.mem_of_getElem? (i := 840) (by decide +kernel), List.mem_of_getElem? (i := 1247) (by decide +kernel), List.mem_of_getElem? (i := 1248) (by decide +kernel)⟩
theorem lw_p70 : lw_okq (⟨"PackPostModel", "unpack", "(IIIII)V"⟩, 57) := ⟨⟨by decide +kernel, by decide +kernel⟩, List.mem_of_getElem? (i := 840) (by decide +kernel), List.mem_of_getElem? (i := 1251) (by decide +kernel), List.mem_of_getElem? (i := 1252) (by decide +kernel)⟩
theorem lw_p71 : lw_okq (⟨"PackPostModel", "meeting", "(IIZ)I"⟩, 57) := ⟨⟨by decide +kernel, by decide +kernel⟩, List.mem_of_getElem? (i := 840) (by decide +kernel), List.mem_of_getElem? (i := 1255) (by decide +kernel), List.mem_of_getElem? (i := 1256) (by decide +kernel)⟩
theorem lw_p72 : lw_okq (⟨"PackPostModel", "sealedGroup", "(I)I"⟩, 57) := ⟨⟨by decide +kernel, by decide +kernel⟩, List.mem_of_getElem? (i := 840) (by decide +kernel), List.mem_of_getElem? (i := 1259) (by decide +kernel), List.mem_of_getElem? (i := 1260) (by decide +kernel)⟩
theorem lw_p73 : lw_okq (⟨"PackPostModel", "findSeen", "(I)V"⟩, 57) := ⟨⟨by decide +kernel, by decide +kernel⟩, List.mem_of_getElem? (i := 840) (by decide +kernel), List.mem_of_getElem? (i := 1263) (by decide +kernel), List.mem_of_getElem? (i := 1264) (by decide +kernel)⟩
theorem lw_p74 : lw_okq (⟨"PackPostModel", "seals", "(II)Z"⟩, 57) := ⟨⟨by decide +kernel, by decide +kernel⟩, List.mem_of_getElem? (i := 840) (by decide +kernel), List.mem_of_getElem? (i := 1267) (by decide +kernel), List.mem_of_getElem? (i := 1268) (by decide +kernel)⟩
theorem lw_p75 : lw_okq (⟨"PackPostModel", "hasRowOf", "(II)Z"⟩, 57) := ⟨⟨by decide +kernel, by decide +kernel⟩, List.mem_of_getElem? (i := 840) (by decide +kernel), List.mem_of_getElem? (i := 1271) (by decide +kernel), List.mem_of_getElem? (i := 1272) (by decide +kernel)⟩
theorem lw_p76 : lw_okq (⟨"PackPostModel", "isEntry", "(I)Z"⟩, 57) := ⟨⟨by decide +kernel, by decide +kernel⟩, List.mem_of_getElem? (i := 840) (by decide +kernel), List.mem_of_getElem? (i := 1283) (by decide +kernel), List.mem_of_getElem? (i := 1284) (by decide +kernel)⟩
theorem lw_p77 : lw_okq (⟨"PackPostModel", "ask", "(II)I"⟩, 57) := ⟨⟨by decide +kernel, by decide +kernel⟩, List.mem_of_getElem? (i := 840) (by decide +kernel), List.mem_of_getElem? (i := 1303) (by decide +kernel), List.mem_of_getElem? (i := 1304) (by decide +kernel)⟩
theorem lw_p78 : lw_okq (⟨"PackPostModel", "looks", "(II)Z"⟩, 57) := ⟨⟨by decide +kernel, by decide +kernel⟩, List.mem_of_getElem? (i := 840) (by decide +kernel), List.mem_of_getElem? (i := 1307) (by decide +kernel), List.mem_of_getElem? (i := 1308) (by decide +kernel)⟩
theorem lw_p79 : lw_okq (⟨"PackPostModel", "rowOf", "(II)I"⟩, 57) := ⟨⟨by decide +kernel, by decide +kernel⟩, List.mem_of_getElem? (i := 840) (by decide +kernel), List.mem_of_getElem? (i := 1311) (by decide +kernel), List.mem_of_getElem? (i := 1312) (by decide +kernel)⟩
def lw_privs_5 : List (MethodName × Nat) := [(⟨"PackPostModel", "tapeSum", "(I)I"⟩, 57), (⟨"PackPostModel", "isSpoiled", "()Z"⟩, 57), (⟨"PackPostModel", "bookLength", "(I)I"⟩, 57), (⟨"PackPostModel", "join", "(I)I"⟩, 57), (⟨"PackPostModel", "emptyBook", "(I)V"⟩, 57), (⟨"PackPostModel", "layDown", "(I)Z"⟩, 57), (⟨"PackPostModel", "unpack", "(IIIII)V"⟩, 57), (⟨"PackPostModel", "meeting", "(IIZ)I"⟩, 57), (⟨"PackPostModel", "sealedGroup", "(I)I"⟩, 57), (⟨"PackPostModel", "findSeen", "(I)V"⟩, 57), (⟨"PackPostModel", "seals", "(II)Z"⟩, 57), (⟨"PackPostModel", "hasRowOf", "(II)Z"⟩, 57), (⟨"PackPostModel", "isEntry", "(I)Z"⟩, 57), (⟨"PackPostModel", "ask", "(II)I"⟩, 57), (⟨"PackPostModel", "looks", "(II)Z"⟩, 57), (⟨"PackPostModel", "rowOf", "(II)I"⟩, 57)]
theorem lw_r5 : ∀ q ∈ lw_privs_5, lw_okq q := List.forall_mem_cons.mpr ⟨lw_p64, List.forall_mem_cons.mpr ⟨lw_p65, List.forall_mem_cons.mpr ⟨lw_p66, List.forall_mem_cons.mpr ⟨lw_p67, List.forall_mem_cons.mpr ⟨lw_p68, List.forall_mem_cons.mpr ⟨lw_p69, List.forall_mem_cons.mpr ⟨lw_p70, List.forall_mem_cons.mpr ⟨lw_p71, List.forall_mem_cons.mpr ⟨lw_p72, List.forall_mem_cons.mpr ⟨lw_p73, List.forall_mem_cons.mpr ⟨lw_p74, List.forall_mem_cons.mpr ⟨lw_p75, List.forall_mem_cons.mpr ⟨lw_p76, List.forall_mem_cons.mpr ⟨lw_p77, List.forall_mem_cons.mpr ⟨lw_p78, List.forall_mem_cons.mpr ⟨lw_p79, fun _ h => absurd h List.not_mem_nil⟩⟩⟩⟩⟩⟩⟩⟩⟩⟩⟩⟩⟩⟩⟩⟩
def lw_privs : List (MethodName × Nat) := lw_privs_1 ++ (lw_privs_2 ++ (lw_privs_3 ++ (lw_privs_4 ++ (lw_privs_5))))
def lw_tbl : List Cond := k2_sels lw_privs ++ tables_1
theorem lw_privs_ok : ∀ q ∈ lw_privs, lw_okq q := by
  show ∀ q ∈ lw_privs_1 ++ (lw_privs_2 ++ (lw_privs_3 ++ (lw_privs_4 ++ (lw_privs_5)))), lw_okq q
  exact List.forall_mem_append.mpr ⟨lw_r1, List.forall_mem_append.mpr ⟨lw_r2, List.forall_mem_append.mpr ⟨lw_r3, List.forall_mem_append.mpr ⟨lw_r4, lw_r5⟩⟩⟩⟩
end
section
def RX0 : String := "PackPost$Book"
def TX0 : u_T := fun k => match k with
  | 0 => ("PackPost$Book", "taken", "[LPackPost$ByteRow;", true)
  | 1 => ("PackPost$Book", "wanted", "I", false)
  | 2 => ("PackPost$Book", "came", "I", false)
  | _ => ("PackPost$Book", "bytes", "I", false)
def tyX0 : Nat → FieldType := fun k => match k with
  | 0 => .array (.object "PackPost$ByteRow")
  | 1 => .int
  | 2 => .int
  | _ => .int
theorem nmX0 : ∀ a, a < 4 → ∀ b, b < 4 → a ≠ b → (TX0 a).2.1 ≠ (TX0 b).2.1 := by decide +kernel
theorem tyX0_ok : ∀ k, k < 4 → parseFieldDescriptor (TX0 k).2.2.1 = some (tyX0 k) := by decide +kernel
abbrev cX0_init : ByteArray := prog_2_method_1_code
def yX0_init : MethodName := ⟨RX0, "<init>", "()V"⟩
abbrev cX0_hasPart : ByteArray := prog_2_method_2_code
def yX0_hasPart : MethodName := ⟨RX0, "hasPart", "(I)Z"⟩
abbrev cX0_putPart : ByteArray := prog_2_method_3_code
def yX0_putPart : MethodName := ⟨RX0, "putPart", "(IILPackPost$ByteRow;)V"⟩
abbrev cX0_joinOnto : ByteArray := prog_2_method_4_code
def yX0_joinOnto : MethodName := ⟨RX0, "joinOnto", "(LPackPost$ByteRow;)V"⟩
abbrev cX0_clear : ByteArray := prog_2_method_5_code
def yX0_clear : MethodName := ⟨RX0, "clear", "()V"⟩
def RX1 : String := "PackPost$ByteRow"
def TX1 : u_T := fun k => match k with
  | 0 => ("PackPost$ByteRow", "cells", "[I", true)
  | _ => ("PackPost$ByteRow", "count", "I", false)
def tyX1 : Nat → FieldType := fun k => match k with
  | 0 => .array .int
  | _ => .int
theorem nmX1 : ∀ a, a < 2 → ∀ b, b < 2 → a ≠ b → (TX1 a).2.1 ≠ (TX1 b).2.1 := by decide +kernel
theorem tyX1_ok : ∀ k, k < 2 → parseFieldDescriptor (TX1 k).2.2.1 = some (tyX1 k) := by decide +kernel
abbrev cX1_init : ByteArray := prog_3_method_1_code
def yX1_init : MethodName := ⟨RX1, "<init>", "(I)V"⟩
abbrev cX1_has : ByteArray := prog_3_method_2_code
def yX1_has : MethodName := ⟨RX1, "has", "(I)Z"⟩
abbrev cX1_at : ByteArray := prog_3_method_3_code
def yX1_at : MethodName := ⟨RX1, "at", "(I)I"⟩
abbrev cX1_clear : ByteArray := prog_3_method_4_code
def yX1_clear : MethodName := ⟨RX1, "clear", "()V"⟩
abbrev cX1_push : ByteArray := prog_3_method_5_code
def yX1_push : MethodName := ⟨RX1, "push", "(I)V"⟩
abbrev cX1_pushRange : ByteArray := prog_3_method_6_code
def yX1_pushRange : MethodName := ⟨RX1, "pushRange", "(LPackPost$ByteRow;II)V"⟩
abbrev cX1_pushNumber : ByteArray := prog_3_method_7_code
def yX1_pushNumber : MethodName := ⟨RX1, "pushNumber", "(I)V"⟩
abbrev cX1_number : ByteArray := prog_3_method_8_code
def yX1_number : MethodName := ⟨RX1, "number", "(I)I"⟩
abbrev cX1_sum : ByteArray := prog_3_method_9_code
def yX1_sum : MethodName := ⟨RX1, "sum", "(II)I"⟩
abbrev cX1_xor : ByteArray := prog_3_method_10_code
def yX1_xor : MethodName := ⟨RX1, "xor", "(II)V"⟩
abbrev cX1_keepFirst : ByteArray := prog_3_method_11_code
def yX1_keepFirst : MethodName := ⟨RX1, "keepFirst", "(I)V"⟩
abbrev cX1_part : ByteArray := prog_3_method_12_code
def yX1_part : MethodName := ⟨RX1, "part", "(II)LPackPost$ByteRow;"⟩
def RX2 : String := "PackPost$Content"
def TX2 : u_T := fun k => match k with
  | 0 => ("PackPost$Content", "name", "I", false)
  | 1 => ("PackPost$Content", "edition", "I", false)
  | 2 => ("PackPost$Content", "manner", "I", false)
  | 3 => ("PackPost$Content", "signed", "Z", false)
  | 4 => ("PackPost$Content", "needNames", "[I", true)
  | 5 => ("PackPost$Content", "needEditions", "[I", true)
  | 6 => ("PackPost$Content", "needExact", "[Z", true)
  | 7 => ("PackPost$Content", "needCount", "I", false)
  | 8 => ("PackPost$Content", "seals", "[I", true)
  | 9 => ("PackPost$Content", "sealCount", "I", false)
  | 10 => ("PackPost$Content", "keys", "[I", true)
  | 11 => ("PackPost$Content", "packings", "[I", true)
  | 12 => ("PackPost$Content", "lengths", "[I", true)
  | 13 => ("PackPost$Content", "pages", "[[I", true)
  | _ => ("PackPost$Content", "rowCount", "I", false)
def tyX2 : Nat → FieldType := fun k => match k with
  | 0 => .int
  | 1 => .int
  | 2 => .int
  | 3 => .boolean
  | 4 => .array .int
  | 5 => .array .int
  | 6 => .array .boolean
  | 7 => .int
  | 8 => .array .int
  | 9 => .int
  | 10 => .array .int
  | 11 => .array .int
  | 12 => .array .int
  | 13 => .array (.array .int)
  | _ => .int
theorem nmX2 : ∀ a, a < 15 → ∀ b, b < 15 → a ≠ b → (TX2 a).2.1 ≠ (TX2 b).2.1 := by decide +kernel
theorem tyX2_ok : ∀ k, k < 15 → parseFieldDescriptor (TX2 k).2.2.1 = some (tyX2 k) := by decide +kernel
abbrev cX2_init : ByteArray := prog_4_method_1_code
def yX2_init : MethodName := ⟨RX2, "<init>", "()V"⟩
abbrev cX2_begin : ByteArray := prog_4_method_2_code
def yX2_begin : MethodName := ⟨RX2, "begin", "()V"⟩
abbrev cX2_title : ByteArray := prog_4_method_3_code
def yX2_title : MethodName := ⟨RX2, "title", "(III)V"⟩
abbrev cX2_needsName : ByteArray := prog_4_method_4_code
def yX2_needsName : MethodName := ⟨RX2, "needsName", "(I)Z"⟩
abbrev cX2_putNeed : ByteArray := prog_4_method_5_code
def yX2_putNeed : MethodName := ⟨RX2, "putNeed", "(IIZ)V"⟩
abbrev cX2_sealsGroup : ByteArray := prog_4_method_6_code
def yX2_sealsGroup : MethodName := ⟨RX2, "sealsGroup", "(I)Z"⟩
abbrev cX2_putSeal : ByteArray := prog_4_method_7_code
def yX2_putSeal : MethodName := ⟨RX2, "putSeal", "(I)V"⟩
abbrev cX2_rowOf : ByteArray := prog_4_method_8_code
def yX2_rowOf : MethodName := ⟨RX2, "rowOf", "(I)I"⟩
abbrev cX2_hasRowOfGroup : ByteArray := prog_4_method_9_code
def yX2_hasRowOfGroup : MethodName := ⟨RX2, "hasRowOfGroup", "(I)Z"⟩
abbrev cX2_putRow : ByteArray := prog_4_method_10_code
def yX2_putRow : MethodName := ⟨RX2, "putRow", "(II)V"⟩
abbrev cX2_pageLength : ByteArray := prog_4_method_11_code
def yX2_pageLength : MethodName := ⟨RX2, "pageLength", "(I)I"⟩
abbrev cX2_byteAt : ByteArray := prog_4_method_12_code
def yX2_byteAt : MethodName := ⟨RX2, "byteAt", "(II)I"⟩
abbrev cX2_putByte : ByteArray := prog_4_method_13_code
def yX2_putByte : MethodName := ⟨RX2, "putByte", "(II)V"⟩
abbrev cX2_putCopies : ByteArray := prog_4_method_14_code
def yX2_putCopies : MethodName := ⟨RX2, "putCopies", "(III)V"⟩
abbrev cX2_putLike : ByteArray := prog_4_method_15_code
def yX2_putLike : MethodName := ⟨RX2, "putLike", "(III)V"⟩
def RX3 : String := "PackPost$Entry"
def TX3 : u_T := fun k => match k with
  | 0 => ("PackPost$Entry", "said", "LPackPost$Content;", true)
  | 1 => ("PackPost$Entry", "metBy", "[I", true)
  | 2 => ("PackPost$Entry", "sees", "I", true)
  | 3 => ("PackPost$Entry", "closed", "Z", false)
  | 4 => ("PackPost$Entry", "overlays", "[I", true)
  | _ => ("PackPost$Entry", "overlayCount", "I", false)
def tyX3 : Nat → FieldType := fun k => match k with
  | 0 => .object "PackPost$Content"
  | 1 => .array .int
  | 2 => .int
  | 3 => .boolean
  | 4 => .array .int
  | _ => .int
theorem nmX3 : ∀ a, a < 6 → ∀ b, b < 6 → a ≠ b → (TX3 a).2.1 ≠ (TX3 b).2.1 := by decide +kernel
theorem tyX3_ok : ∀ k, k < 6 → parseFieldDescriptor (TX3 k).2.2.1 = some (tyX3 k) := by decide +kernel
abbrev cX3_init : ByteArray := prog_5_method_1_code
def yX3_init : MethodName := ⟨RX3, "<init>", "(LPackPost$Content;[II)V"⟩
abbrev cX3_meeting : ByteArray := prog_5_method_2_code
def yX3_meeting : MethodName := ⟨RX3, "meeting", "(I)I"⟩
abbrev cX3_leansOn : ByteArray := prog_5_method_3_code
def yX3_leansOn : MethodName := ⟨RX3, "leansOn", "(I)Z"⟩
abbrev cX3_hasOverlay : ByteArray := prog_5_method_4_code
def yX3_hasOverlay : MethodName := ⟨RX3, "hasOverlay", "(I)Z"⟩
abbrev cX3_putOverlay : ByteArray := prog_5_method_5_code
def yX3_putOverlay : MethodName := ⟨RX3, "putOverlay", "(I)V"⟩
abbrev cX3_hasRowOf : ByteArray := prog_5_method_6_code
def yX3_hasRowOf : MethodName := ⟨RX3, "hasRowOf", "(I)Z"⟩
def RX4 : String := "PackPost$Finding"
def TX4 : u_T := fun k => match k with
  | 0 => ("PackPost$Finding", "asked", "[Z", true)
  | 1 => ("PackPost$Finding", "trail", "[I", true)
  | _ => ("PackPost$Finding", "steps", "I", false)
def tyX4 : Nat → FieldType := fun k => match k with
  | 0 => .array .boolean
  | 1 => .array .int
  | _ => .int
theorem nmX4 : ∀ a, a < 3 → ∀ b, b < 3 → a ≠ b → (TX4 a).2.1 ≠ (TX4 b).2.1 := by decide +kernel
theorem tyX4_ok : ∀ k, k < 3 → parseFieldDescriptor (TX4 k).2.2.1 = some (tyX4 k) := by decide +kernel
abbrev cX4_init : ByteArray := prog_6_method_1_code
def yX4_init : MethodName := ⟨RX4, "<init>", "()V"⟩
abbrev cX4_from : ByteArray := prog_6_method_2_code
def yX4_from : MethodName := ⟨RX4, "from", "(LPackPost$Shelf;II)I"⟩
abbrev cX4_step : ByteArray := prog_6_method_3_code
def yX4_step : MethodName := ⟨RX4, "step", "(I)I"⟩
abbrev cX4_ask : ByteArray := prog_6_method_4_code
def yX4_ask : MethodName := ⟨RX4, "ask", "(LPackPost$Shelf;III)I"⟩
abbrev cX4_looksInto : ByteArray := prog_6_method_5_code
def yX4_looksInto : MethodName := ⟨RX4, "looksInto", "(LPackPost$Entry;II)Z"⟩
def RX5 : String := "PackPost$PackReader"
def TX5 : u_T := fun k => match k with
  | 0 => ("PackPost$PackReader", "bytes", "LPackPost$ByteRow;", false)
  | 1 => ("PackPost$PackReader", "said", "LPackPost$Content;", false)
  | 2 => ("PackPost$PackReader", "place", "I", false)
  | 3 => ("PackPost$PackReader", "wrong", "I", false)
  | 4 => ("PackPost$PackReader", "lengths", "[I", true)
  | _ => ("PackPost$PackReader", "sizes", "[I", true)
def tyX5 : Nat → FieldType := fun k => match k with
  | 0 => .object "PackPost$ByteRow"
  | 1 => .object "PackPost$Content"
  | 2 => .int
  | 3 => .int
  | 4 => .array .int
  | _ => .array .int
theorem nmX5 : ∀ a, a < 6 → ∀ b, b < 6 → a ≠ b → (TX5 a).2.1 ≠ (TX5 b).2.1 := by decide +kernel
theorem tyX5_ok : ∀ k, k < 6 → parseFieldDescriptor (TX5 k).2.2.1 = some (tyX5 k) := by decide +kernel
abbrev cX5_init : ByteArray := prog_7_method_1_code
def yX5_init : MethodName := ⟨RX5, "<init>", "()V"⟩
abbrev cX5_wrongPlace : ByteArray := prog_7_method_2_code
def yX5_wrongPlace : MethodName := ⟨RX5, "wrongPlace", "(LPackPost$ByteRow;)I"⟩
abbrev cX5_isSignedBy : ByteArray := prog_7_method_3_code
def yX5_isSignedBy : MethodName := ⟨RX5, "isSignedBy", "(I)Z"⟩
abbrev cX5_handOver : ByteArray := prog_7_method_4_code
def yX5_handOver : MethodName := ⟨RX5, "handOver", "()LPackPost$Content;"⟩
abbrev cX5_next : ByteArray := prog_7_method_5_code
def yX5_next : MethodName := ⟨RX5, "next", "(II)I"⟩
abbrev cX5_isFine : ByteArray := prog_7_method_6_code
def yX5_isFine : MethodName := ⟨RX5, "isFine", "()Z"⟩
abbrev cX5_refuseAt : ByteArray := prog_7_method_7_code
def yX5_refuseAt : MethodName := ⟨RX5, "refuseAt", "(I)V"⟩
abbrev cX5_hearTitle : ByteArray := prog_7_method_8_code
def yX5_hearTitle : MethodName := ⟨RX5, "hearTitle", "()V"⟩
abbrev cX5_hearNeeds : ByteArray := prog_7_method_9_code
def yX5_hearNeeds : MethodName := ⟨RX5, "hearNeeds", "()V"⟩
abbrev cX5_hearSeals : ByteArray := prog_7_method_10_code
def yX5_hearSeals : MethodName := ⟨RX5, "hearSeals", "()V"⟩
abbrev cX5_hearRows : ByteArray := prog_7_method_11_code
def yX5_hearRows : MethodName := ⟨RX5, "hearRows", "()V"⟩
abbrev cX5_hearPair : ByteArray := prog_7_method_12_code
def yX5_hearPair : MethodName := ⟨RX5, "hearPair", "(I)I"⟩
abbrev cX5_hearPages : ByteArray := prog_7_method_13_code
def yX5_hearPages : MethodName := ⟨RX5, "hearPages", "()V"⟩
abbrev cX5_lacking : ByteArray := prog_7_method_14_code
def yX5_lacking : MethodName := ⟨RX5, "lacking", "(I)I"⟩
abbrev cX5_hearPlainPage : ByteArray := prog_7_method_15_code
def yX5_hearPlainPage : MethodName := ⟨RX5, "hearPlainPage", "(I)V"⟩
abbrev cX5_hearPlain : ByteArray := prog_7_method_16_code
def yX5_hearPlain : MethodName := ⟨RX5, "hearPlain", "(II)V"⟩
abbrev cX5_hearPairs : ByteArray := prog_7_method_17_code
def yX5_hearPairs : MethodName := ⟨RX5, "hearPairs", "(I)V"⟩
abbrev cX5_hearOps : ByteArray := prog_7_method_18_code
def yX5_hearOps : MethodName := ⟨RX5, "hearOps", "(I)V"⟩
abbrev cX5_hearCopy : ByteArray := prog_7_method_19_code
def yX5_hearCopy : MethodName := ⟨RX5, "hearCopy", "(II)V"⟩
abbrev cX5_refuseIfLacking : ByteArray := prog_7_method_20_code
def yX5_refuseIfLacking : MethodName := ⟨RX5, "refuseIfLacking", "(I)V"⟩
abbrev cX5_hearEnd : ByteArray := prog_7_method_21_code
def yX5_hearEnd : MethodName := ⟨RX5, "hearEnd", "()V"⟩
def RX6 : String := "PackPost$PackWriter"
def TX6 : u_T := fun k => match k with
  | 0 => ("PackPost$PackWriter", "body", "LPackPost$ByteRow;", true)
  | 1 => ("PackPost$PackWriter", "sizes", "[I", true)
  | 2 => ("PackPost$PackWriter", "matchBack", "I", false)
  | _ => ("PackPost$PackWriter", "matchLength", "I", false)
def tyX6 : Nat → FieldType := fun k => match k with
  | 0 => .object "PackPost$ByteRow"
  | 1 => .array .int
  | 2 => .int
  | _ => .int
theorem nmX6 : ∀ a, a < 4 → ∀ b, b < 4 → a ≠ b → (TX6 a).2.1 ≠ (TX6 b).2.1 := by decide +kernel
theorem tyX6_ok : ∀ k, k < 4 → parseFieldDescriptor (TX6 k).2.2.1 = some (tyX6 k) := by decide +kernel
abbrev cX6_init : ByteArray := prog_8_method_1_code
def yX6_init : MethodName := ⟨RX6, "<init>", "()V"⟩
abbrev cX6_write : ByteArray := prog_8_method_2_code
def yX6_write : MethodName := ⟨RX6, "write", "(LPackPost$Content;ILPackPost$ByteRow;)V"⟩
abbrev cX6_writeHead : ByteArray := prog_8_method_3_code
def yX6_writeHead : MethodName := ⟨RX6, "writeHead", "(LPackPost$Content;ZLPackPost$ByteRow;)V"⟩
abbrev cX6_pushPair : ByteArray := prog_8_method_4_code
def yX6_pushPair : MethodName := ⟨RX6, "pushPair", "(LPackPost$ByteRow;I)V"⟩
abbrev cX6_writeBody : ByteArray := prog_8_method_5_code
def yX6_writeBody : MethodName := ⟨RX6, "writeBody", "(LPackPost$Content;)V"⟩
abbrev cX6_writePlain : ByteArray := prog_8_method_6_code
def yX6_writePlain : MethodName := ⟨RX6, "writePlain", "(LPackPost$Content;III)V"⟩
abbrev cX6_writePairs : ByteArray := prog_8_method_7_code
def yX6_writePairs : MethodName := ⟨RX6, "writePairs", "(LPackPost$Content;I)V"⟩
abbrev cX6_writeOps : ByteArray := prog_8_method_8_code
def yX6_writeOps : MethodName := ⟨RX6, "writeOps", "(LPackPost$Content;I)V"⟩
abbrev cX6_writePlainOps : ByteArray := prog_8_method_9_code
def yX6_writePlainOps : MethodName := ⟨RX6, "writePlainOps", "(LPackPost$Content;III)V"⟩
abbrev cX6_searchMatch : ByteArray := prog_8_method_10_code
def yX6_searchMatch : MethodName := ⟨RX6, "searchMatch", "(LPackPost$Content;II)V"⟩
def RX7 : String := "PackPost$Shelf"
def TX7 : u_T := fun k => match k with
  | 0 => ("PackPost$Shelf", "entries", "[LPackPost$Entry;", true)
  | _ => ("PackPost$Shelf", "count", "I", false)
def tyX7 : Nat → FieldType := fun k => match k with
  | 0 => .array (.object "PackPost$Entry")
  | _ => .int
theorem nmX7 : ∀ a, a < 2 → ∀ b, b < 2 → a ≠ b → (TX7 a).2.1 ≠ (TX7 b).2.1 := by decide +kernel
theorem tyX7_ok : ∀ k, k < 2 → parseFieldDescriptor (TX7 k).2.2.1 = some (tyX7 k) := by decide +kernel
abbrev cX7_init : ByteArray := prog_9_method_1_code
def yX7_init : MethodName := ⟨RX7, "<init>", "()V"⟩
abbrev cX7_at : ByteArray := prog_9_method_2_code
def yX7_at : MethodName := ⟨RX7, "at", "(I)LPackPost$Entry;"⟩
abbrev cX7_firstUnmet : ByteArray := prog_9_method_3_code
def yX7_firstUnmet : MethodName := ⟨RX7, "firstUnmet", "(LPackPost$Content;)I"⟩
abbrev cX7_leastSealed : ByteArray := prog_9_method_4_code
def yX7_leastSealed : MethodName := ⟨RX7, "leastSealed", "(LPackPost$Content;)I"⟩
abbrev cX7_put : ByteArray := prog_9_method_5_code
def yX7_put : MethodName := ⟨RX7, "put", "(LPackPost$Content;)I"⟩
abbrev cX7_overlayWith : ByteArray := prog_9_method_6_code
def yX7_overlayWith : MethodName := ⟨RX7, "overlayWith", "(II)I"⟩
abbrev cX7_ranked : ByteArray := prog_9_method_7_code
def yX7_ranked : MethodName := ⟨RX7, "ranked", "(II)I"⟩
abbrev cX7_leaning : ByteArray := prog_9_method_8_code
def yX7_leaning : MethodName := ⟨RX7, "leaning", "(II)I"⟩
abbrev cX7_meeting : ByteArray := prog_9_method_9_code
def yX7_meeting : MethodName := ⟨RX7, "meeting", "(LPackPost$Content;I)I"⟩
abbrev cX7_suits : ByteArray := prog_9_method_10_code
def yX7_suits : MethodName := ⟨RX7, "suits", "(LPackPost$Content;LPackPost$Content;I)Z"⟩
abbrev cX7_seenBy : ByteArray := prog_9_method_11_code
def yX7_seenBy : MethodName := ⟨RX7, "seenBy", "(LPackPost$Content;)I"⟩
abbrev cX7_isBetween : ByteArray := prog_9_method_12_code
def yX7_isBetween : MethodName := ⟨RX7, "isBetween", "(ILPackPost$Content;LPackPost$Entry;)Z"⟩
abbrev cX7_countAhead : ByteArray := prog_9_method_13_code
def yX7_countAhead : MethodName := ⟨RX7, "countAhead", "(LPackPost$Content;I)I"⟩
def RX8 : String := "PackPost"
def TX8 : u_T := fun k => match k with
  | 0 => ("PackPost", "sheet", "LPackPost$Content;", true)
  | 1 => ("PackPost", "drafting", "Z", false)
  | 2 => ("PackPost", "packs", "[LPackPost$ByteRow;", true)
  | 3 => ("PackPost", "packCount", "I", false)
  | 4 => ("PackPost", "desk", "LPackPost$ByteRow;", true)
  | 5 => ("PackPost", "reel", "LPackPost$ByteRow;", true)
  | 6 => ("PackPost", "books", "[LPackPost$Book;", true)
  | 7 => ("PackPost", "writer", "LPackPost$PackWriter;", true)
  | 8 => ("PackPost", "reader", "LPackPost$PackReader;", true)
  | 9 => ("PackPost", "shelf", "LPackPost$Shelf;", true)
  | 10 => ("PackPost", "finding", "LPackPost$Finding;", true)
  | _ => ("PackPost", "reason", "I", false)
def tyX8 : Nat → FieldType := fun k => match k with
  | 0 => .object "PackPost$Content"
  | 1 => .boolean
  | 2 => .array (.object "PackPost$ByteRow")
  | 3 => .int
  | 4 => .object "PackPost$ByteRow"
  | 5 => .object "PackPost$ByteRow"
  | 6 => .array (.object "PackPost$Book")
  | 7 => .object "PackPost$PackWriter"
  | 8 => .object "PackPost$PackReader"
  | 9 => .object "PackPost$Shelf"
  | 10 => .object "PackPost$Finding"
  | _ => .int
theorem nmX8 : ∀ a, a < 12 → ∀ b, b < 12 → a ≠ b → (TX8 a).2.1 ≠ (TX8 b).2.1 := by decide +kernel
theorem tyX8_ok : ∀ k, k < 12 → parseFieldDescriptor (TX8 k).2.2.1 = some (tyX8 k) := by decide +kernel
abbrev cX8_init : ByteArray := prog_1_method_1_code
def yX8_init : MethodName := ⟨RX8, "<init>", "()V"⟩
abbrev cX8_draft : ByteArray := prog_1_method_2_code
def yX8_draft : MethodName := ⟨RX8, "draft", "(III)I"⟩
abbrev cX8_need : ByteArray := prog_1_method_3_code
def yX8_need : MethodName := ⟨RX8, "need", "(IIZ)I"⟩
abbrev cX8_seal : ByteArray := prog_1_method_4_code
def yX8_seal : MethodName := ⟨RX8, "seal", "(I)I"⟩
abbrev cX8_row : ByteArray := prog_1_method_5_code
def yX8_row : MethodName := ⟨RX8, "row", "(II)I"⟩
abbrev cX8_add : ByteArray := prog_1_method_6_code
def yX8_add : MethodName := ⟨RX8, "add", "(IIIII)I"⟩
abbrev cX8_again : ByteArray := prog_1_method_7_code
def yX8_again : MethodName := ⟨RX8, "again", "(II)I"⟩
abbrev cX8_pack : ByteArray := prog_1_method_8_code
def yX8_pack : MethodName := ⟨RX8, "pack", "(I)I"⟩
abbrev cX8_length : ByteArray := prog_1_method_9_code
def yX8_length : MethodName := ⟨RX8, "length", "(I)I"⟩
abbrev cX8_octet : ByteArray := prog_1_method_10_code
def yX8_octet : MethodName := ⟨RX8, "octet", "(II)I"⟩
abbrev cX8_spoil : ByteArray := prog_1_method_11_code
def yX8_spoil : MethodName := ⟨RX8, "spoil", "(III)I"⟩
abbrev cX8_trim : ByteArray := prog_1_method_12_code
def yX8_trim : MethodName := ⟨RX8, "trim", "(II)I"⟩
abbrev cX8_check : ByteArray := prog_1_method_13_code
def yX8_check : MethodName := ⟨RX8, "check", "(I)I"⟩
abbrev cX8_signer : ByteArray := prog_1_method_14_code
def yX8_signer : MethodName := ⟨RX8, "signer", "(II)I"⟩
abbrev cX8_parts : ByteArray := prog_1_method_15_code
def yX8_parts : MethodName := ⟨RX8, "parts", "(II)I"⟩
abbrev cX8_load : ByteArray := prog_1_method_16_code
def yX8_load : MethodName := ⟨RX8, "load", "(III)I"⟩
abbrev cX8_tape : ByteArray := prog_1_method_17_code
def yX8_tape : MethodName := ⟨RX8, "tape", "(I)I"⟩
abbrev cX8_bend : ByteArray := prog_1_method_18_code
def yX8_bend : MethodName := ⟨RX8, "bend", "(II)I"⟩
abbrev cX8_take : ByteArray := prog_1_method_19_code
def yX8_take : MethodName := ⟨RX8, "take", "()I"⟩
abbrev cX8_book : ByteArray := prog_1_method_20_code
def yX8_book : MethodName := ⟨RX8, "book", "(II)I"⟩
abbrev cX8_drop : ByteArray := prog_1_method_21_code
def yX8_drop : MethodName := ⟨RX8, "drop", "(I)I"⟩
abbrev cX8_open : ByteArray := prog_1_method_22_code
def yX8_open : MethodName := ⟨RX8, "open", "(II)I"⟩
abbrev cX8_why : ByteArray := prog_1_method_23_code
def yX8_why : MethodName := ⟨RX8, "why", "()I"⟩
abbrev cX8_entry : ByteArray := prog_1_method_24_code
def yX8_entry : MethodName := ⟨RX8, "entry", "(II)I"⟩
abbrev cX8_close : ByteArray := prog_1_method_25_code
def yX8_close : MethodName := ⟨RX8, "close", "(I)I"⟩
abbrev cX8_reopen : ByteArray := prog_1_method_26_code
def yX8_reopen : MethodName := ⟨RX8, "reopen", "(I)I"⟩
abbrev cX8_overlay : ByteArray := prog_1_method_27_code
def yX8_overlay : MethodName := ⟨RX8, "overlay", "(II)I"⟩
abbrev cX8_find : ByteArray := prog_1_method_28_code
def yX8_find : MethodName := ⟨RX8, "find", "(II)I"⟩
abbrev cX8_path : ByteArray := prog_1_method_29_code
def yX8_path : MethodName := ⟨RX8, "path", "(III)I"⟩
abbrev cX8_page : ByteArray := prog_1_method_30_code
def yX8_page : MethodName := ⟨RX8, "page", "(II)I"⟩
abbrev cX8_read : ByteArray := prog_1_method_31_code
def yX8_read : MethodName := ⟨RX8, "read", "(III)I"⟩
abbrev cX8_edition : ByteArray := prog_1_method_32_code
def yX8_edition : MethodName := ⟨RX8, "edition", "(II)I"⟩
abbrev cX8_needed : ByteArray := prog_1_method_33_code
def yX8_needed : MethodName := ⟨RX8, "needed", "(II)I"⟩
abbrev cX8_isBelow : ByteArray := prog_1_method_34_code
def yX8_isBelow : MethodName := ⟨RX8, "isBelow", "(II)Z"⟩
abbrev cX8_isPartSize : ByteArray := prog_1_method_35_code
def yX8_isPartSize : MethodName := ⟨RX8, "isPartSize", "(I)Z"⟩
abbrev cX8_partCount : ByteArray := prog_1_method_36_code
def yX8_partCount : MethodName := ⟨RX8, "partCount", "(II)I"⟩
abbrev cX8_xorByte : ByteArray := prog_1_method_37_code
def yX8_xorByte : MethodName := ⟨RX8, "xorByte", "(LPackPost$ByteRow;II)I"⟩
abbrev cX8_hasRowInDraft : ByteArray := prog_1_method_38_code
def yX8_hasRowInDraft : MethodName := ⟨RX8, "hasRowInDraft", "()Z"⟩
abbrev cX8_packAt : ByteArray := prog_1_method_39_code
def yX8_packAt : MethodName := ⟨RX8, "packAt", "(I)LPackPost$ByteRow;"⟩
abbrev cX8_bookAt : ByteArray := prog_1_method_40_code
def yX8_bookAt : MethodName := ⟨RX8, "bookAt", "(I)LPackPost$Book;"⟩
abbrev cX8_keepDesk : ByteArray := prog_1_method_41_code
def yX8_keepDesk : MethodName := ⟨RX8, "keepDesk", "()I"⟩
abbrev cX8_isReelSpoiled : ByteArray := prog_1_method_42_code
def yX8_isReelSpoiled : MethodName := ⟨RX8, "isReelSpoiled", "()Z"⟩
abbrev cX8_refuse : ByteArray := prog_1_method_43_code
def yX8_refuse : MethodName := ⟨RX8, "refuse", "(II)I"⟩
abbrev cX8_setClosed : ByteArray := prog_1_method_44_code
def yX8_setClosed : MethodName := ⟨RX8, "setClosed", "(IZ)I"⟩
abbrev cX8_pageEntry : ByteArray := prog_1_method_45_code
def yX8_pageEntry : MethodName := ⟨RX8, "pageEntry", "(II)I"⟩
def RX9 : String := "PackPostModel"
def TX9 : u_T := fun k => match k with
  | 0 => ("PackPostModel", "drafted", "Z", false)
  | 1 => ("PackPostModel", "draftName", "I", false)
  | 2 => ("PackPostModel", "draftEdition", "I", false)
  | 3 => ("PackPostModel", "draftManner", "I", false)
  | 4 => ("PackPostModel", "needMany", "I", false)
  | 5 => ("PackPostModel", "needName", "[I", true)
  | 6 => ("PackPostModel", "needEdition", "[I", true)
  | 7 => ("PackPostModel", "needExact", "[I", true)
  | 8 => ("PackPostModel", "sealMany", "I", false)
  | 9 => ("PackPostModel", "seals", "[I", true)
  | 10 => ("PackPostModel", "rowMany", "I", false)
  | 11 => ("PackPostModel", "rowKey", "[I", true)
  | 12 => ("PackPostModel", "rowPacking", "[I", true)
  | 13 => ("PackPostModel", "rowLength", "[I", true)
  | 14 => ("PackPostModel", "pages", "[I", true)
  | 15 => ("PackPostModel", "written", "[I", true)
  | 16 => ("PackPostModel", "writtenMany", "I", false)
  | 17 => ("PackPostModel", "squeezed", "[I", true)
  | 18 => ("PackPostModel", "squeezedMany", "I", false)
  | 19 => ("PackPostModel", "packs", "I", false)
  | 20 => ("PackPostModel", "octets", "[I", true)
  | 21 => ("PackPostModel", "lengths", "[I", true)
  | 22 => ("PackPostModel", "at", "I", false)
  | 23 => ("PackPostModel", "atPack", "I", false)
  | 24 => ("PackPostModel", "place", "I", false)
  | 25 => ("PackPostModel", "readNeeds", "I", false)
  | 26 => ("PackPostModel", "readSeals", "I", false)
  | 27 => ("PackPostModel", "readRows", "I", false)
  | 28 => ("PackPostModel", "readRowsAt", "I", false)
  | 29 => ("PackPostModel", "tape", "[I", true)
  | 30 => ("PackPostModel", "taped", "I", false)
  | 31 => ("PackPostModel", "parts", "[B", true)
  | 32 => ("PackPostModel", "partLength", "[I", true)
  | 33 => ("PackPostModel", "wanted", "[I", true)
  | 34 => ("PackPostModel", "came", "[I", true)
  | 35 => ("PackPostModel", "entries", "I", false)
  | 36 => ("PackPostModel", "entryName", "[I", true)
  | 37 => ("PackPostModel", "entryEdition", "[I", true)
  | 38 => ("PackPostModel", "entryManner", "[I", true)
  | 39 => ("PackPostModel", "closed", "[Z", true)
  | 40 => ("PackPostModel", "entryNeeds", "[I", true)
  | 41 => ("PackPostModel", "meets", "[I", true)
  | 42 => ("PackPostModel", "entrySeals", "[I", true)
  | 43 => ("PackPostModel", "sealed", "[I", true)
  | 44 => ("PackPostModel", "entryRows", "[I", true)
  | 45 => ("PackPostModel", "keys", "[I", true)
  | 46 => ("PackPostModel", "pageLength", "[I", true)
  | 47 => ("PackPostModel", "kept", "[I", true)
  | 48 => ("PackPostModel", "overlayMany", "[I", true)
  | 49 => ("PackPostModel", "overlays", "[I", true)
  | 50 => ("PackPostModel", "because", "I", false)
  | 51 => ("PackPostModel", "seen", "[Z", true)
  | 52 => ("PackPostModel", "asked", "[Z", true)
  | 53 => ("PackPostModel", "pile", "[I", true)
  | 54 => ("PackPostModel", "next", "[I", true)
  | 55 => ("PackPostModel", "way", "[I", true)
  | _ => ("PackPostModel", "wayMany", "I", false)
def tyX9 : Nat → FieldType := fun k => match k with
  | 0 => .boolean
  | 1 => .int
  | 2 => .int
  | 3 => .int
  | 4 => .int
  | 5 => .array .int
  | 6 => .array .int
  | 7 => .array .int
  | 8 => .int
  | 9 => .array .int
  | 10 => .int
  | 11 => .array .int
  | 12 => .array .int
  | 13 => .array .int
  | 14 => .array .int
  | 15 => .array .int
  | 16 => .int
  | 17 => .array .int
  | 18 => .int
  | 19 => .int
  | 20 => .array .int
  | 21 => .array .int
  | 22 => .int
  | 23 => .int
  | 24 => .int
  | 25 => .int
  | 26 => .int
  | 27 => .int
  | 28 => .int
  | 29 => .array .int
  | 30 => .int
  | 31 => .array .byte
  | 32 => .array .int
  | 33 => .array .int
  | 34 => .array .int
  | 35 => .int
  | 36 => .array .int
  | 37 => .array .int
  | 38 => .array .int
  | 39 => .array .boolean
  | 40 => .array .int
  | 41 => .array .int
  | 42 => .array .int
  | 43 => .array .int
  | 44 => .array .int
  | 45 => .array .int
  | 46 => .array .int
  | 47 => .array .int
  | 48 => .array .int
  | 49 => .array .int
  | 50 => .int
  | 51 => .array .boolean
  | 52 => .array .boolean
  | 53 => .array .int
  | 54 => .array .int
  | 55 => .array .int
  | _ => .int
theorem nmX9 : ∀ a, a < 57 → ∀ b, b < 57 → a ≠ b → (TX9 a).2.1 ≠ (TX9 b).2.1 := by decide +kernel
theorem tyX9_ok : ∀ k, k < 57 → parseFieldDescriptor (TX9 k).2.2.1 = some (tyX9 k) := by decide +kernel
abbrev cX9_init : ByteArray := prog_11_method_1_code
def yX9_init : MethodName := ⟨RX9, "<init>", "()V"⟩
abbrev cX9_in : ByteArray := prog_11_method_2_code
def yX9_in : MethodName := ⟨RX9, "in", "(II)Z"⟩
abbrev cX9_draft : ByteArray := prog_11_method_3_code
def yX9_draft : MethodName := ⟨RX9, "draft", "(III)I"⟩
abbrev cX9_has : ByteArray := prog_11_method_4_code
def yX9_has : MethodName := ⟨RX9, "has", "([III)Z"⟩
abbrev cX9_need : ByteArray := prog_11_method_5_code
def yX9_need : MethodName := ⟨RX9, "need", "(IIZ)I"⟩
abbrev cX9_seal : ByteArray := prog_11_method_6_code
def yX9_seal : MethodName := ⟨RX9, "seal", "(I)I"⟩
abbrev cX9_row : ByteArray := prog_11_method_7_code
def yX9_row : MethodName := ⟨RX9, "row", "(II)I"⟩
abbrev cX9_one : ByteArray := prog_11_method_8_code
def yX9_one : MethodName := ⟨RX9, "one", "(IIIIII)I"⟩
abbrev cX9_addByte : ByteArray := prog_11_method_9_code
def yX9_addByte : MethodName := ⟨RX9, "addByte", "(I)V"⟩
abbrev cX9_add : ByteArray := prog_11_method_10_code
def yX9_add : MethodName := ⟨RX9, "add", "(IIIII)I"⟩
abbrev cX9_again : ByteArray := prog_11_method_11_code
def yX9_again : MethodName := ⟨RX9, "again", "(II)I"⟩
abbrev cX9_write : ByteArray := prog_11_method_12_code
def yX9_write : MethodName := ⟨RX9, "write", "(I)V"⟩
abbrev cX9_go : ByteArray := prog_11_method_13_code
def yX9_go : MethodName := ⟨RX9, "go", "(II)I"⟩
abbrev cX9_writeFour : ByteArray := prog_11_method_14_code
def yX9_writeFour : MethodName := ⟨RX9, "writeFour", "(I)V"⟩
abbrev cX9_writtenSum : ByteArray := prog_11_method_15_code
def yX9_writtenSum : MethodName := ⟨RX9, "writtenSum", "(I)I"⟩
abbrev cX9_squeeze : ByteArray := prog_11_method_16_code
def yX9_squeeze : MethodName := ⟨RX9, "squeeze", "(I)V"⟩
abbrev cX9_writePairs : ByteArray := prog_11_method_17_code
def yX9_writePairs : MethodName := ⟨RX9, "writePairs", "(II)V"⟩
abbrev cX9_likeAhead : ByteArray := prog_11_method_18_code
def yX9_likeAhead : MethodName := ⟨RX9, "likeAhead", "(IIII)I"⟩
abbrev cX9_bestBack : ByteArray := prog_11_method_19_code
def yX9_bestBack : MethodName := ⟨RX9, "bestBack", "(III)I"⟩
abbrev cX9_writeOps : ByteArray := prog_11_method_20_code
def yX9_writeOps : MethodName := ⟨RX9, "writeOps", "(II)V"⟩
abbrev cX9_writePlain : ByteArray := prog_11_method_21_code
def yX9_writePlain : MethodName := ⟨RX9, "writePlain", "(II)V"⟩
abbrev cX9_squeezeRow : ByteArray := prog_11_method_22_code
def yX9_squeezeRow : MethodName := ⟨RX9, "squeezeRow", "(I)V"⟩
abbrev cX9_writeHead : ByteArray := prog_11_method_23_code
def yX9_writeHead : MethodName := ⟨RX9, "writeHead", "(I)V"⟩
abbrev cX9_pack : ByteArray := prog_11_method_24_code
def yX9_pack : MethodName := ⟨RX9, "pack", "(I)I"⟩
abbrev cX9_isPack : ByteArray := prog_11_method_25_code
def yX9_isPack : MethodName := ⟨RX9, "isPack", "(I)Z"⟩
abbrev cX9_isOctet : ByteArray := prog_11_method_26_code
def yX9_isOctet : MethodName := ⟨RX9, "isOctet", "(II)Z"⟩
abbrev cX9_length : ByteArray := prog_11_method_27_code
def yX9_length : MethodName := ⟨RX9, "length", "(I)I"⟩
abbrev cX9_octet : ByteArray := prog_11_method_28_code
def yX9_octet : MethodName := ⟨RX9, "octet", "(II)I"⟩
abbrev cX9_spoil : ByteArray := prog_11_method_29_code
def yX9_spoil : MethodName := ⟨RX9, "spoil", "(III)I"⟩
abbrev cX9_trim : ByteArray := prog_11_method_30_code
def yX9_trim : MethodName := ⟨RX9, "trim", "(II)I"⟩
abbrev cX9_here : ByteArray := prog_11_method_31_code
def yX9_here : MethodName := ⟨RX9, "here", "(I)I"⟩
abbrev cX9_want : ByteArray := prog_11_method_32_code
def yX9_want : MethodName := ⟨RX9, "want", "(I)I"⟩
abbrev cX9_came : ByteArray := prog_11_method_33_code
def yX9_came : MethodName := ⟨RX9, "came", "(IIII)Z"⟩
abbrev cX9_wantNew : ByteArray := prog_11_method_34_code
def yX9_wantNew : MethodName := ⟨RX9, "wantNew", "(IIII)V"⟩
abbrev cX9_exactly : ByteArray := prog_11_method_35_code
def yX9_exactly : MethodName := ⟨RX9, "exactly", "(I)V"⟩
abbrev cX9_wantTwo : ByteArray := prog_11_method_36_code
def yX9_wantTwo : MethodName := ⟨RX9, "wantTwo", "(I)V"⟩
abbrev cX9_readHead : ByteArray := prog_11_method_37_code
def yX9_readHead : MethodName := ⟨RX9, "readHead", "()V"⟩
abbrev cX9_readPlain : ByteArray := prog_11_method_38_code
def yX9_readPlain : MethodName := ⟨RX9, "readPlain", "(II)V"⟩
abbrev cX9_readPairs : ByteArray := prog_11_method_39_code
def yX9_readPairs : MethodName := ⟨RX9, "readPairs", "(II)V"⟩
abbrev cX9_readOps : ByteArray := prog_11_method_40_code
def yX9_readOps : MethodName := ⟨RX9, "readOps", "(II)V"⟩
abbrev cX9_sumOf : ByteArray := prog_11_method_41_code
def yX9_sumOf : MethodName := ⟨RX9, "sumOf", "(II)I"⟩
abbrev cX9_isSigned : ByteArray := prog_11_method_42_code
def yX9_isSigned : MethodName := ⟨RX9, "isSigned", "()Z"⟩
abbrev cX9_wrong : ByteArray := prog_11_method_43_code
def yX9_wrong : MethodName := ⟨RX9, "wrong", "(I)I"⟩
abbrev cX9_check : ByteArray := prog_11_method_44_code
def yX9_check : MethodName := ⟨RX9, "check", "(I)I"⟩
abbrev cX9_signer : ByteArray := prog_11_method_45_code
def yX9_signer : MethodName := ⟨RX9, "signer", "(II)I"⟩
abbrev cX9_parts : ByteArray := prog_11_method_46_code
def yX9_parts : MethodName := ⟨RX9, "parts", "(II)I"⟩
abbrev cX9_tapeSum : ByteArray := prog_11_method_47_code
def yX9_tapeSum : MethodName := ⟨RX9, "tapeSum", "(I)I"⟩
abbrev cX9_load : ByteArray := prog_11_method_48_code
def yX9_load : MethodName := ⟨RX9, "load", "(III)I"⟩
abbrev cX9_tape : ByteArray := prog_11_method_49_code
def yX9_tape : MethodName := ⟨RX9, "tape", "(I)I"⟩
abbrev cX9_bend : ByteArray := prog_11_method_50_code
def yX9_bend : MethodName := ⟨RX9, "bend", "(II)I"⟩
abbrev cX9_isSpoiled : ByteArray := prog_11_method_51_code
def yX9_isSpoiled : MethodName := ⟨RX9, "isSpoiled", "()Z"⟩
abbrev cX9_bookLength : ByteArray := prog_11_method_52_code
def yX9_bookLength : MethodName := ⟨RX9, "bookLength", "(I)I"⟩
abbrev cX9_emptyBook : ByteArray := prog_11_method_53_code
def yX9_emptyBook : MethodName := ⟨RX9, "emptyBook", "(I)V"⟩
abbrev cX9_join : ByteArray := prog_11_method_54_code
def yX9_join : MethodName := ⟨RX9, "join", "(I)I"⟩
abbrev cX9_take : ByteArray := prog_11_method_55_code
def yX9_take : MethodName := ⟨RX9, "take", "()I"⟩
abbrev cX9_book : ByteArray := prog_11_method_56_code
def yX9_book : MethodName := ⟨RX9, "book", "(II)I"⟩
abbrev cX9_drop : ByteArray := prog_11_method_57_code
def yX9_drop : MethodName := ⟨RX9, "drop", "(I)I"⟩
abbrev cX9_meeting : ByteArray := prog_11_method_58_code
def yX9_meeting : MethodName := ⟨RX9, "meeting", "(IIZ)I"⟩
abbrev cX9_findSeen : ByteArray := prog_11_method_59_code
def yX9_findSeen : MethodName := ⟨RX9, "findSeen", "(I)V"⟩
abbrev cX9_hasRowOf : ByteArray := prog_11_method_60_code
def yX9_hasRowOf : MethodName := ⟨RX9, "hasRowOf", "(II)Z"⟩
abbrev cX9_seals : ByteArray := prog_11_method_61_code
def yX9_seals : MethodName := ⟨RX9, "seals", "(II)Z"⟩
abbrev cX9_sealedGroup : ByteArray := prog_11_method_62_code
def yX9_sealedGroup : MethodName := ⟨RX9, "sealedGroup", "(I)I"⟩
abbrev cX9_unpack : ByteArray := prog_11_method_63_code
def yX9_unpack : MethodName := ⟨RX9, "unpack", "(IIIII)V"⟩
abbrev cX9_layDown : ByteArray := prog_11_method_64_code
def yX9_layDown : MethodName := ⟨RX9, "layDown", "(I)Z"⟩
abbrev cX9_open : ByteArray := prog_11_method_65_code
def yX9_open : MethodName := ⟨RX9, "open", "(II)I"⟩
abbrev cX9_why : ByteArray := prog_11_method_66_code
def yX9_why : MethodName := ⟨RX9, "why", "()I"⟩
abbrev cX9_isEntry : ByteArray := prog_11_method_67_code
def yX9_isEntry : MethodName := ⟨RX9, "isEntry", "(I)Z"⟩
abbrev cX9_entry : ByteArray := prog_11_method_68_code
def yX9_entry : MethodName := ⟨RX9, "entry", "(II)I"⟩
abbrev cX9_close : ByteArray := prog_11_method_69_code
def yX9_close : MethodName := ⟨RX9, "close", "(I)I"⟩
abbrev cX9_reopen : ByteArray := prog_11_method_70_code
def yX9_reopen : MethodName := ⟨RX9, "reopen", "(I)I"⟩
abbrev cX9_overlay : ByteArray := prog_11_method_71_code
def yX9_overlay : MethodName := ⟨RX9, "overlay", "(II)I"⟩
abbrev cX9_rowOf : ByteArray := prog_11_method_72_code
def yX9_rowOf : MethodName := ⟨RX9, "rowOf", "(II)I"⟩
abbrev cX9_looks : ByteArray := prog_11_method_73_code
def yX9_looks : MethodName := ⟨RX9, "looks", "(II)Z"⟩
abbrev cX9_ask : ByteArray := prog_11_method_74_code
def yX9_ask : MethodName := ⟨RX9, "ask", "(II)I"⟩
abbrev cX9_find : ByteArray := prog_11_method_75_code
def yX9_find : MethodName := ⟨RX9, "find", "(II)I"⟩
abbrev cX9_path : ByteArray := prog_11_method_76_code
def yX9_path : MethodName := ⟨RX9, "path", "(III)I"⟩
abbrev cX9_page : ByteArray := prog_11_method_77_code
def yX9_page : MethodName := ⟨RX9, "page", "(II)I"⟩
abbrev cX9_read : ByteArray := prog_11_method_78_code
def yX9_read : MethodName := ⟨RX9, "read", "(III)I"⟩
abbrev cX9_edition : ByteArray := prog_11_method_79_code
def yX9_edition : MethodName := ⟨RX9, "edition", "(II)I"⟩
abbrev cX9_needed : ByteArray := prog_11_method_80_code
def yX9_needed : MethodName := ⟨RX9, "needed", "(II)I"⟩
def RJ9 : String := "java/lang/Math"
abbrev cJ9_max_7cf53 : ByteArray := prog_12_method_65_code
def yJ9_max_7cf53 : MethodName := ⟨RJ9, "max", "(II)I"⟩
abbrev cJ9_min_7cf53 : ByteArray := prog_12_method_69_code
def yJ9_min_7cf53 : MethodName := ⟨RJ9, "min", "(II)I"⟩
def RL : String := "PackPostLaw"
abbrev cL_law : ByteArray := code
def yL_law : MethodName := ⟨RL, "law", "([I)Z"⟩
abbrev vwCl : List vw_C := [(RX0, TX0, 4), (RX1, TX1, 2), (RX2, TX2, 15), (RX3, TX3, 6), (RX4, TX4, 3), (RX5, TX5, 6), (RX6, TX6, 4), (RX7, TX7, 2), (RX8, TX8, 12), (RX9, TX9, 57)]
end
section
/-! ===== the light logic: a judgement over an abstract heap of numbered cells, made once of the kit's rows ===== -/
abbrev xC : Type := Nat × List Value
abbrev xS : Type := (Nat → Option xC) × Nat × Nat
abbrev xG : Type := Launch × (Nat → ClassId) × (Nat → Nat → Nat) × Nat
abbrev xE : Type := (Nat × Nat × Int32) × Nat
abbrev xM : Type := MethodName × ByteArray × Nat × Option FieldType × List (Nat × xE)
abbrev xL : Type := List (Option Value)
abbrev rf (G : xG) (k : Nat) : Value := .ref (G.2.2.2 + k)
def xisN : Cond → Bool
  | .fieldLinkNest .. => true
  | .methodLinkNest .. => true
  | _ => false
def xGw : List Cond := lw_tbl.filter goodWord
def xNw : List Cond := lw_tbl.filter xisN
theorem xGw_in {w : Cond} (h : w ∈ lw_tbl) (g : goodWord w = true) : w ∈ xGw := List.mem_filter.mpr ⟨h, g⟩
theorem xNw_in {w : Cond} (h : w ∈ lw_tbl) (g : xisN w = true) : w ∈ xNw := List.mem_filter.mpr ⟨h, g⟩
def xtag (t : Nat) : FieldType := match t with
  | 10 => .byte
  | 11 => .int
  | 12 => .boolean
  | 13 => .object "PackPost$Book"
  | 14 => .object "PackPost$ByteRow"
  | 15 => .object "PackPost$Entry"
  | _ => .array .int
def xtys (dC : Nat → ClassId) : List (ClassId × FieldType) := [(dC 10, xtag 10), (dC 11, xtag 11), (dC 12, xtag 12), (dC 13, xtag 13), (dC 14, xtag 14), (dC 15, xtag 15), (dC 16, xtag 16)]
def xOA (U : State) : Prop := (Cond.arrayOver (.array .int)).before #[] U = true
def xK (G : xG) (U : State) : Prop := va_K (G.2.1, G.2.2.1) vwCl (xtys G.2.1) U ∧ (∀ w ∈ xNw, va_Nw w U) ∧ (∀ C ∈ ["PackPost$Book", "PackPost$ByteRow", "PackPost$Entry"], va_AO C U) ∧ xOA U
theorem xOA.moved {u U : State} (hvm : u.vm.Alike U.vm) (h : xOA u) : xOA U := by
  obtain ⟨comp, c, k, h1, h2, h3, h4, h5⟩ := arrayOverA_spec h
  obtain ⟨k', hk', he⟩ := hvm.2.2 _ _ h3
  have hi : (U.vm.classes.findIdx? fun (x : Class) => match x.kind with | .array component _ => component == comp | _ => false) = some c := by
    have e1 := va_idx_bare U.vm comp
    have e2 := va_idx_bare u.vm comp
    have e3 : U.vm.bare = u.vm.bare := by first | exact hvm.bare_eq | exact hvm.bare_eq.symm
    rw [e3] at e1
    exact e1.symm.trans (e2.trans h2)
  have hkind : k'.kind = .array comp (.array .int) := by rw [he]; exact h4
  have f1 : U.vm.findClass (FieldType.array .int).toString = some comp := by rw [hvm.findClass]; exact h1
  have f2 : U.vm.findClass ("[" ++ (FieldType.array .int).toString) = some c := by rw [hvm.findClass]; exact h5
  unfold xOA Cond.before Cond.holds
  simp only [Cond.value]
  rw [f1, Option.bind_some]
  refine (congrArg (fun o : Option Nat => (o.bind (fun c => (U.vm.classes[c]?).map fun (k : Class) => match k.kind with | .array _ ty => decide (ty = FieldType.array .int) && decide (U.vm.findClass ("[" ++ (FieldType.array .int).toString) = some c) | _ => false) == some true)) hi).trans ?_
  simp [hk', hkind, f2]
theorem xK.moved {G : xG} {s U : State} (hW : s.WarmedH U.vm) (h : xK G s) : xK G U := by
  obtain ⟨h1, h2, h3, h4⟩ := h
  refine ⟨va_K.moved hW.alike h1, fun w hw => ?_, fun C hC => va_AO.moved hW.alike (h3 C hC), xOA.moved hW.alike h4⟩
  have hn := (List.mem_filter.mp hw).2
  have hz := h2 w hw
  cases w <;> first | exact absurd hn (by decide) | exact va_Nw.warmF hW hz | exact va_Nw.warmM hW hz | exact absurd hn (by simp [xisN])
theorem xK.same {G : xG} {s U : State} (hvm : s.vm = U.vm) (h : xK G s) : xK G U := by
  obtain ⟨h1, h2, h3, h4⟩ := h
  have hA : s.vm.Alike U.vm := by rw [hvm]; exact Vm.Alike.refl _
  refine ⟨va_K.moved hA h1, fun w hw => ?_, fun C hC => va_AO.moved hA (h3 C hC), xOA.moved hA h4⟩
  have hn := (List.mem_filter.mp hw).2
  refine va_Nw.same ?_ hvm (h2 w hw)
  cases w <;> first | rfl | exact absurd hn (by simp [xisN])
/-- an array's cell -/
def xar (G : xG) (t : Nat) (vs : List Value) : Cell := { cls := G.2.1 t, slots := vs.toArray, vm := .none }
def xat (G : xG) (H : Heap) (k : Nat) (c : xC) : Prop :=
  (∃ r : vw_C, vwCl[c.1]? = some r ∧ c.2.length = r.2.2 ∧ t_OB (G.2.2.2 + k) (G.2.1 c.1) r.2.2 (G.2.2.1 c.1) H (vp_V c.2)) ∨
  (10 ≤ c.1 ∧ c.1 ≤ 16 ∧ H[G.2.2.2 + k]? = some (xar G c.1 c.2))
def xrel (G : xG) (σ : xS) (H : Heap) : Prop := H.size = G.2.2.2 + σ.2.1 ∧ ∀ k c, σ.1 k = some c → xat G H k c
def xfr (G : xG) (s : State) (H : Heap) (locs : List Loc) : Prop := (∀ q : Nat, q < G.2.2.2 → H[q]? = s.heap[q]?) ∧ ∀ l ∈ locs, G.2.2.2 ≤ l.base
def xll (lo : xL) : List (Nat × Value) := (List.range lo.length).filterMap (fun i => (lo[i]?).join.map (fun v => (i, v)))
def xlo (ls : Array Slot) (n : Nat) (lo : xL) : Prop := lo.length = n ∧ lv_has ls n (xll lo) ∧ ∀ (i : Nat) (v : Value), lo[i]? = some (some v) → v.category = 1
theorem xll_mem {lo : xL} {q : Nat × Value} : q ∈ xll lo ↔ lo[q.1]? = some (some q.2) := by
  unfold xll
  rw [List.mem_filterMap]
  constructor
  · rintro ⟨i, -, hi⟩
    cases hl : lo[i]? with
    | none => rw [hl] at hi; simp at hi
    | some o =>
      cases o with
      | none => rw [hl] at hi; simp at hi
      | some v => rw [hl] at hi; simp at hi; subst hi; exact hl
  · intro h
    have hlt : q.1 < lo.length := (List.getElem?_eq_some_iff.mp h).1
    exact ⟨q.1, List.mem_range.mpr hlt, by rw [h]; rfl⟩
theorem xlo.get {ls : Array Slot} {n : Nat} {lo : xL} (h : xlo ls n lo) {i : Nat} {v : Value} (hi : lo[i]? = some (some v)) : ls[i]? = some (.val v) := h.2.1.2.2 (i, v) (xll_mem.mpr hi)
theorem xlo.set {ls : Array Slot} {n : Nat} {lo : xL} {i : Nat} {v : Value} (h : xlo ls n lo) (hi : i < n) (hc : v.category = 1) : ∃ ls', storeLocals ls i v = some ls' ∧ xlo ls' n (lo.set i (some v)) := by
  obtain ⟨ls', e, hs, hw, hq⟩ := lv_store1 h.2.1 hi hc
  refine ⟨ls', e, by rw [List.length_set]; exact h.1, ⟨hs, hw, fun q hm => ?_⟩, fun j u hj => ?_⟩
  · have hm' := xll_mem.mp hm
    rw [List.getElem?_set] at hm'
    by_cases hji : i = q.1
    · rw [if_pos hji] at hm'
      have hlt : i < lo.length := by rw [h.1]; exact hi
      rw [if_pos hlt] at hm'
      have e1 : v = q.2 := by simpa using hm'
      refine hq q (List.mem_cons.mpr (Or.inl ?_))
      rw [hji, e1]
    · rw [if_neg hji] at hm'
      refine hq q (List.mem_cons.mpr (Or.inr (List.mem_filter.mpr ⟨xll_mem.mpr hm', ?_⟩)))
      have h1 := h.2.2 _ _ hm'
      simp [h1, Ne.symm hji]
  · rw [List.getElem?_set] at hj
    by_cases hji : i = j
    · rw [if_pos hji] at hj
      split at hj
      · have e1 : v = u := by simpa using hj
        rw [← e1]; exact hc
      · simp at hj
    · rw [if_neg hji] at hj
      exact h.2.2 j u hj
theorem xlook {β : Type} {l : List (Nat × β)} {a : Nat} {b : β} (h : l.lookup a = some b) : (a, b) ∈ l := by
  induction l with
  | nil => simp at h
  | cons x l ih =>
    obtain ⟨x1, x2⟩ := x
    rw [List.lookup_cons] at h
    by_cases e : a = x1
    · subst e
      simp at h
      subst h
      exact List.mem_cons_self
    · rw [show (a == x1) = false by simpa using e] at h
      exact List.mem_cons_of_mem _ (ih h)
/-- an instruction of ours as the machine's -/
def xins (pc : Nat) (e : Nat × Nat × Int32) : Instr := match e with
  | (1, _, _) => .aconst_null
  | (2, _, v) => .iconst v.toInt
  | (16, _, v) => .bipush v.toInt
  | (17, _, v) => .sipush v.toInt
  | (18, a, _) => .ldc a
  | (21, a, _) => .iload a
  | (25, a, _) => .aload a
  | (26, a, _) => .iload_n (Fin.ofNat 4 a)
  | (42, a, _) => .aload_n (Fin.ofNat 4 a)
  | (46, _, _) => .iaload
  | (50, _, _) => .aaload
  | (51, _, _) => .baload
  | (54, a, _) => .istore a
  | (58, a, _) => .astore a
  | (59, a, _) => .istore_n (Fin.ofNat 4 a)
  | (75, a, _) => .astore_n (Fin.ofNat 4 a)
  | (79, _, _) => .iastore
  | (83, _, _) => .aastore
  | (84, _, _) => .bastore
  | (87, _, _) => .pop
  | (89, _, _) => .dup
  | (92, _, _) => .dup2
  | (96, _, _) => .iadd
  | (100, _, _) => .isub
  | (104, _, _) => .imul
  | (108, _, _) => .idiv
  | (112, _, _) => .irem
  | (120, _, _) => .ishl
  | (122, _, _) => .ishr
  | (124, _, _) => .iushr
  | (126, _, _) => .iand
  | (128, _, _) => .ior
  | (130, _, _) => .ixor
  | (132, a, v) => .iinc a v.toInt
  | (145, _, _) => .i2b
  | (153, a, _) => .ifCond .eq ((a : Int) - pc)
  | (154, a, _) => .ifCond .ne ((a : Int) - pc)
  | (155, a, _) => .ifCond .lt ((a : Int) - pc)
  | (156, a, _) => .ifCond .ge ((a : Int) - pc)
  | (157, a, _) => .ifCond .gt ((a : Int) - pc)
  | (158, a, _) => .ifCond .le ((a : Int) - pc)
  | (159, a, _) => .if_icmp .eq ((a : Int) - pc)
  | (160, a, _) => .if_icmp .ne ((a : Int) - pc)
  | (161, a, _) => .if_icmp .lt ((a : Int) - pc)
  | (162, a, _) => .if_icmp .ge ((a : Int) - pc)
  | (163, a, _) => .if_icmp .gt ((a : Int) - pc)
  | (164, a, _) => .if_icmp .le ((a : Int) - pc)
  | (167, a, _) => .goto ((a : Int) - pc)
  | (172, _, _) => .ireturn
  | (176, _, _) => .areturn
  | (177, _, _) => .return_
  | (180, a, _) => .getfield a
  | (181, a, _) => .putfield a
  | (182, a, _) => .invokevirtual a
  | (183, a, _) => .invokespecial a
  | (184, a, _) => .invokestatic a
  | (187, a, _) => .new a
  | (188, 4, _) => .newarray .boolean
  | (188, 8, _) => .newarray .byte
  | (188, _, _) => .newarray .int
  | (189, a, _) => .anewarray a
  | (190, _, _) => .arraylength
  | (197, a, _) => .multianewarray a 2
  | (198, a, _) => .ifnull ((a : Int) - pc)
  | (199, a, _) => .ifnonnull ((a : Int) - pc)
  | _ => .nop
def xval (e : Nat × Nat × Int32) : Bool := match e with
  | (16, _, v) => (Int8.ofInt v.toInt).toInt32 == v
  | (17, _, v) => (Int16.ofInt v.toInt).toInt32 == v
  | (26, a, _) => decide (a < 4)
  | (42, a, _) => decide (a < 4)
  | (59, a, _) => decide (a < 4)
  | (75, a, _) => decide (a < 4)
  | _ => true
def xtok (cc : ByteArray) (tb : List (Nat × xE)) : Prop := ∀ q ∈ tb, decode cc q.1 = .ok (xins q.1 q.2.1, q.2.2) ∧ xval q.2.1 = true
end
section
theorem xwords (ws : List Cond) (ps : List Nat) (h : ws = ps.filterMap (fun i => lw_tbl[i]?)) (g : ws.all goodWord = true) : ∀ w ∈ ws, w ∈ xGw := by
  intro w hw
  have hg := List.all_eq_true.mp g w hw
  rw [h] at hw
  obtain ⟨i, -, hi⟩ := List.mem_filterMap.mp hw
  exact xGw_in (List.mem_of_getElem? hi) hg
theorem uX0 : ∀ w ∈ u_ws RX0 TX0 4, w ∈ xGw := xwords _ [223, 225, 227, 229] (by decide +kernel) (by decide +kernel)
theorem uX1 : ∀ w ∈ u_ws RX1 TX1 2, w ∈ xGw := xwords _ [203, 205] (by decide +kernel) (by decide +kernel)
theorem uX2 : ∀ w ∈ u_ws RX2 TX2 15, w ∈ xGw := xwords _ [154, 156, 158, 160, 162, 164, 166, 168, 170, 172, 174, 176, 178, 180, 182] (by decide +kernel) (by decide +kernel)
theorem uX3 : ∀ w ∈ u_ws RX3 TX3 6, w ∈ xGw := xwords _ [794, 796, 798, 800, 802, 804] (by decide +kernel) (by decide +kernel)
theorem uX4 : ∀ w ∈ u_ws RX4 TX4 3, w ∈ xGw := xwords _ [308, 310, 312] (by decide +kernel) (by decide +kernel)
theorem uX5 : ∀ w ∈ u_ws RX5 TX5 6, w ∈ xGw := xwords _ [270, 272, 274, 276, 278, 280] (by decide +kernel) (by decide +kernel)
theorem uX6 : ∀ w ∈ u_ws RX6 TX6 4, w ∈ xGw := xwords _ [244, 246, 248, 250] (by decide +kernel) (by decide +kernel)
theorem uX7 : ∀ w ∈ u_ws RX7 TX7 2, w ∈ xGw := xwords _ [294, 296] (by decide +kernel) (by decide +kernel)
theorem uX8 : ∀ w ∈ u_ws RX8 TX8 12, w ∈ xGw := xwords _ [327, 329, 331, 333, 335, 337, 339, 341, 343, 345, 347, 349] (by decide +kernel) (by decide +kernel)
theorem uX9 : ∀ w ∈ u_ws RX9 TX9 57, w ∈ xGw := xwords _ [983, 985, 987, 989, 991, 993, 995, 997, 999, 1001, 1003, 1005, 1007, 1009, 1011, 1013, 1015, 1017, 1019, 1021, 1023, 1025, 1027, 1029, 1031, 1033, 1035, 1037, 1039, 1041, 1043, 1045, 1047, 1049, 1051, 1053, 1055, 1057, 1059, 1061, 1063, 1065, 1067, 1069, 1071, 1073, 1075, 1077, 1079, 1081, 1083, 1085, 1087, 1089, 1091, 1093, 1095] (by decide +kernel) (by decide +kernel)
def xTy (ci : Nat) : Nat → FieldType := match ci with
  | 0 => tyX0
  | 1 => tyX1
  | 2 => tyX2
  | 3 => tyX3
  | 4 => tyX4
  | 5 => tyX5
  | 6 => tyX6
  | 7 => tyX7
  | 8 => tyX8
  | _ => tyX9
theorem xty_ok {ci : Nat} {r : vw_C} (h : vwCl[ci]? = some r) : ∀ k, k < r.2.2 → parseFieldDescriptor (r.2.1 k).2.2.1 = some (xTy ci k) := by
  match ci, h with
  | 0, h => cases h; exact tyX0_ok
  | 1, h => cases h; exact tyX1_ok
  | 2, h => cases h; exact tyX2_ok
  | 3, h => cases h; exact tyX3_ok
  | 4, h => cases h; exact tyX4_ok
  | 5, h => cases h; exact tyX5_ok
  | 6, h => cases h; exact tyX6_ok
  | 7, h => cases h; exact tyX7_ok
  | 8, h => cases h; exact tyX8_ok
  | 9, h => cases h; exact tyX9_ok
  | n + 10, h => simp [vwCl] at h
theorem xnm_ok {ci : Nat} {r : vw_C} (h : vwCl[ci]? = some r) : ∀ a, a < r.2.2 → ∀ b, b < r.2.2 → a ≠ b → (r.2.1 a).2.1 ≠ (r.2.1 b).2.1 := by
  match ci, h with
  | 0, h => cases h; exact nmX0
  | 1, h => cases h; exact nmX1
  | 2, h => cases h; exact nmX2
  | 3, h => cases h; exact nmX3
  | 4, h => cases h; exact nmX4
  | 5, h => cases h; exact nmX5
  | 6, h => cases h; exact nmX6
  | 7, h => cases h; exact nmX7
  | 8, h => cases h; exact nmX8
  | 9, h => cases h; exact nmX9
  | n + 10, h => simp [vwCl] at h
theorem xus_ok {ci : Nat} {r : vw_C} (h : vwCl[ci]? = some r) : ∀ w ∈ u_ws r.1 r.2.1 r.2.2, w ∈ xGw := by
  match ci, h with
  | 0, h => cases h; exact uX0
  | 1, h => cases h; exact uX1
  | 2, h => cases h; exact uX2
  | 3, h => cases h; exact uX3
  | 4, h => cases h; exact uX4
  | 5, h => cases h; exact uX5
  | 6, h => cases h; exact uX6
  | 7, h => cases h; exact uX7
  | 8, h => cases h; exact uX8
  | 9, h => cases h; exact uX9
  | n + 10, h => simp [vwCl] at h
def xFin (ci k : Nat) : Bool := match vwCl[ci]? with
  | some r => (r.2.1 k).2.2.2
  | none => false
theorem xlen {ci : Nat} {r : vw_C} (h : vwCl[ci]? = some r) : ci < 10 := (List.getElem?_eq_some_iff.mp h).1
end
section
/-! ===== the judgement ===== -/
def xctx (G : xG) (d : Nat) (M : xM) (n0 s0 n1 s1 : Nat) (p : Program) (R : Room) (s : State) (m : MethodId) (args : Array Value) (meth : Method) (c : Code) : Prop :=
  p.tables.exec = Jvm.exec ∧ c.code = M.2.1 ∧ c.maxLocals = M.2.2.1 ∧ meth.sig.returnType = M.2.2.2.1 ∧ meth.locks = false ∧ s.vm.findClass M.1.cls = some m.cls ∧ meth.name = M.1.name ∧ (∀ w ∈ xGw, w.before args s = true) ∧ xK G s ∧ d ≤ R.frames ∧ 50 * d ≤ R.locals ∧ R.cells = n1 - n0 ∧ R.slots = s1 - s0 ∧ xtok M.2.1 M.2.2.2.2 ∧ G.2.2.2 ≤ s.heap.size
def xQc (G : xG) (v : Option Value) (σ' : xS) : Array Value → State → Outcome → State → Prop := fun _ st o t => o = .returned v ∧ xrel G σ' t.heap ∧ ∀ q : Nat, q < G.2.2.2 → t.heap[q]? = st.heap[q]?
def xwo (G : xG) (d : Nat) (M : xM) (pc : Nat) (lo : xL) (st : List Value) (σ : xS) (v : Option Value) (σ' : xS) : Prop :=
  σ.2.1 ≤ σ'.2.1 ∧ σ.2.2 ≤ σ'.2.2 ∧ ∀ (n0 s0 : Nat) (p : Program) (e : Env) (R : Room) (s : State) (m : MethodId) (args : Array Value) (below : List Frame) (meth : Method) (c : Code) (H : Heap) (locs : List Loc) (ls : Array Slot),
    xctx G d M n0 s0 σ'.2.1 σ'.2.2 p R s m args meth c → n0 ≤ σ.2.1 → s0 ≤ σ.2.2 → xrel G σ H → xfr G s H locs → xlo ls M.2.2.1 lo →
    W p G.1 e R s m args below meth c H locs (σ.2.1 - n0) (σ.2.2 - s0) (MQ below (xQc G v σ') args s (σ'.2.1 - n0) (σ'.2.2 - s0) (fun q => G.2.2.2 ≤ q)) (F0 m pc ls st)
def xw (G : xG) (d : Nat) (M : xM) (pc : Nat) (lo : xL) (st : List Value) (σ : xS) (Q : Option Value → xS → Prop) : Prop := ∃ v σ', Q v σ' ∧ xwo G d M pc lo st σ v σ'
/-- a method's contract: from the state σ with the arguments As it returns, Q holds -/
def xm (G : xG) (d : Nat) (M : xM) (As : List Value) (σ : xS) (Q : Option Value → xS → Prop) : Prop :=
  ∃ v σ', Q v σ' ∧ σ.2.1 ≤ σ'.2.1 ∧ σ.2.2 ≤ σ'.2.2 ∧ Met G.1 M.1 (.code M.1 M.2.1 M.2.2.1 M.2.2.2.1 :: xGw) { frames := d, cells := σ'.2.1 - σ.2.1, slots := σ'.2.2 - σ.2.2, locals := 50 * d }
    (va_Pc As (fun U => xrel G σ U.heap ∧ xK G U)) (xQc G v σ') (σ'.2.1 - σ.2.1) (σ'.2.2 - σ.2.2) (fun q => G.2.2.2 ≤ q)
theorem xm.mono {G : xG} {d : Nat} {M : xM} {As : List Value} {σ : xS} {Q Q' : Option Value → xS → Prop} (h : xm G d M As σ Q) (hq : ∀ v σ', Q v σ' → Q' v σ') : xm G d M As σ Q' := by
  obtain ⟨v, σ', h1, h2⟩ := h
  exact ⟨v, σ', hq _ _ h1, h2⟩
def xstep (G : xG) (M : xM) (σ : xS) (pc : Nat) (lo : xL) (st : List Value) (pc' : Nat) (lo' : xL) (st' : List Value) : Prop :=
  ∀ (p : Program) (e : Env) (R : Room) (s : State) (m : MethodId) (args : Array Value) (below : List Frame) (meth : Method) (c : Code) (H : Heap) (locs : List Loc) (cells slots : Nat) (Qw : State → Prop) (ls : Array Slot),
    p.tables.exec = Jvm.exec → c.code = M.2.1 → s.vm.findClass M.1.cls = some m.cls → (∀ w ∈ xGw, w.before args s = true) → xK G s → xtok M.2.1 M.2.2.2.2 → xrel G σ H → xlo ls M.2.2.1 lo →
    (∀ ls', xlo ls' M.2.2.1 lo' → W p G.1 e R s m args below meth c H locs cells slots Qw (F0 m pc' ls' st')) → W p G.1 e R s m args below meth c H locs cells slots Qw (F0 m pc ls st)
theorem xlo.put {ls ls' : Array Slot} {n : Nat} {lo : xL} {i : Nat} {v : Value} (h : xlo ls n lo) (hi : i < n) (hc : v.category = 1) (h' : lv_has ls' n ((i, v) :: (xll lo).filter (fun q => !(q.1 == i) && !(q.1 + 1 == i && q.2.category == 2)))) : xlo ls' n (lo.set i (some v)) := by
  obtain ⟨hs, hw, hq⟩ := h'
  refine ⟨by rw [List.length_set]; exact h.1, ⟨hs, hw, fun q hm => ?_⟩, fun j u hj => ?_⟩
  · have hm' := xll_mem.mp hm
    rw [List.getElem?_set] at hm'
    by_cases hji : i = q.1
    · rw [if_pos hji] at hm'
      have hlt : i < lo.length := by rw [h.1]; exact hi
      rw [if_pos hlt] at hm'
      have e1 : v = q.2 := by simpa using hm'
      refine hq q (List.mem_cons.mpr (Or.inl ?_))
      rw [hji, e1]
    · rw [if_neg hji] at hm'
      refine hq q (List.mem_cons.mpr (Or.inr (List.mem_filter.mpr ⟨xll_mem.mpr hm', ?_⟩)))
      have h1 := h.2.2 _ _ hm'
      simp [h1, Ne.symm hji]
  · rw [List.getElem?_set] at hj
    by_cases hji : i = j
    · rw [if_pos hji] at hj
      split at hj
      · have e1 : v = u := by simpa using hj
        rw [← e1]; exact hc
      · simp at hj
    · rw [if_neg hji] at hj
      exact h.2.2 j u hj
/-- one simple instruction, computed -/
def x1 (e : xE) (pc : Nat) (lo : xL) (st : List Value) : Option (Nat × xL × List Value) := match e with
  | ((1, _, _), 1) => some (pc + 1, lo, .null :: st)
  | ((2, _, v), 1) => some (pc + 1, lo, .int v :: st)
  | ((16, _, v), 2) => some (pc + 2, lo, .int v :: st)
  | ((17, _, v), 3) => some (pc + 3, lo, .int v :: st)
  | ((21, a, _), 2) => match lo[a]? with
    | some (some (.int x)) => some (pc + 2, lo, .int x :: st)
    | _ => none
  | ((26, a, _), 1) => match lo[a]? with
    | some (some (.int x)) => some (pc + 1, lo, .int x :: st)
    | _ => none
  | ((25, a, _), 2) => match lo[a]? with
    | some (some (.ref x)) => some (pc + 2, lo, .ref x :: st)
    | some (some .null) => some (pc + 2, lo, .null :: st)
    | _ => none
  | ((42, a, _), 1) => match lo[a]? with
    | some (some (.ref x)) => some (pc + 1, lo, .ref x :: st)
    | some (some .null) => some (pc + 1, lo, .null :: st)
    | _ => none
  | ((54, a, _), 2) => match st, lo[a]? with
    | .int x :: r, some _ => some (pc + 2, lo.set a (some (.int x)), r)
    | _, _ => none
  | ((59, a, _), 1) => match st, lo[a]? with
    | .int x :: r, some _ => some (pc + 1, lo.set a (some (.int x)), r)
    | _, _ => none
  | ((58, a, _), 2) => match st, lo[a]? with
    | .ref x :: r, some _ => some (pc + 2, lo.set a (some (.ref x)), r)
    | .null :: r, some _ => some (pc + 2, lo.set a (some .null), r)
    | _, _ => none
  | ((75, a, _), 1) => match st, lo[a]? with
    | .ref x :: r, some _ => some (pc + 1, lo.set a (some (.ref x)), r)
    | .null :: r, some _ => some (pc + 1, lo.set a (some .null), r)
    | _, _ => none
  | ((87, _, _), 1) => match st with
    | .int _ :: r => some (pc + 1, lo, r)
    | _ => none
  | ((89, _, _), 1) => match st with
    | .int x :: r => some (pc + 1, lo, .int x :: .int x :: r)
    | .ref x :: r => some (pc + 1, lo, .ref x :: .ref x :: r)
    | _ => none
  | ((92, _, _), 1) => match st with
    | .int x :: .ref y :: r => some (pc + 1, lo, .int x :: .ref y :: .int x :: .ref y :: r)
    | _ => none
  | ((96, _, _), 1) => match st with
    | .int y :: .int x :: r => some (pc + 1, lo, .int (x + y) :: r)
    | _ => none
  | ((100, _, _), 1) => match st with
    | .int y :: .int x :: r => some (pc + 1, lo, .int (x - y) :: r)
    | _ => none
  | ((104, _, _), 1) => match st with
    | .int y :: .int x :: r => some (pc + 1, lo, .int (x * y) :: r)
    | _ => none
  | ((120, _, _), 1) => match st with
    | .int y :: .int x :: r => some (pc + 1, lo, .int (x <<< (y &&& 31)) :: r)
    | _ => none
  | ((122, _, _), 1) => match st with
    | .int y :: .int x :: r => some (pc + 1, lo, .int (x >>> (y &&& 31)) :: r)
    | _ => none
  | ((124, _, _), 1) => match st with
    | .int y :: .int x :: r => some (pc + 1, lo, .int (x.toUInt32 >>> (y.toUInt32 &&& Int32.toUInt32 31)).toInt32 :: r)
    | _ => none
  | ((126, _, _), 1) => match st with
    | .int y :: .int x :: r => some (pc + 1, lo, .int (x &&& y) :: r)
    | _ => none
  | ((128, _, _), 1) => match st with
    | .int y :: .int x :: r => some (pc + 1, lo, .int (x ||| y) :: r)
    | _ => none
  | ((130, _, _), 1) => match st with
    | .int y :: .int x :: r => some (pc + 1, lo, .int (x ^^^ y) :: r)
    | _ => none
  | ((132, a, v), 3) => match lo[a]? with
    | some (some (.int x)) => some (pc + 3, lo.set a (some (.int (x + v))), st)
    | _ => none
  | ((145, _, _), 1) => match st with
    | .int x :: r => some (pc + 1, lo, .int x.toInt8.toInt32 :: r)
    | _ => none
  | ((167, a, _), 3) => some (a, lo, st)
  | _ => none
section X1
variable {G : xG} {d : Nat} {M : xM} {pc : Nat} {lo : xL} {st : List Value} {σ : xS} {Q : Option Value → xS → Prop}
theorem xlt {lo : xL} {a : Nat} {o : Option Value} (h : lo[a]? = some o) : a < lo.length := (List.getElem?_eq_some_iff.mp h).1
theorem xfin4 {a : Nat} (h : a < 4) : ((Fin.ofNat 4 a : Fin 4) : Nat) = a := by simp [Fin.ofNat]; omega
set_option maxHeartbeats 4000000 in
theorem x1_step {e : xE} {pc' : Nat} {lo' : xL} {st' : List Value} (hd : M.2.2.2.2.lookup pc = some e) (h : x1 e pc lo st = some (pc', lo', st')) : xstep G M σ pc lo st pc' lo' st' := by
  intro p ev R s m args below meth c H locs cells slots Qw ls hx hb ho hts hK ht hr hl k
  obtain ⟨hdec, hval⟩ := ht _ (xlook hd)
  dsimp only at hdec hval
  have hn := hl.1
  unfold x1 at h
  split at h
  · cases h; exact lv_null hx hb hdec (k ls hl)
  · cases h; exact lv_iconst hx hb hdec (by simp) (k ls hl)
  · cases h; exact lv_bipush hx hb hdec (by simpa [xval] using hval) (k ls hl)
  · cases h; exact lv_sipush hx hb hdec (by simpa [xval] using hval) (k ls hl)
  · split at h
    next x hlo => cases h; exact lv_iload hx hb hdec (hl.get hlo) (k ls hl)
    next => cases h
  · split at h
    next x hlo => cases h; exact lv_iload_n hx hb hdec (xfin4 (by simpa [xval] using hval)) (hl.get hlo) (k ls hl)
    next => cases h
  · split at h
    next x hlo => cases h; exact lv_aload hx hb hdec (hl.get hlo) (k ls hl)
    next hlo => cases h; exact lv_aloadN hx hb hdec (hl.get hlo) (k ls hl)
    next => cases h
  · split at h
    next x hlo => cases h; exact lv_aload_n hx hb hdec (xfin4 (by simpa [xval] using hval)) (hl.get hlo) (k ls hl)
    next hlo => cases h; exact lv_aload_nN hx hb hdec (xfin4 (by simpa [xval] using hval)) (hl.get hlo) (k ls hl)
    next => cases h
  · split at h
    next x r o hlo => cases h; exact lv_istore hx hb hdec hl.2.1 (by rw [← hn]; exact xlt hlo) rfl (fun ls' h' => k ls' (hl.put (by rw [← hn]; exact xlt hlo) rfl h'))
    next => cases h
  · split at h
    next x r o hlo => cases h; exact lv_istore_n hx hb hdec (xfin4 (by simpa [xval] using hval)) hl.2.1 (by rw [← hn]; exact xlt hlo) rfl (fun ls' h' => k ls' (hl.put (by rw [← hn]; exact xlt hlo) rfl h'))
    next => cases h
  · split at h
    next x r o hlo => cases h; exact lv_astore hx hb hdec hl.2.1 (by rw [← hn]; exact xlt hlo) rfl (fun ls' h' => k ls' (hl.put (by rw [← hn]; exact xlt hlo) rfl h'))
    next r o hlo => cases h; exact lv_astoreN hx hb hdec hl.2.1 (by rw [← hn]; exact xlt hlo) rfl (fun ls' h' => k ls' (hl.put (by rw [← hn]; exact xlt hlo) rfl h'))
    next => cases h
  · split at h
    next x r o hlo => cases h; exact lv_astore_n hx hb hdec (xfin4 (by simpa [xval] using hval)) hl.2.1 (by rw [← hn]; exact xlt hlo) rfl (fun ls' h' => k ls' (hl.put (by rw [← hn]; exact xlt hlo) rfl h'))
    next r o hlo => cases h; exact lv_astore_nN hx hb hdec (xfin4 (by simpa [xval] using hval)) hl.2.1 (by rw [← hn]; exact xlt hlo) rfl (fun ls' h' => k ls' (hl.put (by rw [← hn]; exact xlt hlo) rfl h'))
    next => cases h
  · split at h
    next => cases h; exact lv_pop hx hb hdec rfl (k ls hl)
    next => cases h
  · split at h
    next => cases h; exact lv_dup hx hb hdec rfl (k ls hl)
    next => cases h; exact lv_dup hx hb hdec rfl (k ls hl)
    next => cases h
  · split at h
    next => cases h; exact lv_dup2_11 hx hb hdec rfl rfl (k ls hl)
    next => cases h
  · split at h
    next => cases h; exact lv_iadd hx hb hdec (k ls hl)
    next => cases h
  · split at h
    next => cases h; exact lv_isub hx hb hdec (k ls hl)
    next => cases h
  · split at h
    next => cases h; exact lv_imul hx hb hdec (k ls hl)
    next => cases h
  · split at h
    next => cases h; exact lv_ishl hx hb hdec (k ls hl)
    next => cases h
  · split at h
    next => cases h; exact lv_ishr hx hb hdec (k ls hl)
    next => cases h
  · split at h
    next => cases h; exact lv_iushr hx hb hdec rfl (k ls hl)
    next => cases h
  · split at h
    next => cases h; exact lv_iand hx hb hdec (k ls hl)
    next => cases h
  · split at h
    next => cases h; exact lv_ior hx hb hdec (k ls hl)
    next => cases h
  · split at h
    next => cases h; exact lv_ixor hx hb hdec (k ls hl)
    next => cases h
  · split at h
    next x hlo =>
      cases h
      obtain ⟨kk, hkk⟩ := List.getElem?_of_mem (xll_mem (q := (_, _)).mpr hlo)
      exact lv_iinc hx hb hdec hl.2.1 hkk (by simp) (by rw [← hn]; exact xlt hlo) rfl (fun ls' h' => k ls' (hl.put (by rw [← hn]; exact xlt hlo) rfl h'))
    next => cases h
  · split at h
    next => cases h; exact lv_i2b hx hb hdec rfl (k ls hl)
    next => cases h
  · cases h; exact lv_goto hx hb hdec (by omega) (k ls hl)
  · cases h
theorem xw.of_step {pc' : Nat} {lo' : xL} {st' : List Value} (hs : xstep G M σ pc lo st pc' lo' st') (h : xw G d M pc' lo' st' σ Q) : xw G d M pc lo st σ Q := by
  obtain ⟨v, σ', hq, h1, h2, k⟩ := h
  refine ⟨v, σ', hq, h1, h2, fun n0 s0 p e R s m args below meth c H locs ls C a1 a2 hr hf hl => ?_⟩
  exact hs p e R s m args below meth c H locs _ _ _ ls C.1 C.2.1 C.2.2.2.2.2.1 C.2.2.2.2.2.2.2.1 C.2.2.2.2.2.2.2.2.1 C.2.2.2.2.2.2.2.2.2.2.2.2.2.1 hr hl (fun ls' hl' => k n0 s0 p e R s m args below meth c H locs ls' C a1 a2 hr hf hl')
/-- as many simple instructions as come, at most n -/
def xrun (tb : List (Nat × xE)) : Nat → Nat → xL → List Value → Nat × xL × List Value
  | 0, pc, lo, st => (pc, lo, st)
  | n + 1, pc, lo, st => match tb.lookup pc with
    | none => (pc, lo, st)
    | some e => match x1 e pc lo st with
      | none => (pc, lo, st)
      | some (pc', lo', st') => xrun tb n pc' lo' st'
theorem xgo (n : Nat) {pc' : Nat} {lo' : xL} {st' : List Value} (h : xrun M.2.2.2.2 n pc lo st = (pc', lo', st')) (k : xw G d M pc' lo' st' σ Q) : xw G d M pc lo st σ Q := by
  induction n generalizing pc lo st with
  | zero => cases h; exact k
  | succ n ih =>
    unfold xrun at h
    split at h
    next => cases h; exact k
    next e he =>
      split at h
      next => cases h; exact k
      next q1 q2 q3 h1 => exact xw.of_step (x1_step he h1) (ih h)
end X1
end
section
section X2
variable {G : xG} {d : Nat} {M : xM} {pc : Nat} {lo : xL} {st : List Value} {σ : xS} {Q : Option Value → xS → Prop}
theorem xw.mono {Q' : Option Value → xS → Prop} (h : xw G d M pc lo st σ Q) (hq : ∀ v σ', Q v σ' → Q' v σ') : xw G d M pc lo st σ Q' := by
  obtain ⟨v, σ', h1, h2⟩ := h
  exact ⟨v, σ', hq _ _ h1, h2⟩
theorem xi_ifeq {x : Int32} {a : Nat} (hd : M.2.2.2.2.lookup pc = some ((153, a, 0), 3)) (kt : x = 0 → xw G d M a lo st σ Q) (kf : ¬ x = 0 → xw G d M (pc + 3) lo st σ Q) : xw G d M pc lo (.int x :: st) σ Q := by
  by_cases hP : x = 0
  · exact xw.of_step (fun p e R s m args below meth c H locs cells slots Qw ls hx hb ho hts hK ht hr hl k => lv_if_eq (tgt := a) hx hb (ht _ (xlook hd)).1 (by omega) (fun _ => k ls hl) (fun h => absurd hP h)) (kt hP)
  · exact xw.of_step (fun p e R s m args below meth c H locs cells slots Qw ls hx hb ho hts hK ht hr hl k => lv_if_eq (tgt := a) hx hb (ht _ (xlook hd)).1 (by omega) (fun h => absurd h hP) (fun _ => k ls hl)) (kf hP)
theorem xi_ifne {x : Int32} {a : Nat} (hd : M.2.2.2.2.lookup pc = some ((154, a, 0), 3)) (kt : ¬ x = 0 → xw G d M a lo st σ Q) (kf : x = 0 → xw G d M (pc + 3) lo st σ Q) : xw G d M pc lo (.int x :: st) σ Q := by
  by_cases hP : ¬ x = 0
  · exact xw.of_step (fun p e R s m args below meth c H locs cells slots Qw ls hx hb ho hts hK ht hr hl k => lv_if_ne (tgt := a) hx hb (ht _ (xlook hd)).1 (by omega) (fun _ => k ls hl) (fun h => absurd h hP)) (kt hP)
  · exact xw.of_step (fun p e R s m args below meth c H locs cells slots Qw ls hx hb ho hts hK ht hr hl k => lv_if_ne (tgt := a) hx hb (ht _ (xlook hd)).1 (by omega) (fun h => absurd (Classical.not_not.mp hP) h) (fun _ => k ls hl)) (kf (Classical.not_not.mp hP))
theorem xi_iflt {x : Int32} {a : Nat} (hd : M.2.2.2.2.lookup pc = some ((155, a, 0), 3)) (kt : x < 0 → xw G d M a lo st σ Q) (kf : ¬ x < 0 → xw G d M (pc + 3) lo st σ Q) : xw G d M pc lo (.int x :: st) σ Q := by
  by_cases hP : x < 0
  · exact xw.of_step (fun p e R s m args below meth c H locs cells slots Qw ls hx hb ho hts hK ht hr hl k => lv_if_lt (tgt := a) hx hb (ht _ (xlook hd)).1 (by omega) (fun _ => k ls hl) (fun h => absurd hP h)) (kt hP)
  · exact xw.of_step (fun p e R s m args below meth c H locs cells slots Qw ls hx hb ho hts hK ht hr hl k => lv_if_lt (tgt := a) hx hb (ht _ (xlook hd)).1 (by omega) (fun h => absurd h hP) (fun _ => k ls hl)) (kf hP)
theorem xi_ifge {x : Int32} {a : Nat} (hd : M.2.2.2.2.lookup pc = some ((156, a, 0), 3)) (kt : 0 ≤ x → xw G d M a lo st σ Q) (kf : ¬ 0 ≤ x → xw G d M (pc + 3) lo st σ Q) : xw G d M pc lo (.int x :: st) σ Q := by
  by_cases hP : 0 ≤ x
  · exact xw.of_step (fun p e R s m args below meth c H locs cells slots Qw ls hx hb ho hts hK ht hr hl k => lv_if_ge (tgt := a) hx hb (ht _ (xlook hd)).1 (by omega) (fun _ => k ls hl) (fun h => absurd hP h)) (kt hP)
  · exact xw.of_step (fun p e R s m args below meth c H locs cells slots Qw ls hx hb ho hts hK ht hr hl k => lv_if_ge (tgt := a) hx hb (ht _ (xlook hd)).1 (by omega) (fun h => absurd h hP) (fun _ => k ls hl)) (kf hP)
theorem xi_ifgt {x : Int32} {a : Nat} (hd : M.2.2.2.2.lookup pc = some ((157, a, 0), 3)) (kt : 0 < x → xw G d M a lo st σ Q) (kf : ¬ 0 < x → xw G d M (pc + 3) lo st σ Q) : xw G d M pc lo (.int x :: st) σ Q := by
  by_cases hP : 0 < x
  · exact xw.of_step (fun p e R s m args below meth c H locs cells slots Qw ls hx hb ho hts hK ht hr hl k => lv_if_gt (tgt := a) hx hb (ht _ (xlook hd)).1 (by omega) (fun _ => k ls hl) (fun h => absurd hP h)) (kt hP)
  · exact xw.of_step (fun p e R s m args below meth c H locs cells slots Qw ls hx hb ho hts hK ht hr hl k => lv_if_gt (tgt := a) hx hb (ht _ (xlook hd)).1 (by omega) (fun h => absurd h hP) (fun _ => k ls hl)) (kf hP)
theorem xi_ifle {x : Int32} {a : Nat} (hd : M.2.2.2.2.lookup pc = some ((158, a, 0), 3)) (kt : x ≤ 0 → xw G d M a lo st σ Q) (kf : ¬ x ≤ 0 → xw G d M (pc + 3) lo st σ Q) : xw G d M pc lo (.int x :: st) σ Q := by
  by_cases hP : x ≤ 0
  · exact xw.of_step (fun p e R s m args below meth c H locs cells slots Qw ls hx hb ho hts hK ht hr hl k => lv_if_le (tgt := a) hx hb (ht _ (xlook hd)).1 (by omega) (fun _ => k ls hl) (fun h => absurd hP h)) (kt hP)
  · exact xw.of_step (fun p e R s m args below meth c H locs cells slots Qw ls hx hb ho hts hK ht hr hl k => lv_if_le (tgt := a) hx hb (ht _ (xlook hd)).1 (by omega) (fun h => absurd h hP) (fun _ => k ls hl)) (kf hP)
theorem xi_icmpeq {x y : Int32} {a : Nat} (hd : M.2.2.2.2.lookup pc = some ((159, a, 0), 3)) (kt : x = y → xw G d M a lo st σ Q) (kf : ¬ x = y → xw G d M (pc + 3) lo st σ Q) : xw G d M pc lo (.int y :: .int x :: st) σ Q := by
  by_cases hP : x = y
  · exact xw.of_step (fun p e R s m args below meth c H locs cells slots Qw ls hx hb ho hts hK ht hr hl k => lv_icmp_eq (tgt := a) hx hb (ht _ (xlook hd)).1 (by omega) (fun _ => k ls hl) (fun h => absurd hP h)) (kt hP)
  · exact xw.of_step (fun p e R s m args below meth c H locs cells slots Qw ls hx hb ho hts hK ht hr hl k => lv_icmp_eq (tgt := a) hx hb (ht _ (xlook hd)).1 (by omega) (fun h => absurd h hP) (fun _ => k ls hl)) (kf hP)
theorem xi_icmpne {x y : Int32} {a : Nat} (hd : M.2.2.2.2.lookup pc = some ((160, a, 0), 3)) (kt : ¬ x = y → xw G d M a lo st σ Q) (kf : x = y → xw G d M (pc + 3) lo st σ Q) : xw G d M pc lo (.int y :: .int x :: st) σ Q := by
  by_cases hP : ¬ x = y
  · exact xw.of_step (fun p e R s m args below meth c H locs cells slots Qw ls hx hb ho hts hK ht hr hl k => lv_icmp_ne (tgt := a) hx hb (ht _ (xlook hd)).1 (by omega) (fun _ => k ls hl) (fun h => absurd h hP)) (kt hP)
  · exact xw.of_step (fun p e R s m args below meth c H locs cells slots Qw ls hx hb ho hts hK ht hr hl k => lv_icmp_ne (tgt := a) hx hb (ht _ (xlook hd)).1 (by omega) (fun h => absurd (Classical.not_not.mp hP) h) (fun _ => k ls hl)) (kf (Classical.not_not.mp hP))
theorem xi_icmplt {x y : Int32} {a : Nat} (hd : M.2.2.2.2.lookup pc = some ((161, a, 0), 3)) (kt : x < y → xw G d M a lo st σ Q) (kf : ¬ x < y → xw G d M (pc + 3) lo st σ Q) : xw G d M pc lo (.int y :: .int x :: st) σ Q := by
  by_cases hP : x < y
  · exact xw.of_step (fun p e R s m args below meth c H locs cells slots Qw ls hx hb ho hts hK ht hr hl k => lv_icmp_lt (tgt := a) hx hb (ht _ (xlook hd)).1 (by omega) (fun _ => k ls hl) (fun h => absurd hP h)) (kt hP)
  · exact xw.of_step (fun p e R s m args below meth c H locs cells slots Qw ls hx hb ho hts hK ht hr hl k => lv_icmp_lt (tgt := a) hx hb (ht _ (xlook hd)).1 (by omega) (fun h => absurd h hP) (fun _ => k ls hl)) (kf hP)
theorem xi_icmpge {x y : Int32} {a : Nat} (hd : M.2.2.2.2.lookup pc = some ((162, a, 0), 3)) (kt : y ≤ x → xw G d M a lo st σ Q) (kf : ¬ y ≤ x → xw G d M (pc + 3) lo st σ Q) : xw G d M pc lo (.int y :: .int x :: st) σ Q := by
  by_cases hP : y ≤ x
  · exact xw.of_step (fun p e R s m args below meth c H locs cells slots Qw ls hx hb ho hts hK ht hr hl k => lv_icmp_ge (tgt := a) hx hb (ht _ (xlook hd)).1 (by omega) (fun _ => k ls hl) (fun h => absurd hP h)) (kt hP)
  · exact xw.of_step (fun p e R s m args below meth c H locs cells slots Qw ls hx hb ho hts hK ht hr hl k => lv_icmp_ge (tgt := a) hx hb (ht _ (xlook hd)).1 (by omega) (fun h => absurd h hP) (fun _ => k ls hl)) (kf hP)
theorem xi_icmpgt {x y : Int32} {a : Nat} (hd : M.2.2.2.2.lookup pc = some ((163, a, 0), 3)) (kt : y < x → xw G d M a lo st σ Q) (kf : ¬ y < x → xw G d M (pc + 3) lo st σ Q) : xw G d M pc lo (.int y :: .int x :: st) σ Q := by
  by_cases hP : y < x
  · exact xw.of_step (fun p e R s m args below meth c H locs cells slots Qw ls hx hb ho hts hK ht hr hl k => lv_icmp_gt (tgt := a) hx hb (ht _ (xlook hd)).1 (by omega) (fun _ => k ls hl) (fun h => absurd hP h)) (kt hP)
  · exact xw.of_step (fun p e R s m args below meth c H locs cells slots Qw ls hx hb ho hts hK ht hr hl k => lv_icmp_gt (tgt := a) hx hb (ht _ (xlook hd)).1 (by omega) (fun h => absurd h hP) (fun _ => k ls hl)) (kf hP)
theorem xi_icmple {x y : Int32} {a : Nat} (hd : M.2.2.2.2.lookup pc = some ((164, a, 0), 3)) (kt : x ≤ y → xw G d M a lo st σ Q) (kf : ¬ x ≤ y → xw G d M (pc + 3) lo st σ Q) : xw G d M pc lo (.int y :: .int x :: st) σ Q := by
  by_cases hP : x ≤ y
  · exact xw.of_step (fun p e R s m args below meth c H locs cells slots Qw ls hx hb ho hts hK ht hr hl k => lv_icmp_le (tgt := a) hx hb (ht _ (xlook hd)).1 (by omega) (fun _ => k ls hl) (fun h => absurd hP h)) (kt hP)
  · exact xw.of_step (fun p e R s m args below meth c H locs cells slots Qw ls hx hb ho hts hK ht hr hl k => lv_icmp_le (tgt := a) hx hb (ht _ (xlook hd)).1 (by omega) (fun h => absurd h hP) (fun _ => k ls hl)) (kf hP)
theorem xi_ifnull_r {x a : Nat} (hd : M.2.2.2.2.lookup pc = some ((198, a, 0), 3)) (k : xw G d M (pc + 3) lo st σ Q) : xw G d M pc lo (.ref x :: st) σ Q :=
  xw.of_step (fun p e R s m args below meth c H locs cells slots Qw ls hx hb ho hts hK ht hr hl k => lv_ifnull hx hb (ht _ (xlook hd)).1 (k ls hl)) k
theorem xi_ifnull_n {a : Nat} (hd : M.2.2.2.2.lookup pc = some ((198, a, 0), 3)) (k : xw G d M a lo st σ Q) : xw G d M pc lo (.null :: st) σ Q :=
  xw.of_step (fun p e R s m args below meth c H locs cells slots Qw ls hx hb ho hts hK ht hr hl k => lv_ifnullN hx hb (ht _ (xlook hd)).1 (by omega) (k ls hl)) k
theorem xi_ifnonnull_r {x a : Nat} (hd : M.2.2.2.2.lookup pc = some ((199, a, 0), 3)) (k : xw G d M a lo st σ Q) : xw G d M pc lo (.ref x :: st) σ Q :=
  xw.of_step (fun p e R s m args below meth c H locs cells slots Qw ls hx hb ho hts hK ht hr hl k => lv_ifnonnull hx hb (ht _ (xlook hd)).1 (by omega) (k ls hl)) k
theorem xi_ifnonnull_n {a : Nat} (hd : M.2.2.2.2.lookup pc = some ((199, a, 0), 3)) (k : xw G d M (pc + 3) lo st σ Q) : xw G d M pc lo (.null :: st) σ Q :=
  xw.of_step (fun p e R s m args below meth c H locs cells slots Qw ls hx hb ho hts hK ht hr hl k => lv_ifnonnullN hx hb (ht _ (xlook hd)).1 (k ls hl)) k
theorem xi_idiv {x y : Int32} (hd : M.2.2.2.2.lookup pc = some ((108, 0, 0), 1)) (hne : ¬ y = 0) (k : xw G d M (pc + 1) lo (.int (x / y) :: st) σ Q) : xw G d M pc lo (.int y :: .int x :: st) σ Q :=
  xw.of_step (fun p e R s m args below meth c H locs cells slots Qw ls hx hb ho hts hK ht hr hl k => lv_idiv hx hb (ht _ (xlook hd)).1 hne (k ls hl)) k
theorem xi_irem {x y : Int32} (hd : M.2.2.2.2.lookup pc = some ((112, 0, 0), 1)) (hne : ¬ y = 0) (k : xw G d M (pc + 1) lo (.int (x - x / y * y) :: st) σ Q) : xw G d M pc lo (.int y :: .int x :: st) σ Q :=
  xw.of_step (fun p e R s m args below meth c H locs cells slots Qw ls hx hb ho hts hK ht hr hl k => lv_irem hx hb (ht _ (xlook hd)).1 hne (k ls hl)) k
theorem xi_ldc {a : Nat} {v : Int32} (hd : M.2.2.2.2.lookup pc = some ((18, a, v), 2)) (hw : Cond.constant M.1.cls a v ∈ xGw) (k : xw G d M (pc + 2) lo (.int v :: st) σ Q) : xw G d M pc lo st σ Q :=
  xw.of_step (fun p e R s m args below meth c H locs cells slots Qw ls hx hb ho hts hK ht hr hl k => lv_ldc hx hb ho (hts _ hw) (ht _ (xlook hd)).1 (k ls hl)) k
theorem xi_iincw {a : Nat} {v x : Int32} (hd : M.2.2.2.2.lookup pc = some ((132, a, v), 6)) (hlo : lo[a]? = some (some (.int x))) (k : xw G d M (pc + 6) (lo.set a (some (.int (x + v)))) st σ Q) : xw G d M pc lo st σ Q :=
  xw.of_step (fun p e R s m args below meth c H locs cells slots Qw ls hx hb ho hts hK ht hr hl k => by
    have hn := hl.1
    obtain ⟨kk, hkk⟩ := List.getElem?_of_mem (xll_mem (q := (_, _)).mpr hlo)
    exact lv_iincW hx hb (ht _ (xlook hd)).1 hl.2.1 hkk (by simp) (by rw [← hn]; exact xlt hlo) rfl (fun ls' h' => k ls' (hl.put (by rw [← hn]; exact xlt hlo) rfl h'))) k
theorem xi_tableIn {dflt lw hi : Int} {offs : Array Int} {len : Nat} {x : Int32} {off : Int} {tgt : Nat} (hd : decode M.2.1 pc = .ok (.tableswitch dflt lw hi offs, len)) (h1 : ¬ x.toInt < lw) (h2 : ¬ hi < x.toInt) (hof : offs[(x.toInt - lw).toNat]? = some off) (htg : (pc : Int) + off = (tgt : Int)) (k : xw G d M tgt lo st σ Q) : xw G d M pc lo (.int x :: st) σ Q :=
  xw.of_step (fun p e R s m args below meth c H locs cells slots Qw ls hx hb ho hts hK ht hr hl k => lv_tableIn hx hb hd h1 h2 hof htg (k ls hl)) k
theorem xi_tableOut {dflt lw hi : Int} {offs : Array Int} {len : Nat} {x : Int32} {tgt : Nat} (hd : decode M.2.1 pc = .ok (.tableswitch dflt lw hi offs, len)) (h : x.toInt < lw ∨ hi < x.toInt) (htg : (pc : Int) + dflt = (tgt : Int)) (k : xw G d M tgt lo st σ Q) : xw G d M pc lo (.int x :: st) σ Q :=
  xw.of_step (fun p e R s m args below meth c H locs cells slots Qw ls hx hb ho hts hK ht hr hl k => lv_tableOut hx hb hd h htg (k ls hl)) k
theorem xi_lookup {dflt : Int} {ps : Array (Int × Int)} {len : Nat} {x : Int32} {off : Int} {tgt : Nat} (hd : decode M.2.1 pc = .ok (.lookupswitch dflt ps, len)) (hp : (ps.toList.zip (ps.toList.drop 1)).all (fun (a, next) => a.1 < next.1) = true) (hof : Op.lookupswitch.offset ps.toList dflt x.toInt = off) (htg : (pc : Int) + off = (tgt : Int)) (k : xw G d M tgt lo st σ Q) : xw G d M pc lo (.int x :: st) σ Q :=
  xw.of_step (fun p e R s m args below meth c H locs cells slots Qw ls hx hb ho hts hK ht hr hl k => lv_lookup hx hb hd hp hof htg (k ls hl)) k
theorem xi_ret_i (hd : M.2.2.2.2.lookup pc = some ((172, 0, 0), 1)) {x : Int32} {ty : FieldType} (hty : M.2.2.2.1 = some ty) (hn : narrow ty (.int x) = .int x) (hq : Q (some (.int x)) σ) : xw G d M pc lo [.int x] σ Q := by
  refine ⟨_, σ, hq, Nat.le_refl _, Nat.le_refl _, fun n0 s0 p e R s m args below meth c H locs ls C a1 a2 hr hf hl => ?_⟩
  obtain ⟨hx, hb, -, hre, hlk, -, -, -, -, -, -, -, -, ht, -⟩ := C
  exact W.zret hx hb (hre.trans hty) hn (fun t ht2 hW => ⟨rfl, by rw [ht2]; exact hr, fun q hq2 => by rw [ht2]; exact hf.1 q hq2⟩) hf.2 (ht _ (xlook hd)).1 hlk
theorem xi_ret_v (hd : M.2.2.2.2.lookup pc = some ((177, 0, 0), 1)) (hty : M.2.2.2.1 = none) (hq : Q (none) σ) : xw G d M pc lo [] σ Q := by
  refine ⟨_, σ, hq, Nat.le_refl _, Nat.le_refl _, fun n0 s0 p e R s m args below meth c H locs ls C a1 a2 hr hf hl => ?_⟩
  obtain ⟨hx, hb, -, hre, hlk, -, -, -, -, -, -, -, -, ht, -⟩ := C
  exact W.vret hx hb (hre.trans hty) (fun t ht2 hW => ⟨rfl, by rw [ht2]; exact hr, fun q hq2 => by rw [ht2]; exact hf.1 q hq2⟩) hf.2 (ht _ (xlook hd)).1 hlk
theorem xi_ret_a (hd : M.2.2.2.2.lookup pc = some ((176, 0, 0), 1)) {v : Value} {ty : FieldType} (hty : M.2.2.2.1 = some ty) (hn : (∃ n, ty = .object n) ∨ ∃ t, ty = .array t) (hv : v = .null ∨ ∃ a, v = .ref a) (hq : Q (some v) σ) : xw G d M pc lo [v] σ Q := by
  refine ⟨_, σ, hq, Nat.le_refl _, Nat.le_refl _, fun n0 s0 p e R s m args below meth c H locs ls C a1 a2 hr hf hl => ?_⟩
  obtain ⟨hx, hb, -, hre, hlk, -, -, -, -, -, -, -, -, ht, -⟩ := C
  exact W.aret hx hb (hre.trans hty) hn hv (fun t ht2 hW => ⟨rfl, by rw [ht2]; exact hr, fun q hq2 => by rw [ht2]; exact hf.1 q hq2⟩) hf.2 (ht _ (xlook hd)).1 hlk
end X2
end
section
/-! ===== heap rules of the light logic ===== -/
/-- one cell of the state put anew -/
def xu (σ : xS) (a : Nat) (c : xC) : xS := (fun q => if q = a then some c else σ.1 q, σ.2.1, σ.2.2)
/-- one cell made -/
def xnew (σ : xS) (c : xC) (n : Nat) : xS := (fun q => if q = σ.2.1 then some c else σ.1 q, σ.2.1 + 1, σ.2.2 + n)
theorem xar_arrV (G : xG) (t : Nat) (vs : List Value) : xar G t vs = arrV (G.2.1 t) vs.length (vp_V vs) := by
  unfold xar arrV
  congr 1
  apply Array.ext
  · simp
  · intro i h1 h2
    have h3 : i < vs.length := by simpa using h1
    simp [vp_V, List.getD_eq_getElem?_getD, h3]
theorem xar_set (G : xG) (t : Nat) (vs : List Value) (i : Nat) (v : Value) : (xar G t vs).setSlot i v = xar G t (vs.set i v) := by
  unfold xar Cell.setSlot
  congr 1
  exact List.setIfInBounds_toArray ..
theorem xar_read {G : xG} {t : Nat} {vs : List Value} {i : Nat} {v : Value} (h : vs[i]? = some v) : (xar G t vs).slots[i]? = some v := by
  show vs.toArray[i]? = some v
  rw [List.getElem?_toArray]
  exact h
theorem xar_size (G : xG) (t : Nat) (vs : List Value) : (xar G t vs).slots.size = vs.length := by simp [xar]
theorem xat.arr {G : xG} {H : Heap} {k t : Nat} {vs : List Value} (h : xat G H k (t, vs)) (ht : 10 ≤ t) : t ≤ 16 ∧ H[G.2.2.2 + k]? = some (xar G t vs) := by
  rcases h with ⟨r, h1, -⟩ | ⟨-, h2, h3⟩
  · have h9 : t < 10 := xlen h1
    omega
  · exact ⟨h2, h3⟩
theorem xat.obj {G : xG} {H : Heap} {k t : Nat} {vs : List Value} (h : xat G H k (t, vs)) (ht : t < 10) : ∃ r : vw_C, vwCl[t]? = some r ∧ vs.length = r.2.2 ∧ t_OB (G.2.2.2 + k) (G.2.1 t) r.2.2 (G.2.2.1 t) H (vp_V vs) := by
  rcases h with h | ⟨h1, -⟩
  · exact h
  · have h9 : 10 ≤ t := h1
    omega
theorem xat.kept {G : xG} {H H1 : Heap} {k : Nat} {c : xC} (h : xat G H k c) (e : H1[G.2.2.2 + k]? = H[G.2.2.2 + k]?) : xat G H1 k c := by
  rcases h with ⟨r, h1, h2, h3⟩ | ⟨h1, h2, h3⟩
  · exact Or.inl ⟨r, h1, h2, h3.kept e⟩
  · exact Or.inr ⟨h1, h2, by rw [e]; exact h3⟩
theorem xat.lt {G : xG} {H : Heap} {k : Nat} {c : xC} (h : xat G H k c) : G.2.2.2 + k < H.size := by
  rcases h with ⟨r, -, -, cell, h1, -⟩ | ⟨-, -, h1⟩
  · exact (Array.getElem?_eq_some_iff.mp h1).1
  · exact (Array.getElem?_eq_some_iff.mp h1).1
theorem xrel.put {G : xG} {σ : xS} {H H1 : Heap} {a : Nat} {c : xC} (h : xrel G σ H) (hs : H1.size = H.size) (hc : xat G H1 a c) (ho : ∀ q, q ≠ G.2.2.2 + a → H1[q]? = H[q]?) : xrel G (xu σ a c) H1 := by
  refine ⟨by rw [hs]; exact h.1, fun k c' hk => ?_⟩
  by_cases e : k = a
  · have hk' : (if k = a then some c else σ.1 k) = some c' := hk
    rw [if_pos e] at hk'
    cases hk'
    rw [e]
    exact hc
  · have hk' : (if k = a then some c else σ.1 k) = some c' := hk
    rw [if_neg e] at hk'
    exact (h.2 k c' hk').kept (ho _ (by omega))
theorem xrel.made {G : xG} {σ : xS} {H H1 : Heap} {c : xC} {n : Nat} (h : xrel G σ H) (hs : H1.size = H.size + 1) (hc : xat G H1 σ.2.1 c) (ho : ∀ q, q < H.size → H1[q]? = H[q]?) : xrel G (xnew σ c n) H1 := by
  refine ⟨by rw [hs, h.1]; show _ = G.2.2.2 + (σ.2.1 + 1); omega, fun k c' hk => ?_⟩
  have hk' : (if k = σ.2.1 then some c else σ.1 k) = some c' := hk
  by_cases e : k = σ.2.1
  · rw [if_pos e] at hk'
    cases hk'
    rw [e]
    exact hc
  · rw [if_neg e] at hk'
    exact (h.2 k c' hk').kept (ho _ (h.2 k c' hk').lt)
theorem xarr_of {G : xG} {s : State} (hK : xK G s) {t : Nat} (h1 : 10 ≤ t) (h2 : t ≤ 16) (vs : List Value) : s.isArrayOf (xar G t vs) (xtag t) := by
  rw [xar_arrV]
  have hT := hK.1.2 (t - 10) (G.2.1 t, xtag t) (by
    rcases (show t = 10 ∨ t = 11 ∨ t = 12 ∨ t = 13 ∨ t = 14 ∨ t = 15 ∨ t = 16 by omega) with rfl | rfl | rfl | rfl | rfl | rfl | rfl <;> rfl)
  exact hT.1 _ _
/-- a field's link: from the class own, at its pool's idx, to field k of the class ci -/
def xfl (own : String) (idx ci k : Nat) : Prop := ∃ r : vw_C, vwCl[ci]? = some r ∧ k < r.2.2 ∧ (Cond.fieldLink own idx (r.2.1 k).1 (r.2.1 k).2.1 (r.2.1 k).2.2.1 ∈ xGw ∨ ∃ host, Cond.fieldLinkNest own idx (r.2.1 k).1 (r.2.1 k).2.1 (r.2.1 k).2.2.1 host ∈ xNw)
section X3
variable {G : xG} {d : Nat} {M : xM} {pc : Nat} {lo : xL} {st : List Value} {σ : xS} {Q : Option Value → xS → Prop}
theorem xi_get {idx a ci k : Nat} {fs : List Value} {v : Value} (hd : M.2.2.2.2.lookup pc = some ((180, idx, 0), 3)) (hf : xfl M.1.cls idx ci k) (ha : σ.1 a = some (ci, fs)) (hv : fs[k]? = some v) (kk : xw G d M (pc + 3) lo (v :: st) σ Q) : xw G d M pc lo (rf G a :: st) σ Q := by
  refine xw.of_step (fun p e R s m args below meth c H locs cells slots Qw ls hx hb ho hts hK ht hr hl kc => ?_) kk
  obtain ⟨r, hc, hk, hlink⟩ := hf
  obtain ⟨r', hc', hlen, cell, q1, q2, q3, q4⟩ := (hr.2 a _ ha).obj (xlen hc)
  cases hc.symm.trans hc'
  obtain ⟨hS, hfc, kC, hkC, hkind⟩ := hK.1.1 ci _ hc
  obtain ⟨cf, kf, fi, f, hi, hsl⟩ := hS k hk
  have hslot : cell.slots[f.slot]? = some v := by
    rw [hsl, q4 k hk]
    simp [vp_V, hv]
  have hst := (u_facts hfc hkC (u_lays hts (xus_ok hc) hk) hi).1
  rcases hlink with hlink | ⟨host, hlink⟩
  · exact W.getf hx hb ho (hts _ hlink) hi hst q1 (by rw [q3]; exact fun h => by cases h) hslot rfl rfl (ht _ (xlook hd)).1 (kc ls hl)
  · exact va_Wgetf hx hb ho (va_Nw.use rfl (hK.2.1 _ hlink)) hi hst q1 (by rw [q3]; exact fun h => by cases h) hslot rfl rfl (ht _ (xlook hd)).1 (kc ls hl)
/-- a step that changes the heap, nothing made -/
theorem xw.of_put {pc' : Nat} {lo' : xL} {st' : List Value} {σ1 : xS} (e1 : σ1.2.1 = σ.2.1) (e2 : σ1.2.2 = σ.2.2)
    (hs : ∀ (p : Program) (e : Env) (R : Room) (s : State) (m : MethodId) (args : Array Value) (below : List Frame) (meth : Method) (c : Code) (H : Heap) (locs : List Loc) (cells slots : Nat) (Qw : State → Prop) (ls : Array Slot),
      p.tables.exec = Jvm.exec → c.code = M.2.1 → s.vm.findClass M.1.cls = some m.cls → meth.name = M.1.name → (∀ w ∈ xGw, w.before args s = true) → xK G s → xtok M.2.1 M.2.2.2.2 → xrel G σ H → xlo ls M.2.2.1 lo →
      (∀ ls' H1 locs1, xlo ls' M.2.2.1 lo' → xrel G σ1 H1 → (∀ q : Nat, q < G.2.2.2 → H1[q]? = H[q]?) → (∀ l ∈ locs1, l ∈ locs ∨ G.2.2.2 ≤ l.base) → W p G.1 e R s m args below meth c H1 locs1 cells slots Qw (F0 m pc' ls' st')) → W p G.1 e R s m args below meth c H locs cells slots Qw (F0 m pc ls st))
    (h : xw G d M pc' lo' st' σ1 Q) : xw G d M pc lo st σ Q := by
  obtain ⟨v, σ', hq, h1, h2, k⟩ := h
  refine ⟨v, σ', hq, by rw [← e1]; exact h1, by rw [← e2]; exact h2, fun n0 s0 p e R s m args below meth c H locs ls C a1 a2 hr hf hl => ?_⟩
  refine hs p e R s m args below meth c H locs _ _ _ ls C.1 C.2.1 C.2.2.2.2.2.1 C.2.2.2.2.2.2.1 C.2.2.2.2.2.2.2.1 C.2.2.2.2.2.2.2.2.1 C.2.2.2.2.2.2.2.2.2.2.2.2.2.1 hr hl (fun ls' H1 locs1 hl' hr1 hk hl1 => ?_)
  have := k n0 s0 p e R s m args below meth c H1 locs1 ls' C (by omega) (by omega) hr1 ⟨fun q hq => (hk q hq).trans (hf.1 q hq), fun l hl2 => (hl1 l hl2).elim (fun h => hf.2 l h) id⟩ hl'
  rw [e1, e2] at this
  exact this
theorem xi_put {idx a ci k : Nat} {fs : List Value} {v : Value} (hd : M.2.2.2.2.lookup pc = some ((181, idx, 0), 3)) (hf : xfl M.1.cls idx ci k) (ha : σ.1 a = some (ci, fs)) (hfin : xFin ci k = false) (hn : narrow (xTy ci k) v = v) (hfit : fits (xTy ci k) v = true)
    (kk : xw G d M (pc + 3) lo st (xu σ a (ci, fs.set k v)) Q) : xw G d M pc lo (v :: rf G a :: st) σ Q := by
  refine xw.of_put (σ1 := xu σ a (ci, fs.set k v)) rfl rfl (fun p e R s m args below meth c H locs cells slots Qw ls hx hb ho hmn hts hK ht hr hl kc => ?_) kk
  obtain ⟨r, hc, hk, hlink⟩ := hf
  obtain ⟨r', hc', hlen, cell, q1, q2, q3, q4⟩ := (hr.2 a _ ha).obj (xlen hc)
  cases hc.symm.trans hc'
  have hfin' : (r.2.1 k).2.2.2 = false := by simpa [xFin, hc] using hfin
  have hap := va_apart (own := M.1.cls) hts (xus_ok hc) (xTy ci) (xty_ok hc) (xnm_ok hc) hK.1 hc
  obtain ⟨hS, hfc, kC, hkC, hkind⟩ := hK.1.1 ci _ hc
  obtain ⟨cf, kf, fi, f, hi, hsl⟩ := hS k hk
  have hlay := hts _ (xus_ok hc _ (u_in_lay hk))
  unfold u_lay at hlay
  rw [if_neg (by rw [hfin']; decide)] at hlay
  have hst := (u_facts hfc hkC (u_lays hts (xus_ok hc) hk) hi).1
  have h6 := u_store hfc hkC hkind hlay hi (xty_ok hc k hk) hn hfit
  have go : ∀ H' : Heap, H'[G.2.2.2 + a]? = some (cell.setSlot f.slot v) → H'.size = H.size → (∀ q, q ≠ G.2.2.2 + a → H'[q]? = H[q]?) → W p G.1 e R s m args below meth c H' (locs ++ [⟨G.2.2.2 + a, f.slot⟩]) cells slots Qw (F0 m (pc + 3) ls st) := fun H' e1 e2 e3 => by
    rw [hsl] at e1
    refine kc ls H' _ hl (hr.put e2 (Or.inl ⟨r, hc, by rw [List.length_set]; exact hlen, t_OB.to (V := updV (vp_V fs) k v) ⟨_, e1, q2, q3, t_set q4 hap hk v⟩ (fun j _ => vp_updV_set (by rw [hlen]; exact hk) v j)⟩) e3) (fun q hq => e3 q (Nat.ne_of_lt (Nat.lt_of_lt_of_le hq (Nat.le_add_right _ _)))) (fun l hl2 => ?_)
    rcases List.mem_append.mp hl2 with h | h
    · exact Or.inl h
    · rw [List.mem_singleton.mp h]
      exact Or.inr (Nat.le_add_right _ _)
  rcases hlink with hlink | ⟨host, hlink⟩
  · exact W.putK hx hb (f := f) ⟨ho, hts _ hlink, ⟨_, _, _, hi⟩, hst⟩ (by rw [q2]; exact h6) q1 q3 (by rw [hsl]; exact k2_hasslot (q4 k hk)) rfl rfl (ht _ (xlook hd)).1 go
  · exact va_WputK hx hb (f := f) ho (va_Nw.use rfl (hK.2.1 _ hlink)) hi hst (by rw [q2]; exact h6) q1 q3 (by rw [hsl]; exact k2_hasslot (q4 k hk)) rfl rfl (ht _ (xlook hd)).1 go
theorem xi_putF {idx a ci k : Nat} {fs : List Value} {v : Value} (hd : M.2.2.2.2.lookup pc = some ((181, idx, 0), 3)) (hf : ∃ r : vw_C, vwCl[ci]? = some r ∧ k < r.2.2 ∧ (r.2.1 k).1 = M.1.cls ∧ Cond.fieldLink M.1.cls idx (r.2.1 k).1 (r.2.1 k).2.1 (r.2.1 k).2.2.1 ∈ xGw) (hini : M.1.name = "<init>") (ha : σ.1 a = some (ci, fs)) (hfin : xFin ci k = true) (hn : narrow (xTy ci k) v = v) (hfit : fits (xTy ci k) v = true)
    (kk : xw G d M (pc + 3) lo st (xu σ a (ci, fs.set k v)) Q) : xw G d M pc lo (v :: rf G a :: st) σ Q := by
  refine xw.of_put (σ1 := xu σ a (ci, fs.set k v)) rfl rfl (fun p e R s m args below meth c H locs cells slots Qw ls hx hb ho hmn hts hK ht hr hl kc => ?_) kk
  obtain ⟨r, hc, hk, hdecl, hlink⟩ := hf
  obtain ⟨r', hc', hlen, cell, q1, q2, q3, q4⟩ := (hr.2 a _ ha).obj (xlen hc)
  cases hc.symm.trans hc'
  have hfin' : (r.2.1 k).2.2.2 = true := by simpa [xFin, hc] using hfin
  have hap := va_apart (own := M.1.cls) hts (xus_ok hc) (xTy ci) (xty_ok hc) (xnm_ok hc) hK.1 hc
  obtain ⟨hS, hfc, kC, hkC, hkind⟩ := hK.1.1 ci _ hc
  obtain ⟨cf, kf, fi, f, hi, hsl⟩ := hS k hk
  have hlay := hts _ (xus_ok hc _ (u_in_lay hk))
  unfold u_lay at hlay
  rw [if_pos hfin'] at hlay
  have hst := (u_facts hfc hkC (u_lays hts (xus_ok hc) hk) hi).1
  have hcf : m.cls = cf := by
    obtain ⟨_, _, c', _, _, _, -, -, hf', -, -, -, hown2, -⟩ := Cond.laysFinal_spec hlay
    have e1 : c' = cf := by have := hi.symm.trans hf'; simp at this; exact this.1.symm
    rw [hdecl] at hown2
    rw [← e1]; exact Option.some.inj (ho.symm.trans hown2)
  have h6 := u_fits hfc hkC hkind (Or.inr hlay) hi (xty_ok hc k hk) hn hfit
  refine W.putFinK hx hb ho (hts _ hlink) hi hst hcf (hmn.trans hini) (by rw [q2]; exact h6) q1 q3 (by rw [hsl]; exact k2_hasslot (q4 k hk)) rfl rfl (ht _ (xlook hd)).1 fun H' e1 e2 e3 => ?_
  rw [hsl] at e1
  refine kc ls H' _ hl (hr.put e2 (Or.inl ⟨r, hc, by rw [List.length_set]; exact hlen, t_OB.to (V := updV (vp_V fs) k v) ⟨_, e1, q2, q3, t_set q4 hap hk v⟩ (fun j _ => vp_updV_set (by rw [hlen]; exact hk) v j)⟩) e3) (fun q hq => e3 q (Nat.ne_of_lt (Nat.lt_of_lt_of_le hq (Nat.le_add_right _ _)))) (fun l hl2 => ?_)
  rcases List.mem_append.mp hl2 with h | h
  · exact Or.inl h
  · rw [List.mem_singleton.mp h]
    exact Or.inr (Nat.le_add_right _ _)
end X3
end
section
section X4
variable {G : xG} {d : Nat} {M : xM} {pc : Nat} {lo : xL} {st : List Value} {σ : xS} {Q : Option Value → xS → Prop}
theorem xin {i : Int32} {vs : List Value} {v : Value} (h0 : ¬ i < 0) (hv : vs[i.toNatClampNeg]? = some v) (G : xG) (t : Nat) : ¬ (i < 0 ∨ (xar G t vs).slots.size ≤ i.toNatClampNeg) := by
  rw [xar_size]
  have := (List.getElem?_eq_some_iff.mp hv).1
  intro h
  rcases h with h | h
  · exact h0 h
  · omega
theorem xin' {i : Int32} {vs : List Value} (h0 : ¬ i < 0) (hv : i.toNatClampNeg < vs.length) (G : xG) (t : Nat) : ¬ (i < 0 ∨ (xar G t vs).slots.size ≤ i.toNatClampNeg) := by
  rw [xar_size]
  intro h
  rcases h with h | h
  · exact h0 h
  · omega
theorem xvm (G : xG) (t : Nat) (vs : List Value) : (xar G t vs).vm ≠ .unknown := by intro h; cases h
theorem xi_iald {a : Nat} {i : Int32} {vs : List Value} {v : Value} (hd : M.2.2.2.2.lookup pc = some ((46, 0, 0), 1)) (ha : σ.1 a = some (11, vs)) (h0 : ¬ i < 0) (hv : vs[i.toNatClampNeg]? = some v) (kk : xw G d M (pc + 1) lo (v :: st) σ Q) : xw G d M pc lo (.int i :: rf G a :: st) σ Q :=
  xw.of_step (fun p e R s m args below meth c H locs cells slots Qw ls hx hb ho hts hK ht hr hl k => W.iald hx hb ((hr.2 a _ ha).arr (by decide)).2 (xarr_of hK (by decide) (by decide) vs) (xvm _ _ _) (xin h0 hv _ _) (xar_read hv) rfl rfl (ht _ (xlook hd)).1 (k ls hl)) kk
theorem xi_bald {a : Nat} {i : Int32} {vs : List Value} {v : Value} (hd : M.2.2.2.2.lookup pc = some ((51, 0, 0), 1)) (ha : σ.1 a = some (10, vs)) (h0 : ¬ i < 0) (hv : vs[i.toNatClampNeg]? = some v) (kk : xw G d M (pc + 1) lo (v :: st) σ Q) : xw G d M pc lo (.int i :: rf G a :: st) σ Q :=
  xw.of_step (fun p e R s m args below meth c H locs cells slots Qw ls hx hb ho hts hK ht hr hl k => W.bald hx hb ((hr.2 a _ ha).arr (by decide)).2 (xarr_of hK (by decide) (by decide) vs) (xvm _ _ _) (xin h0 hv _ _) (xar_read hv) rfl rfl (ht _ (xlook hd)).1 (k ls hl)) kk
theorem xi_zald {a : Nat} {i : Int32} {vs : List Value} {v : Value} (hd : M.2.2.2.2.lookup pc = some ((51, 0, 0), 1)) (ha : σ.1 a = some (12, vs)) (h0 : ¬ i < 0) (hv : vs[i.toNatClampNeg]? = some v) (kk : xw G d M (pc + 1) lo (v :: st) σ Q) : xw G d M pc lo (.int i :: rf G a :: st) σ Q :=
  xw.of_step (fun p e R s m args below meth c H locs cells slots Qw ls hx hb ho hts hK ht hr hl k => W.zald hx hb ((hr.2 a _ ha).arr (by decide)).2 (xarr_of hK (by decide) (by decide) vs) (xvm _ _ _) (xin h0 hv _ _) (xar_read hv) rfl rfl (ht _ (xlook hd)).1 (k ls hl)) kk
theorem xtagref {t : Nat} (h1 : 13 ≤ t) (h2 : t ≤ 16) : (xtag t).isReference = true := by
  rcases (show t = 13 ∨ t = 14 ∨ t = 15 ∨ t = 16 by omega) with rfl | rfl | rfl | rfl <;> rfl
theorem xi_aald {a t : Nat} {i : Int32} {vs : List Value} {v : Value} (hd : M.2.2.2.2.lookup pc = some ((50, 0, 0), 1)) (ha : σ.1 a = some (t, vs)) (h1 : 13 ≤ t) (h0 : ¬ i < 0) (hv : vs[i.toNatClampNeg]? = some v) (kk : xw G d M (pc + 1) lo (v :: st) σ Q) : xw G d M pc lo (.int i :: rf G a :: st) σ Q :=
  xw.of_step (fun p e R s m args below meth c H locs cells slots Qw ls hx hb ho hts hK ht hr hl k => by
    obtain ⟨h2, hc⟩ := (hr.2 a _ ha).arr (by omega)
    exact W.aald hx hb hc (xarr_of hK (by omega) h2 vs) (xtagref h1 h2) (xvm _ _ _) (xin h0 hv _ _) (xar_read hv) rfl rfl (ht _ (xlook hd)).1 (k ls hl)) kk
theorem xi_alen {a t : Nat} {vs : List Value} (hd : M.2.2.2.2.lookup pc = some ((190, 0, 0), 1)) (ha : σ.1 a = some (t, vs)) (h1 : 10 ≤ t) {n : Int32} (hn : Int32.ofNat vs.length = n) (kk : xw G d M (pc + 1) lo (.int n :: st) σ Q) : xw G d M pc lo (rf G a :: st) σ Q :=
  xw.of_step (fun p e R s m args below meth c H locs cells slots Qw ls hx hb ho hts hK ht hr hl k => by
    obtain ⟨h2, hc⟩ := (hr.2 a _ ha).arr h1
    exact W.alen (n := n) hx hb hc (xarr_of hK h1 h2 vs) (by rw [xar_size]; exact hn) rfl rfl (ht _ (xlook hd)).1 (k ls hl)) kk
theorem xput1 {G : xG} {H H1 : Heap} {σ : xS} {a t : Nat} {vs : List Value} {i : Nat} {v : Value} (hr : xrel G σ H) (h1 : 10 ≤ t) (h2 : t ≤ 16) (e : H1[G.2.2.2 + a]? = some ((xar G t vs).setSlot i v)) (z : H1.size = H.size) (o : ∀ q, q ≠ G.2.2.2 + a → H1[q]? = H[q]?) : xrel G (xu σ a (t, vs.set i v)) H1 :=
  hr.put z (Or.inr ⟨h1, h2, by rw [e, xar_set]⟩) o
theorem xloc1 {G : xG} {locs : List Loc} {a j : Nat} : ∀ l ∈ locs ++ [(⟨G.2.2.2 + a, j⟩ : Loc)], l ∈ locs ∨ G.2.2.2 ≤ l.base := fun l hl => by
  rcases List.mem_append.mp hl with h | h
  · exact Or.inl h
  · rw [List.mem_singleton.mp h]
    exact Or.inr (Nat.le_add_right _ _)
theorem xi_iast {a : Nat} {i x : Int32} {vs : List Value} (hd : M.2.2.2.2.lookup pc = some ((79, 0, 0), 1)) (ha : σ.1 a = some (11, vs)) (h0 : ¬ i < 0) (hv : i.toNatClampNeg < vs.length) (kk : xw G d M (pc + 1) lo st (xu σ a (11, vs.set i.toNatClampNeg (.int x))) Q) : xw G d M pc lo (.int x :: .int i :: rf G a :: st) σ Q :=
  xw.of_put (σ1 := xu σ a (11, vs.set i.toNatClampNeg (.int x))) rfl rfl (fun p e R s m args below meth c H locs cells slots Qw ls hx hb ho hmn hts hK ht hr hl k =>
    W.iast hx hb ((hr.2 a _ ha).arr (by decide)).2 (xarr_of hK (by decide) (by decide) vs) (xvm _ _ _) (xin' h0 hv _ _) rfl rfl (ht _ (xlook hd)).1 (fun H' e1 e2 e3 => k ls H' _ hl (xput1 hr (by decide) (by decide) e1 e2 e3) (fun q hq => e3 q (Nat.ne_of_lt (Nat.lt_of_lt_of_le hq (Nat.le_add_right _ _)))) xloc1)) kk
theorem xi_bast {a : Nat} {i x : Int32} {vs : List Value} (hd : M.2.2.2.2.lookup pc = some ((84, 0, 0), 1)) (ha : σ.1 a = some (10, vs)) (h0 : ¬ i < 0) (hv : i.toNatClampNeg < vs.length) (kk : xw G d M (pc + 1) lo st (xu σ a (10, vs.set i.toNatClampNeg (.int x.toInt8.toInt32))) Q) : xw G d M pc lo (.int x :: .int i :: rf G a :: st) σ Q :=
  xw.of_put (σ1 := xu σ a (10, vs.set i.toNatClampNeg (.int x.toInt8.toInt32))) rfl rfl (fun p e R s m args below meth c H locs cells slots Qw ls hx hb ho hmn hts hK ht hr hl k =>
    W.bast hx hb ((hr.2 a _ ha).arr (by decide)).2 (xarr_of hK (by decide) (by decide) vs) (xvm _ _ _) (xin' h0 hv _ _) rfl rfl (ht _ (xlook hd)).1 (fun H' e1 e2 e3 => k ls H' _ hl (xput1 hr (by decide) (by decide) e1 e2 e3) (fun q hq => e3 q (Nat.ne_of_lt (Nat.lt_of_lt_of_le hq (Nat.le_add_right _ _)))) xloc1)) kk
theorem xi_zast {a : Nat} {i x : Int32} {vs : List Value} (hd : M.2.2.2.2.lookup pc = some ((84, 0, 0), 1)) (ha : σ.1 a = some (12, vs)) (h0 : ¬ i < 0) (hv : i.toNatClampNeg < vs.length) (hx1 : x &&& 1 = x) (kk : xw G d M (pc + 1) lo st (xu σ a (12, vs.set i.toNatClampNeg (.int x))) Q) : xw G d M pc lo (.int x :: .int i :: rf G a :: st) σ Q :=
  xw.of_put (σ1 := xu σ a (12, vs.set i.toNatClampNeg (.int x))) rfl rfl (fun p e R s m args below meth c H locs cells slots Qw ls hx hb ho hmn hts hK ht hr hl k =>
    W.zast hx hb ((hr.2 a _ ha).arr (by decide)).2 (xarr_of hK (by decide) (by decide) vs) (xvm _ _ _) (xin' h0 hv _ _) rfl rfl (ht _ (xlook hd)).1 (fun H' e1 e2 e3 => k ls H' _ hl (xput1 hr (by decide) (by decide) (by rw [e1]; simp only [narrow, hx1]) e2 e3) (fun q hq => e3 q (Nat.ne_of_lt (Nat.lt_of_lt_of_le hq (Nat.le_add_right _ _)))) xloc1)) kk
/-- the object class that an array kind holds -/
def xel (t : Nat) : Nat := match t with
  | 13 => 0
  | 14 => 1
  | _ => 3
theorem xel_tag {t : Nat} (h1 : 13 ≤ t) (h2 : t ≤ 15) : ∃ r : vw_C, vwCl[xel t]? = some r ∧ xtag t = .object r.1 := by
  rcases (show t = 13 ∨ t = 14 ∨ t = 15 by omega) with rfl | rfl | rfl <;> exact ⟨_, rfl, rfl⟩
theorem xi_aast {a b t : Nat} {i : Int32} {vs fs : List Value} (hd : M.2.2.2.2.lookup pc = some ((83, 0, 0), 1)) (ha : σ.1 a = some (t, vs)) (h1 : 13 ≤ t) (h2 : t ≤ 15) (hb' : σ.1 b = some (xel t, fs)) (h0 : ¬ i < 0) (hv : i.toNatClampNeg < vs.length) (kk : xw G d M (pc + 1) lo st (xu σ a (t, vs.set i.toNatClampNeg (rf G b))) Q) : xw G d M pc lo (rf G b :: .int i :: rf G a :: st) σ Q :=
  xw.of_put (σ1 := xu σ a (t, vs.set i.toNatClampNeg (rf G b))) rfl rfl (fun p e R s m args below meth c H locs cells slots Qw ls hx hb ho hmn hts hK ht hr hl k => by
    obtain ⟨r, hc, htag⟩ := xel_tag h1 h2
    obtain ⟨r', hc', hlen, cellV, g1, g2, g3, -⟩ := (hr.2 b _ hb').obj (xlen hc)
    have hcls := (hK.1.1 _ r hc).2
    have hT := (hK.1.2 (t - 10) (G.2.1 t, xtag t) (by rcases (show t = 13 ∨ t = 14 ∨ t = 15 by omega) with rfl | rfl | rfl <;> rfl)).2
    rw [htag] at hT
    obtain ⟨kA, comp, k1, k2, k3, -⟩ := hT
    have hcomp : comp = G.2.1 (xel t) := Option.some.inj (k3.symm.trans hcls.1)
    subst hcomp
    obtain ⟨kC, hkC, -⟩ := hcls.2
    refine W.aast hx hb ((hr.2 a _ ha).arr (by omega)).2 (fun q h => by cases h) (xvm _ _ _) k1 k2 rfl hkC ⟨h0, by rw [xar_size]; exact hv⟩ g1 (fun q h => by rw [g3] at h; cases h) (by rw [g2]; exact hkC) (by rw [g2]; exact va_assign hcls) rfl rfl (ht _ (xlook hd)).1 (fun H' e1 e2 e3 => k ls H' _ hl (xput1 hr (by omega) (by omega) e1 e2 e3) (fun q hq => e3 q (Nat.ne_of_lt (Nat.lt_of_lt_of_le hq (Nat.le_add_right _ _)))) xloc1)) kk
theorem xi_aastN {a t : Nat} {i : Int32} {vs : List Value} (hd : M.2.2.2.2.lookup pc = some ((83, 0, 0), 1)) (ha : σ.1 a = some (t, vs)) (h1 : 13 ≤ t) (h2 : t ≤ 15) (h0 : ¬ i < 0) (hv : i.toNatClampNeg < vs.length) (kk : xw G d M (pc + 1) lo st (xu σ a (t, vs.set i.toNatClampNeg .null)) Q) : xw G d M pc lo (.null :: .int i :: rf G a :: st) σ Q :=
  xw.of_put (σ1 := xu σ a (t, vs.set i.toNatClampNeg .null)) rfl rfl (fun p e R s m args below meth c H locs cells slots Qw ls hx hb ho hmn hts hK ht hr hl k => by
    obtain ⟨r, hc, htag⟩ := xel_tag h1 h2
    have hA := xarr_of hK (by omega) (by omega) vs (t := t)
    rw [htag] at hA
    exact va_WaastN hx hb ((hr.2 a _ ha).arr (by omega)).2 hA (xvm _ _ _) (xin' h0 hv _ _) rfl rfl (ht _ (xlook hd)).1 (fun H' e1 e2 e3 => k ls H' _ hl (xput1 hr (by omega) (by omega) e1 e2 e3) (fun q hq => e3 q (Nat.ne_of_lt (Nat.lt_of_lt_of_le hq (Nat.le_add_right _ _)))) xloc1)) kk
end X4
end
section
section X5
variable {G : xG} {d : Nat} {M : xM} {pc : Nat} {lo : xL} {st : List Value} {σ : xS} {Q : Option Value → xS → Prop}
/-- a step that makes one cell of n slots -/
theorem xw.of_new {pc' : Nat} {st' : List Value} {c0 : xC} {n : Nat}
    (hs : ∀ (p : Program) (e : Env) (R : Room) (s : State) (m : MethodId) (args : Array Value) (below : List Frame) (meth : Method) (c : Code) (H : Heap) (locs : List Loc) (cells slots : Nat) (Qw : State → Prop) (ls : Array Slot),
      p.tables.exec = Jvm.exec → c.code = M.2.1 → s.vm.findClass M.1.cls = some m.cls → (∀ w ∈ xGw, w.before args s = true) → xK G s → xtok M.2.1 M.2.2.2.2 → xrel G σ H → cells + 1 ≤ R.cells → slots + n ≤ R.slots →
      (∀ H1, H1.size = H.size + 1 → xat G H1 σ.2.1 c0 → (∀ q : Nat, q < H.size → H1[q]? = H[q]?) → W p G.1 e R s m args below meth c H1 locs (cells + 1) (slots + n) Qw (F0 m pc' ls st')) → W p G.1 e R s m args below meth c H locs cells slots Qw (F0 m pc ls st))
    (h : xw G d M pc' lo st' (xnew σ c0 n) Q) : xw G d M pc lo st σ Q := by
  obtain ⟨v, σ', hq, h1, h2, k⟩ := h
  have h1' : σ.2.1 + 1 ≤ σ'.2.1 := h1
  have h2' : σ.2.2 + n ≤ σ'.2.2 := h2
  refine ⟨v, σ', hq, by omega, by omega, fun n0 s0 p e R s m args below meth c H locs ls C a1 a2 hr hf hl => ?_⟩
  have hRc : R.cells = σ'.2.1 - n0 := C.2.2.2.2.2.2.2.2.2.2.2.1
  have hRs : R.slots = σ'.2.2 - s0 := C.2.2.2.2.2.2.2.2.2.2.2.2.1
  have hN0 : G.2.2.2 ≤ H.size := by rw [hr.1]; exact Nat.le_add_right _ _
  refine hs p e R s m args below meth c H locs _ _ _ ls C.1 C.2.1 C.2.2.2.2.2.1 C.2.2.2.2.2.2.2.1 C.2.2.2.2.2.2.2.2.1 C.2.2.2.2.2.2.2.2.2.2.2.2.2.1 hr (by omega) (by omega) (fun H1 z hc ho => ?_)
  have := k n0 s0 p e R s m args below meth c H1 locs ls C (show n0 ≤ σ.2.1 + 1 by omega) (show s0 ≤ σ.2.2 + n by omega) (hr.made z hc ho) ⟨fun q hq => (ho q (Nat.lt_of_lt_of_le hq hN0)).trans (hf.1 q hq), hf.2⟩ hl
  exact W.cs (show σ.2.1 - n0 + 1 = σ.2.1 + 1 - n0 by omega) (show σ.2.2 - s0 + n = σ.2.2 + n - s0 by omega) this
/-- what a class's link needs: the words -/
def xnl (own : String) (idx ci : Nat) : Prop := ∃ r : vw_C, vwCl[ci]? = some r ∧ Cond.classLink own idx r.1 ∈ xGw ∧ Cond.instantiable r.1 r.2.2 ∈ xGw ∧ Cond.initialized r.1 ∈ xGw
def xN (ci : Nat) : Nat := match vwCl[ci]? with
  | some r => r.2.2
  | none => 0
def xdef (ci : Nat) : List Value := (List.range (xN ci)).map (fun k => defaultValue (xTy ci k))
theorem xi_new {idx ci : Nat} (hd : M.2.2.2.2.lookup pc = some ((187, idx, 0), 3)) (hf : xnl M.1.cls idx ci) (kk : xw G d M (pc + 3) lo (rf G σ.2.1 :: st) (xnew σ (ci, xdef ci) (xN ci)) Q) : xw G d M pc lo st σ Q := by
  refine xw.of_new (fun p e R s m args below meth c H locs cells slots Qw ls hx hb ho hts hK ht hr hcl hsl k => ?_) kk
  obtain ⟨r, hc, w1, w2, w3⟩ := hf
  have hN : xN ci = r.2.2 := by simp [xN, hc]
  rw [hN] at hsl k
  have hKn := hK.1.1 ci _ hc
  refine W.newcK hx hb ho (hts _ w1) (hts _ w2) (hts _ w3) rfl (ht _ (xlook hd)).1 hcl hsl hKn.2.1 hr.1 fun H1 kC hkC e1 z1 o1 => ?_
  rw [← hr.1] at o1
  refine k H1 (by rw [z1, hr.1]) (Or.inl ⟨r, hc, by simp [xdef, hN], (u_born (xTy ci) hts (xus_ok hc) hKn hkC e1 (xty_ok hc)).to (fun j hj => ?_)⟩) o1
  simp [vp_V, xdef, List.getD_eq_getElem?_getD, hN, hj]
theorem xi_newa {t ta : Nat} {n : Int32} {N : Nat} {atype : ArrayType} (hd : M.2.2.2.2.lookup pc = some ((188, ta, 0), 2)) (hins : xins pc (188, ta, 0) = .newarray atype) (h1 : 10 ≤ t) (h2 : t ≤ 12) (hty : newarray.typeOf atype = xtag t) (hw : Cond.arrayClass (xtag t) ∈ xGw) (hn : ¬ n < 0) (hN : n.toNatClampNeg = N) (hb1 : N ≤ 1000000) (kk : xw G d M (pc + 2) lo (rf G σ.2.1 :: st) (xnew σ (t, List.replicate N (.int 0)) N) Q) : xw G d M pc lo (.int n :: st) σ Q := by
  refine xw.of_new (fun p e R s m args below meth c H locs cells slots Qw ls hx hb ho hts hK ht hr hcl hsl k => ?_) kk
  have hdec := (ht _ (xlook hd)).1
  dsimp only at hdec
  rw [hins] at hdec
  have hA := hts _ hw
  rw [← hty] at hA
  have hdv : defaultValue (newarray.typeOf atype) = .int 0 := by
    rw [hty]
    rcases (show t = 10 ∨ t = 11 ∨ t = 12 by omega) with rfl | rfl | rfl <;> rfl
  have hcb : N * componentBytes (newarray.typeOf atype) ≤ 536870912 := by
    rw [hty]
    rcases (show t = 10 ∨ t = 11 ∨ t = 12 by omega) with rfl | rfl | rfl <;> simp [xtag, componentBytes] <;> omega
  refine va_newaK hx hb hA rfl hdec rfl hn hN hcb hcl hsl hr.1 fun H1 cA e1 z1 o1 hAr hNm => ?_
  rw [← hr.1] at o1
  have hT := (hK.1.2 (t - 10) (G.2.1 t, xtag t) (by rcases (show t = 10 ∨ t = 11 ∨ t = 12 by omega) with rfl | rfl | rfl <;> rfl)).2
  have hcA : cA = G.2.1 t := by
    rw [hty] at hNm
    rcases (show t = 10 ∨ t = 11 ∨ t = 12 by omega) with rfl | rfl | rfl <;> exact Option.some.inj (hNm.symm.trans hT)
  subst hcA
  refine k H1 (by rw [z1, hr.1]) (Or.inr ⟨h1, by omega, ?_⟩) o1
  rw [e1, hdv, ← arrV_new]
  simp [xar]
theorem xi_anewa {t idx : Nat} {n : Int32} {N : Nat} {C : String} (hd : M.2.2.2.2.lookup pc = some ((189, idx, 0), 3)) (h1 : 13 ≤ t) (h2 : t ≤ 15) (hty : xtag t = .object C) (hC : C ∈ ["PackPost$Book", "PackPost$ByteRow", "PackPost$Entry"]) (hw : Cond.classLink M.1.cls idx C ∈ xGw) (hn : ¬ n < 0) (hN : n.toNatClampNeg = N) (hb1 : N ≤ 1000000) (kk : xw G d M (pc + 3) lo (rf G σ.2.1 :: st) (xnew σ (t, List.replicate N .null) N) Q) : xw G d M pc lo (.int n :: st) σ Q := by
  refine xw.of_new (fun p e R s m args below meth c H locs cells slots Qw ls hx hb ho hts hK ht hr hcl hsl k => ?_) kk
  subst hN
  refine W.anew hx hb ho (hts _ hw) (va_AO.use (hK.2.2.1 C hC)) rfl (ht _ (xlook hd)).1 rfl hn (by omega) hcl hsl fun cA kA comp f1 f2 f3 f4 => ?_
  have hT := (hK.1.2 (t - 10) (G.2.1 t, xtag t) (by rcases (show t = 13 ∨ t = 14 ∨ t = 15 by omega) with rfl | rfl | rfl <;> rfl)).2
  rw [hty] at hT
  obtain ⟨kA', comp', -, -, -, k4⟩ := hT
  have hcA : cA = G.2.1 t := Option.some.inj (f1.symm.trans k4)
  subst hcA
  rw [hr.1]
  refine k _ (by simp) (Or.inr ⟨by omega, by omega, ?_⟩) (fun q hq => by rw [Array.getElem?_push, if_neg (Nat.ne_of_lt hq)])
  rw [← hr.1]
  simp [xar]
theorem xi_obj {idx a : Nat} (hd : M.2.2.2.2.lookup pc = some ((183, idx, 0), 3)) (hw : ∀ w ∈ [Cond.methodLink M.1.cls idx objectInit, Cond.instanceMethod objectInit, Cond.code objectInit ⟨#[0xb1]⟩ 1 none], w ∈ xGw) (hst : (st.map fun v => v.category).sum ≤ 8) (kk : xw G (d + 1) M (pc + 3) lo st σ Q) : xw G (d + 1) M pc lo (rf G a :: st) σ Q := by
  obtain ⟨v, σ', hq, h1, h2, k⟩ := kk
  refine ⟨v, σ', hq, h1, h2, fun n0 s0 p e R s m args below meth c H locs ls C a1 a2 hr hf hl => ?_⟩
  have hR1 : d + 1 ≤ R.frames := C.2.2.2.2.2.2.2.2.2.1
  have hR2 : 50 * (d + 1) ≤ R.locals := C.2.2.2.2.2.2.2.2.2.2.1
  have hts := C.2.2.2.2.2.2.2.1
  have hroom : 2 * (F0 m pc ls (rf G a :: st)).monitorRoom + (st.map fun v => v.category).sum ≤ 8 := lv_room hst
  exact W.objInit C.1 C.2.1 C.2.2.2.2.2.1 (hts _ (hw _ (by simp))) (hts _ (hw _ (by simp))) (hts _ (hw _ (by simp))) rfl (by rw [C.2.2.1]; exact hl.2.1.1) rfl (C.2.2.2.2.2.2.2.2.2.2.2.2.2.1 _ (xlook hd)).1 (by omega) (by omega) (k n0 s0 p e R s m args below meth c H locs ls C a1 a2 hr hf hl)
end X5
end
section
theorem xargs_mem : ∀ (As : List Value) (i j : Nat) (v : Value), (∀ v ∈ As, v.category = 1) → As[j]? = some v → (i + j, v) ∈ lv_args i As
  | [], i, j, v, _, h => by simp at h
  | x :: As, i, j, v, hc, h => by
    have hx : x.category = 1 := hc x List.mem_cons_self
    simp only [lv_args, hx]
    match j, h with
    | 0, h =>
      have e : x = v := by simpa using h
      rw [e]
      exact List.mem_cons_self
    | j + 1, h =>
      have h' : As[j]? = some v := by simpa using h
      have := xargs_mem As (i + 1) j v (fun v hv => hc v (List.mem_cons_of_mem _ hv)) h'
      refine List.mem_cons_of_mem _ ?_
      simpa [Nat.add_comm, Nat.add_left_comm, Nat.add_assoc] using this
theorem xsl_len : ∀ (As : List Value), (∀ v ∈ As, v.category = 1) → (lg_sl As).length = As.length
  | [], _ => rfl
  | x :: As, hc => by
    have hx : x.category = 1 := hc x List.mem_cons_self
    have := xsl_len As (fun v hv => hc v (List.mem_cons_of_mem _ hv))
    simp only [lg_sl, List.flatMap_cons, hx, List.length_append, List.length_cons] at this ⊢
    simp [this]
    omega
abbrev xlo0 (As : List Value) (n : Nat) : xL := As.map some ++ List.replicate (n - As.length) none
theorem xlo_entry {As : List Value} {n : Nat} (hc : ∀ v ∈ As, v.category = 1) (hn : As.length ≤ n) : xlo ((lg_sl As ++ List.replicate (n - (lg_sl As).length) Slot.unset).toArray) n (xlo0 As n) := by
  have key : ∀ (i : Nat) (v : Value), (xlo0 As n)[i]? = some (some v) → As[i]? = some v := fun i v h => by
    by_cases hi : i < As.length
    · rw [List.getElem?_append_left (by simpa using hi), List.getElem?_map] at h
      cases hA : As[i]? with
      | none => rw [hA] at h; simp at h
      | some u => rw [hA] at h; simpa using h
    · rw [List.getElem?_append_right (by simpa using hi), List.getElem?_replicate] at h
      split at h <;> simp at h
  obtain ⟨e1, e2, e3⟩ := lv_entry As (n := n) (by rw [xsl_len As hc]; exact hn)
  refine ⟨by simp; omega, ⟨e1, e2, fun q hq => ?_⟩, fun i v h => hc v (List.mem_of_getElem? (key i v h))⟩
  have := xargs_mem As 0 q.1 q.2 hc (key _ _ (xll_mem.mp hq))
  exact e3 q (by simpa using this)
theorem xm_of {G : xG} {d : Nat} {M : xM} {As : List Value} {σ : xS} {Q : Option Value → xS → Prop} (hp : plainName M.1.cls = true) (hlen : As.length ≤ M.2.2.1) (hcat : ∀ v ∈ As, v.category = 1) (ht : xtok M.2.1 M.2.2.2.2) (h : xw G d M 0 (xlo0 As M.2.2.1) [] σ Q) : xm G d M As σ Q := by
  obtain ⟨v, σ', hq, h1, h2, k⟩ := h
  refine ⟨v, σ', hq, h1, h2, ?_⟩
  refine Met.ofW (cc := M.2.1) (maxL := M.2.2.1) (ret := M.2.2.2.1) hp rfl ?_
  intro p e s m args below meth c s₁ B hml hv
  obtain ⟨rfl, hr, hK⟩ := hv
  have hts := atoms_spec (ws := .code M.1 M.2.1 M.2.2.1 M.2.2.2.1 :: xGw) B.pre
  rw [lg_entry_eq]
  have := k σ.2.1 σ.2.2 p e { frames := d, cells := σ'.2.1 - σ.2.1, slots := σ'.2.2 - σ.2.2, locals := 50 * d } s m As.toArray below meth c s.heap [] _ ⟨B.exec, B.bytes, hml, B.returns, B.notSynchronized, findClass_of_methodNamed B.named, (name_of_methodNamed B.named B.method).1, fun w hw => hts w (List.mem_cons_of_mem _ hw), hK, Nat.le_refl _, Nat.le_refl _, rfl, rfl, ht, by rw [hr.1]; exact Nat.le_add_right _ _⟩ (Nat.le_refl _) (Nat.le_refl _) hr ⟨fun q _ => rfl, fun l hl => absurd hl List.not_mem_nil⟩ (xlo_entry hcat hlen)
  rw [Nat.sub_self, Nat.sub_self] at this
  exact this
/-- what a call's link needs: the words of the method that is called (n its parameters), and the link -/
def xml (M' : xM) (n : Nat) : Prop := Cond.code M'.1 M'.2.1 M'.2.2.1 M'.2.2.2.1 ∈ xGw ∧ Cond.initialized M'.1.cls ∈ xGw ∧ (M'.1.cls ≠ "java/lang/invoke/MethodHandle" ∧ M'.1.cls ≠ "java/lang/invoke/VarHandle") ∧ (parseMethodDescriptor M'.1.desc).map (fun d => d.parameters.length) = some n ∧ M'.2.2.1 ≤ 31
def xlk (own : String) (idx : Nat) (M' : xM) : Prop := Cond.methodLink own idx M'.1 ∈ xGw ∨ ∃ host, Cond.methodLinkNest own idx M'.1 host ∈ xNw
theorem xgood {M' : xM} {n : Nat} (h : xml M' n) : GoodIn xGw (.code M'.1 M'.2.1 M'.2.2.1 M'.2.2.2.1 :: xGw) := fun w hw => by
  have hm : w ∈ xGw := by
    rcases List.mem_cons.mp hw with e | e
    · rw [e]; exact h.1
    · exact e
  exact ⟨hm, good_of_word (List.mem_filter.mp hm).2⟩
section X6
variable {G : xG} {d : Nat} {M M' : xM} {pc : Nat} {lo : xL} {st : List Value} {σ : xS} {Q Q' : Option Value → xS → Prop}
theorem xblind {As : List Value} : FrameBlind (va_Pc As (fun U => xrel G σ U.heap ∧ xK G U)) := fun a U g mk h => ⟨h.1, h.2.1, xK.same (s := U) rfl h.2.2⟩
theorem xcall_go {p : Program} {e : Env} {R : Room} {s : State} {m : MethodId} {args a : Array Value} {below : List Frame} {meth : Method} {c : Code} {H : Heap} {locs : List Loc} {cells slots mc ms : Nat} {Qw : State → Prop} {ls : Array Slot} {st0 rest : List Value} {v : Option Value} {σ' : xS}
    (hr : va_Run p G.1 e R s m args below meth c H locs cells slots mc ms (F0 m pc ls st0) rest (xQc G v σ' a) (fun q => G.2.2.2 ≤ q)) (hf : xfr G s H locs)
    (kk : ∀ H1 locs1, xrel G σ' H1 → xfr G s H1 locs1 → W p G.1 e R s m args below meth c H1 locs1 (cells + mc) (slots + ms) Qw (F0 m (pc + 3) ls (v.toList ++ rest))) : W p G.1 e R s m args below meth c H locs cells slots Qw (F0 m pc ls st0) := by
  intro T hT X
  obtain ⟨v', st₀, t, T', L, h0, X', hL, e1, e2, ⟨hv, hrel, hk⟩, stp⟩ := hr T hT X
  cases hv
  obtain ⟨t2, a1, b1⟩ := kk T'.heap (locs ++ L) (by rw [e1]; exact hrel) ⟨fun q hq => by rw [e1, hk q hq, h0]; exact hf.1 q hq, fun l hl => (List.mem_append.mp hl).elim (fun h => hf.2 l h) (fun h => hL l h)⟩ T' rfl X'
  exact ⟨t2, stp t2 a1, b1⟩
theorem xi_callV {idx b ci n : Nat} {fs As rest : List Value} (hd : M.2.2.2.2.lookup pc = some ((182, idx, 0), 3)) (hml : xml M' n) (hin : ∀ w ∈ [Cond.instanceMethod M'.1, Cond.selects M'.1.cls M'.1 M'.1], w ∈ xGw) (hlk : xlk M.1.cls idx M')
    (hm : xm G d M' (rf G b :: As) σ Q') (ha : σ.1 b = some (ci, fs)) (hc : ∃ r : vw_C, vwCl[ci]? = some r ∧ r.1 = M'.1.cls) (hn : As.length = n) (hst : st = As.reverse ++ rf G b :: rest) (hrest : (rest.map fun v => v.category).sum ≤ 8)
    (kk : ∀ v σ', Q' v σ' → xw G (d + 1) M (pc + 3) lo (v.toList ++ rest) σ' Q) : xw G (d + 1) M pc lo st σ Q := by
  obtain ⟨v, σ1, hq1, l1, l2, hM⟩ := hm
  obtain ⟨v2, σ2, hq2, l3, l4, k⟩ := kk v σ1 hq1
  refine ⟨v2, σ2, hq2, by omega, by omega, fun n0 s0 p e R s m args below meth c H locs ls C a1 a2 hr hf hl => ?_⟩
  obtain ⟨hx, hb, hmL, hre, hlks, ho, hnm, hts, hK, hR1, hR2, hRc, hRs, ht, hN0⟩ := id C
  obtain ⟨r, hcr, hcn⟩ := hc
  obtain ⟨r', hcr', hlen, cell, q1, q2, q3, -⟩ := (hr.2 b _ ha).obj (xlen hcr)
  cases hcr.symm.trans hcr'
  have hcell : ∃ cellB : Cell, H[G.2.2.2 + b]? = some cellB ∧ cellB.vm.isStatics = false ∧ s.vm.findClass M'.1.cls = some cellB.cls := ⟨cell, q1, by rw [q3]; rfl, by rw [q2, ← hcn]; exact (hK.1.1 ci _ hcr).2.1⟩
  have hpre : PreV s H M'.1.cls (G.2.2.2 + b) (va_Pc (rf G b :: As) (fun U => xrel G σ U.heap ∧ xK G U)) As := ⟨xblind, hcell, fun U hU hW => ⟨rfl, by rw [hU]; exact hr, hK.moved hW⟩⟩
  have hdd : M'.1.cls ≠ "java/lang/invoke/MethodHandle" ∧ M'.1.cls ≠ "java/lang/invoke/VarHandle" ∧ (parseMethodDescriptor M'.1.desc).map (fun d => d.parameters.length) = some n := ⟨hml.2.2.1.1, hml.2.2.1.2, hml.2.2.2.1⟩
  have hRR : d + 1 ≤ R.frames ∧ 8 + (M'.2.2.1 + 11) + 50 * d ≤ R.locals := ⟨hR1, by have := hml.2.2.2.2; omega⟩
  have hfit : (σ.2.1 - n0) + (σ1.2.1 - σ.2.1) ≤ R.cells ∧ (σ.2.2 - s0) + (σ1.2.2 - σ.2.2) ≤ R.slots := ⟨by omega, by omega⟩
  have hrun : va_Run p G.1 e R s m args below meth c H locs (σ.2.1 - n0) (σ.2.2 - s0) (σ1.2.1 - σ.2.1) (σ1.2.2 - σ.2.2) (F0 m pc ls st) rest (xQc G v σ1 (Value.ref (G.2.2.2 + b) :: As).toArray) (fun q => G.2.2.2 ≤ q) := by
    rcases hlk with hlk | ⟨host, hlk⟩
    · exact va_runV (As := As) (rest := rest) ⟨hx, hb, hmL, ho, hts⟩ hM ⟨callB_of n hts (xgood hml) rfl rfl rfl (hts _ hml.2.1) (hts _ hlk) hdd hRR, hts _ (hin _ (by simp)), hts _ (hin _ (by simp))⟩ hpre rfl hn hl.2.1.1 hst (lv_room hrest) (ht _ (xlook hd)).1 hfit
    · exact va_runVN (As := As) (rest := rest) ⟨hx, hb, hmL, ho, hts⟩ hM ⟨va_cnB n hts (xgood hml) rfl rfl rfl (hK.2.1 _ hlk) (hts _ hml.2.1) hdd hRR, hts _ (hin _ (by simp)), hts _ (hin _ (by simp))⟩ hpre rfl hn hl.2.1.1 hst (lv_room hrest) (ht _ (xlook hd)).1 hfit
  refine xcall_go hrun hf fun H1 locs1 hr1 hf1 => ?_
  exact W.cs (by omega) (by omega) (k n0 s0 p e R s m args below meth c H1 locs1 ls C (by omega) (by omega) hr1 hf1 hl)
theorem xi_callI {idx b n : Nat} {As rest : List Value} (hd : M.2.2.2.2.lookup pc = some ((183, idx, 0), 3)) (hret : M'.2.2.2.1 = none) (hini : M'.1.name = "<init>") (hml : xml M' n) (hin : Cond.instanceMethod M'.1 ∈ xGw) (hlk : xlk M.1.cls idx M')
    (hm : xm G d M' (rf G b :: As) σ Q') (hn : As.length = n) (hst : st = As.reverse ++ rf G b :: rest) (hrest : (rest.map fun v => v.category).sum ≤ 8)
    (kk : ∀ v σ', Q' v σ' → xw G (d + 1) M (pc + 3) lo (v.toList ++ rest) σ' Q) : xw G (d + 1) M pc lo st σ Q := by
  obtain ⟨v, σ1, hq1, l1, l2, hM⟩ := hm
  obtain ⟨v2, σ2, hq2, l3, l4, k⟩ := kk v σ1 hq1
  refine ⟨v2, σ2, hq2, by omega, by omega, fun n0 s0 p e R s m args below meth c H locs ls C a1 a2 hr hf hl => ?_⟩
  obtain ⟨hx, hb, hmL, hre, hlks, ho, hnm, hts, hK, hR1, hR2, hRc, hRs, ht, hN0⟩ := id C
  have hpre : PreS s H (va_Pc (rf G b :: As) (fun U => xrel G σ U.heap ∧ xK G U)) (rf G b :: As) := ⟨xblind, fun U hU hW => ⟨rfl, by rw [hU]; exact hr, hK.moved hW⟩⟩
  have hdd : M'.1.cls ≠ "java/lang/invoke/MethodHandle" ∧ M'.1.cls ≠ "java/lang/invoke/VarHandle" ∧ (parseMethodDescriptor M'.1.desc).map (fun d => d.parameters.length) = some n := ⟨hml.2.2.1.1, hml.2.2.1.2, hml.2.2.2.1⟩
  have hRR : d + 1 ≤ R.frames ∧ 8 + (M'.2.2.1 + 11) + 50 * d ≤ R.locals := ⟨hR1, by have := hml.2.2.2.2; omega⟩
  have hfit : (σ.2.1 - n0) + (σ1.2.1 - σ.2.1) ≤ R.cells ∧ (σ.2.2 - s0) + (σ1.2.2 - σ.2.2) ≤ R.slots := ⟨by omega, by omega⟩
  have hw : (Cond.code M'.1 M'.2.1 M'.2.2.1 M'.2.2.2.1 :: xGw) = (Cond.code M'.1 M'.2.1 M'.2.2.1 none :: xGw) := by rw [hret]
  have hrun : va_Run p G.1 e R s m args below meth c H locs (σ.2.1 - n0) (σ.2.2 - s0) (σ1.2.1 - σ.2.1) (σ1.2.2 - σ.2.2) (F0 m pc ls st) rest (xQc G v σ1 (Value.ref (G.2.2.2 + b) :: As).toArray) (fun q => G.2.2.2 ≤ q) := by
    rcases hlk with hlk | ⟨host, hlk⟩
    · exact va_runI (As := As) (rest := rest) ⟨hx, hb, hmL, ho, hts⟩ hM ⟨callB_of n hts (xgood hml) hw rfl rfl (hts _ hml.2.1) (hts _ hlk) hdd hRR, hini, hts _ hin⟩ hpre rfl hn hl.2.1.1 hst (lv_room hrest) (ht _ (xlook hd)).1 hfit
    · exact va_runIN (As := As) (rest := rest) ⟨hx, hb, hmL, ho, hts⟩ hM ⟨va_cnB n hts (xgood hml) hw rfl rfl (hK.2.1 _ hlk) (hts _ hml.2.1) hdd hRR, hini, hts _ hin⟩ hpre rfl hn hl.2.1.1 hst (lv_room hrest) (ht _ (xlook hd)).1 hfit
  refine xcall_go hrun hf fun H1 locs1 hr1 hf1 => ?_
  exact W.cs (by omega) (by omega) (k n0 s0 p e R s m args below meth c H1 locs1 ls C (by omega) (by omega) hr1 hf1 hl)
theorem xi_callS {idx n : Nat} {As rest : List Value} (hd : M.2.2.2.2.lookup pc = some ((184, idx, 0), 3)) (hml : xml M' n) (hin : Cond.static M'.1 ∈ xGw) (hlk : xlk M.1.cls idx M')
    (hm : xm G d M' As σ Q') (hn : As.length = n) (hst : st = As.reverse ++ rest) (hrest : (rest.map fun v => v.category).sum ≤ 8)
    (kk : ∀ v σ', Q' v σ' → xw G (d + 1) M (pc + 3) lo (v.toList ++ rest) σ' Q) : xw G (d + 1) M pc lo st σ Q := by
  obtain ⟨v, σ1, hq1, l1, l2, hM⟩ := hm
  obtain ⟨v2, σ2, hq2, l3, l4, k⟩ := kk v σ1 hq1
  refine ⟨v2, σ2, hq2, by omega, by omega, fun n0 s0 p e R s m args below meth c H locs ls C a1 a2 hr hf hl => ?_⟩
  obtain ⟨hx, hb, hmL, hre, hlks, ho, hnm, hts, hK, hR1, hR2, hRc, hRs, ht, hN0⟩ := id C
  have hpre : PreS s H (va_Pc As (fun U => xrel G σ U.heap ∧ xK G U)) As := ⟨xblind, fun U hU hW => ⟨rfl, by rw [hU]; exact hr, hK.moved hW⟩⟩
  have hdd : M'.1.cls ≠ "java/lang/invoke/MethodHandle" ∧ M'.1.cls ≠ "java/lang/invoke/VarHandle" ∧ (parseMethodDescriptor M'.1.desc).map (fun d => d.parameters.length) = some n := ⟨hml.2.2.1.1, hml.2.2.1.2, hml.2.2.2.1⟩
  have hRR : d + 1 ≤ R.frames ∧ 8 + (M'.2.2.1 + 11) + 50 * d ≤ R.locals := ⟨hR1, by have := hml.2.2.2.2; omega⟩
  have hfit : (σ.2.1 - n0) + (σ1.2.1 - σ.2.1) ≤ R.cells ∧ (σ.2.2 - s0) + (σ1.2.2 - σ.2.2) ≤ R.slots := ⟨by omega, by omega⟩
  have hrun : va_Run p G.1 e R s m args below meth c H locs (σ.2.1 - n0) (σ.2.2 - s0) (σ1.2.1 - σ.2.1) (σ1.2.2 - σ.2.2) (F0 m pc ls st) rest (xQc G v σ1 As.toArray) (fun q => G.2.2.2 ≤ q) := by
    rcases hlk with hlk | ⟨host, hlk⟩
    · exact va_runS (As := As) (rest := rest) ⟨hx, hb, hmL, ho, hts⟩ hM ⟨callB_of n hts (xgood hml) rfl rfl rfl (hts _ hml.2.1) (hts _ hlk) hdd hRR, hts _ hin⟩ hpre rfl hn hl.2.1.1 hst (lv_room hrest) (ht _ (xlook hd)).1 hfit
    · exact va_runSN (As := As) (rest := rest) ⟨hx, hb, hmL, ho, hts⟩ hM ⟨va_cnB n hts (xgood hml) rfl rfl rfl (hK.2.1 _ hlk) (hts _ hml.2.1) hdd hRR, hts _ hin, trivial⟩ hpre rfl hn hl.2.1.1 hst (lv_room hrest) (ht _ (xlook hd)).1 hfit
  refine xcall_go hrun hf fun H1 locs1 hr1 hf1 => ?_
  exact W.cs (by omega) (by omega) (k n0 s0 p e R s m args below meth c H1 locs1 ls C (by omega) (by omega) hr1 hf1 hl)
end X6
end
