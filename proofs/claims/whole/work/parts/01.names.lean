-- ===== PART A: goes FIRST, ahead of the names: the tables' words, and 'selects' of the private methods out of them =====
/-- a private method of a class that the tables say can be made, by its rows of tables_1 -/
def lw_okq (q : MethodName × Nat) : Prop := (q.1.cls ≠ "java/lang/invoke/MethodHandle" ∧ q.1.cls ≠ "java/lang/invoke/VarHandle") ∧ Cond.instantiable q.1.cls q.2 ∈ tables_1 ∧ Cond.privateMethod q.1 ∈ tables_1 ∧ Cond.instanceMethod q.1 ∈ tables_1
theorem lw_p0 : lw_okq (⟨"ScanCompare$Config", "note", "(II)V"⟩, 6) := ⟨⟨by decide +kernel, by decide +kernel⟩, List.mem_of_getElem? (i := 129) (by decide +kernel), List.mem_of_getElem? (i := 548) (by decide +kernel), List.mem_of_getElem? (i := 549) (by decide +kernel)⟩
theorem lw_p1 : lw_okq (⟨"ScanCompare$Image", "span", "(JI)J"⟩, 4) := ⟨⟨by decide +kernel, by decide +kernel⟩, List.mem_of_getElem? (i := 45) (by decide +kernel), List.mem_of_getElem? (i := 564) (by decide +kernel), List.mem_of_getElem? (i := 565) (by decide +kernel)⟩
theorem lw_p2 : lw_okq (⟨"ScanCompare$Blobs", "begin", "(LScanCompare$Image;)V"⟩, 6) := ⟨⟨by decide +kernel, by decide +kernel⟩, List.mem_of_getElem? (i := 91) (by decide +kernel), List.mem_of_getElem? (i := 597) (by decide +kernel), List.mem_of_getElem? (i := 598) (by decide +kernel)⟩
theorem lw_p3 : lw_okq (⟨"ScanCompare$Blobs", "findNext", "()Z"⟩, 6) := ⟨⟨by decide +kernel, by decide +kernel⟩, List.mem_of_getElem? (i := 91) (by decide +kernel), List.mem_of_getElem? (i := 602) (by decide +kernel), List.mem_of_getElem? (i := 603) (by decide +kernel)⟩
theorem lw_p4 : lw_okq (⟨"ScanCompare$Blobs", "grow", "()V"⟩, 6) := ⟨⟨by decide +kernel, by decide +kernel⟩, List.mem_of_getElem? (i := 91) (by decide +kernel), List.mem_of_getElem? (i := 606) (by decide +kernel), List.mem_of_getElem? (i := 607) (by decide +kernel)⟩
theorem lw_p5 : lw_okq (⟨"ScanCompare$Blobs", "spread", "(I)Z"⟩, 6) := ⟨⟨by decide +kernel, by decide +kernel⟩, List.mem_of_getElem? (i := 91) (by decide +kernel), List.mem_of_getElem? (i := 610) (by decide +kernel), List.mem_of_getElem? (i := 611) (by decide +kernel)⟩
theorem lw_p6 : lw_okq (⟨"ScanCompare$Blobs", "blobAt", "(I)J"⟩, 6) := ⟨⟨by decide +kernel, by decide +kernel⟩, List.mem_of_getElem? (i := 91) (by decide +kernel), List.mem_of_getElem? (i := 614) (by decide +kernel), List.mem_of_getElem? (i := 615) (by decide +kernel)⟩
theorem lw_p7 : lw_okq (⟨"ScanCompare$Blobs", "close", "()V"⟩, 6) := ⟨⟨by decide +kernel, by decide +kernel⟩, List.mem_of_getElem? (i := 91) (by decide +kernel), List.mem_of_getElem? (i := 622) (by decide +kernel), List.mem_of_getElem? (i := 623) (by decide +kernel)⟩
theorem lw_p8 : lw_okq (⟨"ScanCompare$Blobs", "pixels", "()I"⟩, 6) := ⟨⟨by decide +kernel, by decide +kernel⟩, List.mem_of_getElem? (i := 91) (by decide +kernel), List.mem_of_getElem? (i := 627) (by decide +kernel), List.mem_of_getElem? (i := 628) (by decide +kernel)⟩
theorem lw_p9 : lw_okq (⟨"ScanCompare$Blobs", "erase", "(LScanCompare$Image;)V"⟩, 6) := ⟨⟨by decide +kernel, by decide +kernel⟩, List.mem_of_getElem? (i := 91) (by decide +kernel), List.mem_of_getElem? (i := 637) (by decide +kernel), List.mem_of_getElem? (i := 638) (by decide +kernel)⟩
theorem lw_p10 : lw_okq (⟨"ScanCompare$Registration", "countCells", "(LScanCompare$Image;[I)V"⟩, 14) := ⟨⟨by decide +kernel, by decide +kernel⟩, List.mem_of_getElem? (i := 243) (by decide +kernel), List.mem_of_getElem? (i := 656) (by decide +kernel), List.mem_of_getElem? (i := 657) (by decide +kernel)⟩
theorem lw_p11 : lw_okq (⟨"ScanCompare$Registration", "cellColumns", "()I"⟩, 14) := ⟨⟨by decide +kernel, by decide +kernel⟩, List.mem_of_getElem? (i := 243) (by decide +kernel), List.mem_of_getElem? (i := 660) (by decide +kernel), List.mem_of_getElem? (i := 661) (by decide +kernel)⟩
theorem lw_p12 : lw_okq (⟨"ScanCompare$Registration", "cellRows", "()I"⟩, 14) := ⟨⟨by decide +kernel, by decide +kernel⟩, List.mem_of_getElem? (i := 243) (by decide +kernel), List.mem_of_getElem? (i := 664) (by decide +kernel), List.mem_of_getElem? (i := 665) (by decide +kernel)⟩
theorem lw_p13 : lw_okq (⟨"ScanCompare$Registration", "look", "(LScanCompare$Image;ZI)V"⟩, 14) := ⟨⟨by decide +kernel, by decide +kernel⟩, List.mem_of_getElem? (i := 243) (by decide +kernel), List.mem_of_getElem? (i := 674) (by decide +kernel), List.mem_of_getElem? (i := 675) (by decide +kernel)⟩
theorem lw_p14 : lw_okq (⟨"ScanCompare$Image", "mirrored", "(J)J"⟩, 4) := ⟨⟨by decide +kernel, by decide +kernel⟩, List.mem_of_getElem? (i := 45) (by decide +kernel), List.mem_of_getElem? (i := 682) (by decide +kernel), List.mem_of_getElem? (i := 683) (by decide +kernel)⟩
theorem lw_p15 : lw_okq (⟨"ScanCompare$Registration", "findCoarse", "(I)V"⟩, 14) := ⟨⟨by decide +kernel, by decide +kernel⟩, List.mem_of_getElem? (i := 243) (by decide +kernel), List.mem_of_getElem? (i := 695) (by decide +kernel), List.mem_of_getElem? (i := 696) (by decide +kernel)⟩
def lw_privs_1 : List (MethodName × Nat) := [(⟨"ScanCompare$Config", "note", "(II)V"⟩, 6), (⟨"ScanCompare$Image", "span", "(JI)J"⟩, 4), (⟨"ScanCompare$Blobs", "begin", "(LScanCompare$Image;)V"⟩, 6), (⟨"ScanCompare$Blobs", "findNext", "()Z"⟩, 6), (⟨"ScanCompare$Blobs", "grow", "()V"⟩, 6), (⟨"ScanCompare$Blobs", "spread", "(I)Z"⟩, 6), (⟨"ScanCompare$Blobs", "blobAt", "(I)J"⟩, 6), (⟨"ScanCompare$Blobs", "close", "()V"⟩, 6), (⟨"ScanCompare$Blobs", "pixels", "()I"⟩, 6), (⟨"ScanCompare$Blobs", "erase", "(LScanCompare$Image;)V"⟩, 6), (⟨"ScanCompare$Registration", "countCells", "(LScanCompare$Image;[I)V"⟩, 14), (⟨"ScanCompare$Registration", "cellColumns", "()I"⟩, 14), (⟨"ScanCompare$Registration", "cellRows", "()I"⟩, 14), (⟨"ScanCompare$Registration", "look", "(LScanCompare$Image;ZI)V"⟩, 14), (⟨"ScanCompare$Image", "mirrored", "(J)J"⟩, 4), (⟨"ScanCompare$Registration", "findCoarse", "(I)V"⟩, 14)]
theorem lw_r1 : ∀ q ∈ lw_privs_1, lw_okq q := List.forall_mem_cons.mpr ⟨lw_p0, List.forall_mem_cons.mpr ⟨lw_p1, List.forall_mem_cons.mpr ⟨lw_p2, List.forall_mem_cons.mpr ⟨lw_p3, List.forall_mem_cons.mpr ⟨lw_p4, List.forall_mem_cons.mpr ⟨lw_p5, List.forall_mem_cons.mpr ⟨lw_p6, List.forall_mem_cons.mpr ⟨lw_p7, List.forall_mem_cons.mpr ⟨lw_p8, List.forall_mem_cons.mpr ⟨lw_p9, List.forall_mem_cons.mpr ⟨lw_p10, List.forall_mem_cons.mpr ⟨lw_p11, List.forall_mem_cons.mpr ⟨lw_p12, List.forall_mem_cons.mpr ⟨lw_p13, List.forall_mem_cons.mpr ⟨lw_p14, List.forall_mem_cons.mpr ⟨lw_p15, fun _ h => absurd h List.not_mem_nil⟩⟩⟩⟩⟩⟩⟩⟩⟩⟩⟩⟩⟩⟩⟩⟩
theorem lw_p16 : lw_okq (⟨"ScanCompare$Registration", "coarseCost", "(II)I"⟩, 14) := ⟨⟨by decide +kernel, by decide +kernel⟩, List.mem_of_getElem? (i := 243) (by decide +kernel), List.mem_of_getElem? (i := 699) (by decide +kernel), List.mem_of_getElem? (i := 700) (by decide +kernel)⟩
theorem lw_p17 : lw_okq (⟨"ScanCompare$Registration", "offer", "(III)V"⟩, 14) := ⟨⟨by decide +kernel, by decide +kernel⟩, List.mem_of_getElem? (i := 243) (by decide +kernel), List.mem_of_getElem? (i := 709) (by decide +kernel), List.mem_of_getElem? (i := 710) (by decide +kernel)⟩
theorem lw_p18 : lw_okq (⟨"ScanCompare$Registration", "findFine", "(LScanCompare$Image;III)V"⟩, 14) := ⟨⟨by decide +kernel, by decide +kernel⟩, List.mem_of_getElem? (i := 243) (by decide +kernel), List.mem_of_getElem? (i := 713) (by decide +kernel), List.mem_of_getElem? (i := 714) (by decide +kernel)⟩
theorem lw_p19 : lw_okq (⟨"ScanCompare$Image", "inkAround", "(II)J"⟩, 4) := ⟨⟨by decide +kernel, by decide +kernel⟩, List.mem_of_getElem? (i := 45) (by decide +kernel), List.mem_of_getElem? (i := 736) (by decide +kernel), List.mem_of_getElem? (i := 737) (by decide +kernel)⟩
theorem lw_p20 : lw_okq (⟨"ScanCompare$Comparison", "measureBlocks", "(I)V"⟩, 20) := ⟨⟨by decide +kernel, by decide +kernel⟩, List.mem_of_getElem? (i := 232) (by decide +kernel), List.mem_of_getElem? (i := 746) (by decide +kernel), List.mem_of_getElem? (i := 747) (by decide +kernel)⟩
theorem lw_p21 : lw_okq (⟨"ScanCompare$Comparison", "blockCount", "()I"⟩, 20) := ⟨⟨by decide +kernel, by decide +kernel⟩, List.mem_of_getElem? (i := 232) (by decide +kernel), List.mem_of_getElem? (i := 751) (by decide +kernel), List.mem_of_getElem? (i := 752) (by decide +kernel)⟩
theorem lw_p22 : lw_okq (⟨"ScanCompare$Comparison", "group", "(I[I)I"⟩, 20) := ⟨⟨by decide +kernel, by decide +kernel⟩, List.mem_of_getElem? (i := 232) (by decide +kernel), List.mem_of_getElem? (i := 759) (by decide +kernel), List.mem_of_getElem? (i := 760) (by decide +kernel)⟩
theorem lw_p23 : lw_okq (⟨"ScanCompare$Comparison", "mark", "(III[I)V"⟩, 20) := ⟨⟨by decide +kernel, by decide +kernel⟩, List.mem_of_getElem? (i := 232) (by decide +kernel), List.mem_of_getElem? (i := 763) (by decide +kernel), List.mem_of_getElem? (i := 764) (by decide +kernel)⟩
theorem lw_p24 : lw_okq (⟨"ScanCompare$Comparison", "join", "(III[II)I"⟩, 20) := ⟨⟨by decide +kernel, by decide +kernel⟩, List.mem_of_getElem? (i := 232) (by decide +kernel), List.mem_of_getElem? (i := 767) (by decide +kernel), List.mem_of_getElem? (i := 768) (by decide +kernel)⟩
theorem lw_p25 : lw_okq (⟨"ScanCompare$Comparison", "formRegions", "()V"⟩, 20) := ⟨⟨by decide +kernel, by decide +kernel⟩, List.mem_of_getElem? (i := 232) (by decide +kernel), List.mem_of_getElem? (i := 771) (by decide +kernel), List.mem_of_getElem? (i := 772) (by decide +kernel)⟩
theorem lw_p26 : lw_okq (⟨"ScanCompare$Comparison", "find", "(I)LScanCompare$Region;"⟩, 20) := ⟨⟨by decide +kernel, by decide +kernel⟩, List.mem_of_getElem? (i := 232) (by decide +kernel), List.mem_of_getElem? (i := 775) (by decide +kernel), List.mem_of_getElem? (i := 776) (by decide +kernel)⟩
theorem lw_p27 : lw_okq (⟨"ScanCompare$Comparison", "collect", "(LScanCompare$Part;LScanCompare$Image;I)V"⟩, 20) := ⟨⟨by decide +kernel, by decide +kernel⟩, List.mem_of_getElem? (i := 232) (by decide +kernel), List.mem_of_getElem? (i := 822) (by decide +kernel), List.mem_of_getElem? (i := 823) (by decide +kernel)⟩
theorem lw_p28 : lw_okq (⟨"ScanCompare$Comparison", "spanOf", "(II)J"⟩, 20) := ⟨⟨by decide +kernel, by decide +kernel⟩, List.mem_of_getElem? (i := 232) (by decide +kernel), List.mem_of_getElem? (i := 830) (by decide +kernel), List.mem_of_getElem? (i := 831) (by decide +kernel)⟩
theorem lw_p29 : lw_okq (⟨"ScanCompare$Comparison", "sortRegions", "(Z)V"⟩, 20) := ⟨⟨by decide +kernel, by decide +kernel⟩, List.mem_of_getElem? (i := 232) (by decide +kernel), List.mem_of_getElem? (i := 865) (by decide +kernel), List.mem_of_getElem? (i := 866) (by decide +kernel)⟩
theorem lw_p30 : lw_okq (⟨"ScanCompare$Comparison", "sortByKey", "()V"⟩, 20) := ⟨⟨by decide +kernel, by decide +kernel⟩, List.mem_of_getElem? (i := 232) (by decide +kernel), List.mem_of_getElem? (i := 874) (by decide +kernel), List.mem_of_getElem? (i := 875) (by decide +kernel)⟩
theorem lw_p31 : lw_okq (⟨"ScanCompare$Comparison", "pairParts", "(I)V"⟩, 20) := ⟨⟨by decide +kernel, by decide +kernel⟩, List.mem_of_getElem? (i := 232) (by decide +kernel), List.mem_of_getElem? (i := 888) (by decide +kernel), List.mem_of_getElem? (i := 889) (by decide +kernel)⟩
def lw_privs_2 : List (MethodName × Nat) := [(⟨"ScanCompare$Registration", "coarseCost", "(II)I"⟩, 14), (⟨"ScanCompare$Registration", "offer", "(III)V"⟩, 14), (⟨"ScanCompare$Registration", "findFine", "(LScanCompare$Image;III)V"⟩, 14), (⟨"ScanCompare$Image", "inkAround", "(II)J"⟩, 4), (⟨"ScanCompare$Comparison", "measureBlocks", "(I)V"⟩, 20), (⟨"ScanCompare$Comparison", "blockCount", "()I"⟩, 20), (⟨"ScanCompare$Comparison", "group", "(I[I)I"⟩, 20), (⟨"ScanCompare$Comparison", "mark", "(III[I)V"⟩, 20), (⟨"ScanCompare$Comparison", "join", "(III[II)I"⟩, 20), (⟨"ScanCompare$Comparison", "formRegions", "()V"⟩, 20), (⟨"ScanCompare$Comparison", "find", "(I)LScanCompare$Region;"⟩, 20), (⟨"ScanCompare$Comparison", "collect", "(LScanCompare$Part;LScanCompare$Image;I)V"⟩, 20), (⟨"ScanCompare$Comparison", "spanOf", "(II)J"⟩, 20), (⟨"ScanCompare$Comparison", "sortRegions", "(Z)V"⟩, 20), (⟨"ScanCompare$Comparison", "sortByKey", "()V"⟩, 20), (⟨"ScanCompare$Comparison", "pairParts", "(I)V"⟩, 20)]
theorem lw_r2 : ∀ q ∈ lw_privs_2, lw_okq q := List.forall_mem_cons.mpr ⟨lw_p16, List.forall_mem_cons.mpr ⟨lw_p17, List.forall_mem_cons.mpr ⟨lw_p18, List.forall_mem_cons.mpr ⟨lw_p19, List.forall_mem_cons.mpr ⟨lw_p20, List.forall_mem_cons.mpr ⟨lw_p21, List.forall_mem_cons.mpr ⟨lw_p22, List.forall_mem_cons.mpr ⟨lw_p23, List.forall_mem_cons.mpr ⟨lw_p24, List.forall_mem_cons.mpr ⟨lw_p25, List.forall_mem_cons.mpr ⟨lw_p26, List.forall_mem_cons.mpr ⟨lw_p27, List.forall_mem_cons.mpr ⟨lw_p28, List.forall_mem_cons.mpr ⟨lw_p29, List.forall_mem_cons.mpr ⟨lw_p30, List.forall_mem_cons.mpr ⟨lw_p31, fun _ h => absurd h List.not_mem_nil⟩⟩⟩⟩⟩⟩⟩⟩⟩⟩⟩⟩⟩⟩⟩⟩
theorem lw_p32 : lw_okq (⟨"ScanCompare$Comparison", "pair", "(LScanCompare$Part;)V"⟩, 20) := ⟨⟨by decide +kernel, by decide +kernel⟩, List.mem_of_getElem? (i := 232) (by decide +kernel), List.mem_of_getElem? (i := 892) (by decide +kernel), List.mem_of_getElem? (i := 893) (by decide +kernel)⟩
theorem lw_p33 : lw_okq (⟨"ScanCompare$Comparison", "listChanges", "(ZLScanCompare$Stamps;)V"⟩, 20) := ⟨⟨by decide +kernel, by decide +kernel⟩, List.mem_of_getElem? (i := 232) (by decide +kernel), List.mem_of_getElem? (i := 902) (by decide +kernel), List.mem_of_getElem? (i := 903) (by decide +kernel)⟩
theorem lw_p34 : lw_okq (⟨"ScanCompare$Comparison", "list", "(LScanCompare$Part;ZLScanCompare$Stamps;LScanCompare$Image;)V"⟩, 20) := ⟨⟨by decide +kernel, by decide +kernel⟩, List.mem_of_getElem? (i := 232) (by decide +kernel), List.mem_of_getElem? (i := 906) (by decide +kernel), List.mem_of_getElem? (i := 907) (by decide +kernel)⟩
theorem lw_p35 : lw_okq (⟨"ScanCompare$Image", "startsLine", "(I)Z"⟩, 4) := ⟨⟨by decide +kernel, by decide +kernel⟩, List.mem_of_getElem? (i := 45) (by decide +kernel), List.mem_of_getElem? (i := 919) (by decide +kernel), List.mem_of_getElem? (i := 920) (by decide +kernel)⟩
theorem lw_p36 : lw_okq (⟨"ScanCompare", "pageAt", "(I)LScanCompare$Image;"⟩, 14) := ⟨⟨by decide +kernel, by decide +kernel⟩, List.mem_of_getElem? (i := 30) (by decide +kernel), List.mem_of_getElem? (i := 934) (by decide +kernel), List.mem_of_getElem? (i := 935) (by decide +kernel)⟩
theorem lw_p37 : lw_okq (⟨"java/lang/Throwable", "fillInStackTrace", "(I)Ljava/lang/Throwable;"⟩, 6) := ⟨⟨by decide +kernel, by decide +kernel⟩, List.mem_of_getElem? (i := 976) (by decide +kernel), List.mem_of_getElem? (i := 974) (by decide +kernel), List.mem_of_getElem? (i := 975) (by decide +kernel)⟩
theorem lw_p38 : lw_okq (⟨"ScanCompare", "requireRow", "(I)V"⟩, 14) := ⟨⟨by decide +kernel, by decide +kernel⟩, List.mem_of_getElem? (i := 30) (by decide +kernel), List.mem_of_getElem? (i := 1006) (by decide +kernel), List.mem_of_getElem? (i := 1007) (by decide +kernel)⟩
theorem lw_p39 : lw_okq (⟨"ScanCompare$History", "slotAt", "(I)I"⟩, 4) := ⟨⟨by decide +kernel, by decide +kernel⟩, List.mem_of_getElem? (i := 69) (by decide +kernel), List.mem_of_getElem? (i := 1023) (by decide +kernel), List.mem_of_getElem? (i := 1024) (by decide +kernel)⟩
theorem lw_p40 : lw_okq (⟨"ScanCompare$Text", "errorAtMark", "(II)I"⟩, 2) := ⟨⟨by decide +kernel, by decide +kernel⟩, List.mem_of_getElem? (i := 116) (by decide +kernel), List.mem_of_getElem? (i := 1116) (by decide +kernel), List.mem_of_getElem? (i := 1117) (by decide +kernel)⟩
theorem lw_p41 : lw_okq (⟨"ScanCompare$Config", "describeOne", "(LScanCompare$Setting;LScanCompare$Probe;)V"⟩, 6) := ⟨⟨by decide +kernel, by decide +kernel⟩, List.mem_of_getElem? (i := 129) (by decide +kernel), List.mem_of_getElem? (i := 1284) (by decide +kernel), List.mem_of_getElem? (i := 1285) (by decide +kernel)⟩
theorem lw_p42 : lw_okq (⟨"ScanCompare", "registration", "()LScanCompare$Registration;"⟩, 14) := ⟨⟨by decide +kernel, by decide +kernel⟩, List.mem_of_getElem? (i := 30) (by decide +kernel), List.mem_of_getElem? (i := 1335) (by decide +kernel), List.mem_of_getElem? (i := 1336) (by decide +kernel)⟩
theorem lw_p43 : lw_okq (⟨"ScanCompare", "requireComparison", "()V"⟩, 14) := ⟨⟨by decide +kernel, by decide +kernel⟩, List.mem_of_getElem? (i := 30) (by decide +kernel), List.mem_of_getElem? (i := 1339) (by decide +kernel), List.mem_of_getElem? (i := 1340) (by decide +kernel)⟩
theorem lw_p44 : lw_okq (⟨"ScanCompare", "regionOf", "(I)LScanCompare$Region;"⟩, 14) := ⟨⟨by decide +kernel, by decide +kernel⟩, List.mem_of_getElem? (i := 30) (by decide +kernel), List.mem_of_getElem? (i := 1426) (by decide +kernel), List.mem_of_getElem? (i := 1427) (by decide +kernel)⟩
theorem lw_p45 : lw_okq (⟨"ScanCompare", "changeOf", "(I)LScanCompare$Part;"⟩, 14) := ⟨⟨by decide +kernel, by decide +kernel⟩, List.mem_of_getElem? (i := 30) (by decide +kernel), List.mem_of_getElem? (i := 1484) (by decide +kernel), List.mem_of_getElem? (i := 1485) (by decide +kernel)⟩
theorem lw_p46 : lw_okq (⟨"ScanCompareModel", "isPage", "(I)Z"⟩, 82) := ⟨⟨by decide +kernel, by decide +kernel⟩, List.mem_of_getElem? (i := 1649) (by decide +kernel), List.mem_of_getElem? (i := 1914) (by decide +kernel), List.mem_of_getElem? (i := 1915) (by decide +kernel)⟩
theorem lw_p47 : lw_okq (⟨"ScanCompareModel", "fails", "(I)I"⟩, 82) := ⟨⟨by decide +kernel, by decide +kernel⟩, List.mem_of_getElem? (i := 1649) (by decide +kernel), List.mem_of_getElem? (i := 1922) (by decide +kernel), List.mem_of_getElem? (i := 1923) (by decide +kernel)⟩
def lw_privs_3 : List (MethodName × Nat) := [(⟨"ScanCompare$Comparison", "pair", "(LScanCompare$Part;)V"⟩, 20), (⟨"ScanCompare$Comparison", "listChanges", "(ZLScanCompare$Stamps;)V"⟩, 20), (⟨"ScanCompare$Comparison", "list", "(LScanCompare$Part;ZLScanCompare$Stamps;LScanCompare$Image;)V"⟩, 20), (⟨"ScanCompare$Image", "startsLine", "(I)Z"⟩, 4), (⟨"ScanCompare", "pageAt", "(I)LScanCompare$Image;"⟩, 14), (⟨"java/lang/Throwable", "fillInStackTrace", "(I)Ljava/lang/Throwable;"⟩, 6), (⟨"ScanCompare", "requireRow", "(I)V"⟩, 14), (⟨"ScanCompare$History", "slotAt", "(I)I"⟩, 4), (⟨"ScanCompare$Text", "errorAtMark", "(II)I"⟩, 2), (⟨"ScanCompare$Config", "describeOne", "(LScanCompare$Setting;LScanCompare$Probe;)V"⟩, 6), (⟨"ScanCompare", "registration", "()LScanCompare$Registration;"⟩, 14), (⟨"ScanCompare", "requireComparison", "()V"⟩, 14), (⟨"ScanCompare", "regionOf", "(I)LScanCompare$Region;"⟩, 14), (⟨"ScanCompare", "changeOf", "(I)LScanCompare$Part;"⟩, 14), (⟨"ScanCompareModel", "isPage", "(I)Z"⟩, 82), (⟨"ScanCompareModel", "fails", "(I)I"⟩, 82)]
theorem lw_r3 : ∀ q ∈ lw_privs_3, lw_okq q := List.forall_mem_cons.mpr ⟨lw_p32, List.forall_mem_cons.mpr ⟨lw_p33, List.forall_mem_cons.mpr ⟨lw_p34, List.forall_mem_cons.mpr ⟨lw_p35, List.forall_mem_cons.mpr ⟨lw_p36, List.forall_mem_cons.mpr ⟨lw_p37, List.forall_mem_cons.mpr ⟨lw_p38, List.forall_mem_cons.mpr ⟨lw_p39, List.forall_mem_cons.mpr ⟨lw_p40, List.forall_mem_cons.mpr ⟨lw_p41, List.forall_mem_cons.mpr ⟨lw_p42, List.forall_mem_cons.mpr ⟨lw_p43, List.forall_mem_cons.mpr ⟨lw_p44, List.forall_mem_cons.mpr ⟨lw_p45, List.forall_mem_cons.mpr ⟨lw_p46, List.forall_mem_cons.mpr ⟨lw_p47, fun _ h => absurd h List.not_mem_nil⟩⟩⟩⟩⟩⟩⟩⟩⟩⟩⟩⟩⟩⟩⟩⟩
theorem lw_p48 : lw_okq (⟨"ScanCompareModel", "rowOf", "(II)J"⟩, 82) := ⟨⟨by decide +kernel, by decide +kernel⟩, List.mem_of_getElem? (i := 1649) (by decide +kernel), List.mem_of_getElem? (i := 1926) (by decide +kernel), List.mem_of_getElem? (i := 1927) (by decide +kernel)⟩
theorem lw_p49 : lw_okq (⟨"ScanCompareModel", "takes", "(I)V"⟩, 82) := ⟨⟨by decide +kernel, by decide +kernel⟩, List.mem_of_getElem? (i := 1649) (by decide +kernel), List.mem_of_getElem? (i := 1934) (by decide +kernel), List.mem_of_getElem? (i := 1935) (by decide +kernel)⟩
theorem lw_p50 : lw_okq (⟨"ScanCompareModel", "edits", "(I)I"⟩, 82) := ⟨⟨by decide +kernel, by decide +kernel⟩, List.mem_of_getElem? (i := 1649) (by decide +kernel), List.mem_of_getElem? (i := 1938) (by decide +kernel), List.mem_of_getElem? (i := 1939) (by decide +kernel)⟩
theorem lw_p51 : lw_okq (⟨"ScanCompareModel", "isOn", "(JJ)Z"⟩, 82) := ⟨⟨by decide +kernel, by decide +kernel⟩, List.mem_of_getElem? (i := 1649) (by decide +kernel), List.mem_of_getElem? (i := 1946) (by decide +kernel), List.mem_of_getElem? (i := 1947) (by decide +kernel)⟩
theorem lw_p52 : lw_okq (⟨"ScanCompareModel", "at", "(IJJ)Z"⟩, 82) := ⟨⟨by decide +kernel, by decide +kernel⟩, List.mem_of_getElem? (i := 1649) (by decide +kernel), List.mem_of_getElem? (i := 1957) (by decide +kernel), List.mem_of_getElem? (i := 1958) (by decide +kernel)⟩
theorem lw_p53 : lw_okq (⟨"ScanCompareModel", "cleans", "([ZI)I"⟩, 82) := ⟨⟨by decide +kernel, by decide +kernel⟩, List.mem_of_getElem? (i := 1649) (by decide +kernel), List.mem_of_getElem? (i := 1975) (by decide +kernel), List.mem_of_getElem? (i := 1976) (by decide +kernel)⟩
theorem lw_p54 : lw_okq (⟨"ScanCompareModel", "gathers", "([ZI)I"⟩, 82) := ⟨⟨by decide +kernel, by decide +kernel⟩, List.mem_of_getElem? (i := 1649) (by decide +kernel), List.mem_of_getElem? (i := 1979) (by decide +kernel), List.mem_of_getElem? (i := 1980) (by decide +kernel)⟩
theorem lw_p55 : lw_okq (⟨"ScanCompareModel", "looks", "([ZII)V"⟩, 82) := ⟨⟨by decide +kernel, by decide +kernel⟩, List.mem_of_getElem? (i := 1649) (by decide +kernel), List.mem_of_getElem? (i := 1983) (by decide +kernel), List.mem_of_getElem? (i := 1984) (by decide +kernel)⟩
theorem lw_p56 : lw_okq (⟨"ScanCompareModel", "linesTo", "([ZII)I"⟩, 82) := ⟨⟨by decide +kernel, by decide +kernel⟩, List.mem_of_getElem? (i := 1649) (by decide +kernel), List.mem_of_getElem? (i := 1995) (by decide +kernel), List.mem_of_getElem? (i := 1996) (by decide +kernel)⟩
theorem lw_p57 : lw_okq (⟨"ScanCompareModel", "hasInk", "([ZII)Z"⟩, 82) := ⟨⟨by decide +kernel, by decide +kernel⟩, List.mem_of_getElem? (i := 1649) (by decide +kernel), List.mem_of_getElem? (i := 1999) (by decide +kernel), List.mem_of_getElem? (i := 2000) (by decide +kernel)⟩
theorem lw_p58 : lw_okq (⟨"ScanCompareModel", "topOf", "(II)I"⟩, 82) := ⟨⟨by decide +kernel, by decide +kernel⟩, List.mem_of_getElem? (i := 1649) (by decide +kernel), List.mem_of_getElem? (i := 2007) (by decide +kernel), List.mem_of_getElem? (i := 2008) (by decide +kernel)⟩
theorem lw_p59 : lw_okq (⟨"ScanCompareModel", "bottomOf", "(II)I"⟩, 82) := ⟨⟨by decide +kernel, by decide +kernel⟩, List.mem_of_getElem? (i := 1649) (by decide +kernel), List.mem_of_getElem? (i := 2015) (by decide +kernel), List.mem_of_getElem? (i := 2016) (by decide +kernel)⟩
theorem lw_p60 : lw_okq (⟨"ScanCompareModel", "readsSettings", "()I"⟩, 82) := ⟨⟨by decide +kernel, by decide +kernel⟩, List.mem_of_getElem? (i := 1649) (by decide +kernel), List.mem_of_getElem? (i := 2051) (by decide +kernel), List.mem_of_getElem? (i := 2052) (by decide +kernel)⟩
theorem lw_p61 : lw_okq (⟨"ScanCompareModel", "isSmall", "(I)Z"⟩, 82) := ⟨⟨by decide +kernel, by decide +kernel⟩, List.mem_of_getElem? (i := 1649) (by decide +kernel), List.mem_of_getElem? (i := 2055) (by decide +kernel), List.mem_of_getElem? (i := 2056) (by decide +kernel)⟩
theorem lw_p62 : lw_okq (⟨"ScanCompareModel", "letter", "(I)I"⟩, 82) := ⟨⟨by decide +kernel, by decide +kernel⟩, List.mem_of_getElem? (i := 1649) (by decide +kernel), List.mem_of_getElem? (i := 2059) (by decide +kernel), List.mem_of_getElem? (i := 2060) (by decide +kernel)⟩
theorem lw_p63 : lw_okq (⟨"ScanCompareModel", "wordOf", "([CII)I"⟩, 82) := ⟨⟨by decide +kernel, by decide +kernel⟩, List.mem_of_getElem? (i := 1649) (by decide +kernel), List.mem_of_getElem? (i := 2065) (by decide +kernel), List.mem_of_getElem? (i := 2066) (by decide +kernel)⟩
def lw_privs_4 : List (MethodName × Nat) := [(⟨"ScanCompareModel", "rowOf", "(II)J"⟩, 82), (⟨"ScanCompareModel", "takes", "(I)V"⟩, 82), (⟨"ScanCompareModel", "edits", "(I)I"⟩, 82), (⟨"ScanCompareModel", "isOn", "(JJ)Z"⟩, 82), (⟨"ScanCompareModel", "at", "(IJJ)Z"⟩, 82), (⟨"ScanCompareModel", "cleans", "([ZI)I"⟩, 82), (⟨"ScanCompareModel", "gathers", "([ZI)I"⟩, 82), (⟨"ScanCompareModel", "looks", "([ZII)V"⟩, 82), (⟨"ScanCompareModel", "linesTo", "([ZII)I"⟩, 82), (⟨"ScanCompareModel", "hasInk", "([ZII)Z"⟩, 82), (⟨"ScanCompareModel", "topOf", "(II)I"⟩, 82), (⟨"ScanCompareModel", "bottomOf", "(II)I"⟩, 82), (⟨"ScanCompareModel", "readsSettings", "()I"⟩, 82), (⟨"ScanCompareModel", "isSmall", "(I)Z"⟩, 82), (⟨"ScanCompareModel", "letter", "(I)I"⟩, 82), (⟨"ScanCompareModel", "wordOf", "([CII)I"⟩, 82)]
theorem lw_r4 : ∀ q ∈ lw_privs_4, lw_okq q := List.forall_mem_cons.mpr ⟨lw_p48, List.forall_mem_cons.mpr ⟨lw_p49, List.forall_mem_cons.mpr ⟨lw_p50, List.forall_mem_cons.mpr ⟨lw_p51, List.forall_mem_cons.mpr ⟨lw_p52, List.forall_mem_cons.mpr ⟨lw_p53, List.forall_mem_cons.mpr ⟨lw_p54, List.forall_mem_cons.mpr ⟨lw_p55, List.forall_mem_cons.mpr ⟨lw_p56, List.forall_mem_cons.mpr ⟨lw_p57, List.forall_mem_cons.mpr ⟨lw_p58, List.forall_mem_cons.mpr ⟨lw_p59, List.forall_mem_cons.mpr ⟨lw_p60, List.forall_mem_cons.mpr ⟨lw_p61, List.forall_mem_cons.mpr ⟨lw_p62, List.forall_mem_cons.mpr ⟨lw_p63, fun _ h => absurd h List.not_mem_nil⟩⟩⟩⟩⟩⟩⟩⟩⟩⟩⟩⟩⟩⟩⟩⟩
theorem lw_p64 : lw_okq (⟨"ScanCompareModel", "isFigure", "(I)Z"⟩, 82) := ⟨⟨by decide +kernel, by decide +kernel⟩, List.mem_of_getElem? (i := 1649) (by decide +kernel), List.mem_of_getElem? (i := 2069) (by decide +kernel), List.mem_of_getElem? (i := 2070) (by decide +kernel)⟩
theorem lw_p65 : lw_okq (⟨"ScanCompareModel", "valueOf", "(III)I"⟩, 82) := ⟨⟨by decide +kernel, by decide +kernel⟩, List.mem_of_getElem? (i := 1649) (by decide +kernel), List.mem_of_getElem? (i := 2075) (by decide +kernel), List.mem_of_getElem? (i := 2076) (by decide +kernel)⟩
theorem lw_p66 : lw_okq (⟨"ScanCompareModel", "isGiven", "(I)Z"⟩, 82) := ⟨⟨by decide +kernel, by decide +kernel⟩, List.mem_of_getElem? (i := 1649) (by decide +kernel), List.mem_of_getElem? (i := 2082) (by decide +kernel), List.mem_of_getElem? (i := 2083) (by decide +kernel)⟩
theorem lw_p67 : lw_okq (⟨"ScanCompareModel", "tells", "(I)V"⟩, 82) := ⟨⟨by decide +kernel, by decide +kernel⟩, List.mem_of_getElem? (i := 1649) (by decide +kernel), List.mem_of_getElem? (i := 2095) (by decide +kernel), List.mem_of_getElem? (i := 2096) (by decide +kernel)⟩
theorem lw_p68 : lw_okq (⟨"ScanCompareModel", "tellsWord", "([CI)V"⟩, 82) := ⟨⟨by decide +kernel, by decide +kernel⟩, List.mem_of_getElem? (i := 1649) (by decide +kernel), List.mem_of_getElem? (i := 2099) (by decide +kernel), List.mem_of_getElem? (i := 2100) (by decide +kernel)⟩
theorem lw_p69 : lw_okq (⟨"ScanCompareModel", "tellsNumber", "(I)V"⟩, 82) := ⟨⟨by decide +kernel, by decide +kernel⟩, List.mem_of_getElem? (i := 1649) (by decide +kernel), List.mem_of_getElem? (i := 2103) (by decide +kernel), List.mem_of_getElem? (i := 2104) (by decide +kernel)⟩
theorem lw_p70 : lw_okq (⟨"ScanCompareModel", "readsPattern", "()I"⟩, 82) := ⟨⟨by decide +kernel, by decide +kernel⟩, List.mem_of_getElem? (i := 1649) (by decide +kernel), List.mem_of_getElem? (i := 2111) (by decide +kernel), List.mem_of_getElem? (i := 2112) (by decide +kernel)⟩
theorem lw_p71 : lw_okq (⟨"ScanCompareModel", "countOf", "(II)I"⟩, 82) := ⟨⟨by decide +kernel, by decide +kernel⟩, List.mem_of_getElem? (i := 1649) (by decide +kernel), List.mem_of_getElem? (i := 2115) (by decide +kernel), List.mem_of_getElem? (i := 2116) (by decide +kernel)⟩
theorem lw_p72 : lw_okq (⟨"ScanCompareModel", "registers", "()V"⟩, 82) := ⟨⟨by decide +kernel, by decide +kernel⟩, List.mem_of_getElem? (i := 1649) (by decide +kernel), List.mem_of_getElem? (i := 2131) (by decide +kernel), List.mem_of_getElem? (i := 2132) (by decide +kernel)⟩
theorem lw_p73 : lw_okq (⟨"ScanCompareModel", "skews", "(ZI)V"⟩, 82) := ⟨⟨by decide +kernel, by decide +kernel⟩, List.mem_of_getElem? (i := 1649) (by decide +kernel), List.mem_of_getElem? (i := 2135) (by decide +kernel), List.mem_of_getElem? (i := 2136) (by decide +kernel)⟩
theorem lw_p74 : lw_okq (⟨"ScanCompareModel", "seeksCoarse", "()V"⟩, 82) := ⟨⟨by decide +kernel, by decide +kernel⟩, List.mem_of_getElem? (i := 1649) (by decide +kernel), List.mem_of_getElem? (i := 2139) (by decide +kernel), List.mem_of_getElem? (i := 2140) (by decide +kernel)⟩
theorem lw_p75 : lw_okq (⟨"ScanCompareModel", "countsCells", "([Z[I)V"⟩, 82) := ⟨⟨by decide +kernel, by decide +kernel⟩, List.mem_of_getElem? (i := 1649) (by decide +kernel), List.mem_of_getElem? (i := 2143) (by decide +kernel), List.mem_of_getElem? (i := 2144) (by decide +kernel)⟩
theorem lw_p76 : lw_okq (⟨"ScanCompareModel", "coarseCost", "(II)I"⟩, 82) := ⟨⟨by decide +kernel, by decide +kernel⟩, List.mem_of_getElem? (i := 1649) (by decide +kernel), List.mem_of_getElem? (i := 2150) (by decide +kernel), List.mem_of_getElem? (i := 2151) (by decide +kernel)⟩
theorem lw_p77 : lw_okq (⟨"ScanCompareModel", "seeksFine", "()I"⟩, 82) := ⟨⟨by decide +kernel, by decide +kernel⟩, List.mem_of_getElem? (i := 1649) (by decide +kernel), List.mem_of_getElem? (i := 2154) (by decide +kernel), List.mem_of_getElem? (i := 2155) (by decide +kernel)⟩
theorem lw_p78 : lw_okq (⟨"ScanCompareModel", "differ", "([ZII)I"⟩, 82) := ⟨⟨by decide +kernel, by decide +kernel⟩, List.mem_of_getElem? (i := 1649) (by decide +kernel), List.mem_of_getElem? (i := 2158) (by decide +kernel), List.mem_of_getElem? (i := 2159) (by decide +kernel)⟩
theorem lw_p79 : lw_okq (⟨"ScanCompareModel", "findsDifferences", "()V"⟩, 82) := ⟨⟨by decide +kernel, by decide +kernel⟩, List.mem_of_getElem? (i := 1649) (by decide +kernel), List.mem_of_getElem? (i := 2162) (by decide +kernel), List.mem_of_getElem? (i := 2163) (by decide +kernel)⟩
def lw_privs_5 : List (MethodName × Nat) := [(⟨"ScanCompareModel", "isFigure", "(I)Z"⟩, 82), (⟨"ScanCompareModel", "valueOf", "(III)I"⟩, 82), (⟨"ScanCompareModel", "isGiven", "(I)Z"⟩, 82), (⟨"ScanCompareModel", "tells", "(I)V"⟩, 82), (⟨"ScanCompareModel", "tellsWord", "([CI)V"⟩, 82), (⟨"ScanCompareModel", "tellsNumber", "(I)V"⟩, 82), (⟨"ScanCompareModel", "readsPattern", "()I"⟩, 82), (⟨"ScanCompareModel", "countOf", "(II)I"⟩, 82), (⟨"ScanCompareModel", "registers", "()V"⟩, 82), (⟨"ScanCompareModel", "skews", "(ZI)V"⟩, 82), (⟨"ScanCompareModel", "seeksCoarse", "()V"⟩, 82), (⟨"ScanCompareModel", "countsCells", "([Z[I)V"⟩, 82), (⟨"ScanCompareModel", "coarseCost", "(II)I"⟩, 82), (⟨"ScanCompareModel", "seeksFine", "()I"⟩, 82), (⟨"ScanCompareModel", "differ", "([ZII)I"⟩, 82), (⟨"ScanCompareModel", "findsDifferences", "()V"⟩, 82)]
theorem lw_r5 : ∀ q ∈ lw_privs_5, lw_okq q := List.forall_mem_cons.mpr ⟨lw_p64, List.forall_mem_cons.mpr ⟨lw_p65, List.forall_mem_cons.mpr ⟨lw_p66, List.forall_mem_cons.mpr ⟨lw_p67, List.forall_mem_cons.mpr ⟨lw_p68, List.forall_mem_cons.mpr ⟨lw_p69, List.forall_mem_cons.mpr ⟨lw_p70, List.forall_mem_cons.mpr ⟨lw_p71, List.forall_mem_cons.mpr ⟨lw_p72, List.forall_mem_cons.mpr ⟨lw_p73, List.forall_mem_cons.mpr ⟨lw_p74, List.forall_mem_cons.mpr ⟨lw_p75, List.forall_mem_cons.mpr ⟨lw_p76, List.forall_mem_cons.mpr ⟨lw_p77, List.forall_mem_cons.mpr ⟨lw_p78, List.forall_mem_cons.mpr ⟨lw_p79, fun _ h => absurd h List.not_mem_nil⟩⟩⟩⟩⟩⟩⟩⟩⟩⟩⟩⟩⟩⟩⟩⟩
theorem lw_p80 : lw_okq (⟨"ScanCompareModel", "isMasked", "(I)Z"⟩, 82) := ⟨⟨by decide +kernel, by decide +kernel⟩, List.mem_of_getElem? (i := 1649) (by decide +kernel), List.mem_of_getElem? (i := 2166) (by decide +kernel), List.mem_of_getElem? (i := 2167) (by decide +kernel)⟩
theorem lw_p81 : lw_okq (⟨"ScanCompareModel", "isNear", "([ZI)Z"⟩, 82) := ⟨⟨by decide +kernel, by decide +kernel⟩, List.mem_of_getElem? (i := 1649) (by decide +kernel), List.mem_of_getElem? (i := 2170) (by decide +kernel), List.mem_of_getElem? (i := 2171) (by decide +kernel)⟩
theorem lw_p82 : lw_okq (⟨"ScanCompareModel", "blockOf", "(I)I"⟩, 82) := ⟨⟨by decide +kernel, by decide +kernel⟩, List.mem_of_getElem? (i := 1649) (by decide +kernel), List.mem_of_getElem? (i := 2174) (by decide +kernel), List.mem_of_getElem? (i := 2175) (by decide +kernel)⟩
theorem lw_p83 : lw_okq (⟨"ScanCompareModel", "findsRegions", "()V"⟩, 82) := ⟨⟨by decide +kernel, by decide +kernel⟩, List.mem_of_getElem? (i := 1649) (by decide +kernel), List.mem_of_getElem? (i := 2178) (by decide +kernel), List.mem_of_getElem? (i := 2179) (by decide +kernel)⟩
theorem lw_p84 : lw_okq (⟨"ScanCompareModel", "joins", "(I)I"⟩, 82) := ⟨⟨by decide +kernel, by decide +kernel⟩, List.mem_of_getElem? (i := 1649) (by decide +kernel), List.mem_of_getElem? (i := 2182) (by decide +kernel), List.mem_of_getElem? (i := 2183) (by decide +kernel)⟩
theorem lw_p85 : lw_okq (⟨"ScanCompareModel", "isBlock", "(II)Z"⟩, 82) := ⟨⟨by decide +kernel, by decide +kernel⟩, List.mem_of_getElem? (i := 1649) (by decide +kernel), List.mem_of_getElem? (i := 2186) (by decide +kernel), List.mem_of_getElem? (i := 2187) (by decide +kernel)⟩
theorem lw_p86 : lw_okq (⟨"ScanCompareModel", "spreads", "(III)V"⟩, 82) := ⟨⟨by decide +kernel, by decide +kernel⟩, List.mem_of_getElem? (i := 1649) (by decide +kernel), List.mem_of_getElem? (i := 2190) (by decide +kernel), List.mem_of_getElem? (i := 2191) (by decide +kernel)⟩
theorem lw_p87 : lw_okq (⟨"ScanCompareModel", "ordersRegions", "()V"⟩, 82) := ⟨⟨by decide +kernel, by decide +kernel⟩, List.mem_of_getElem? (i := 1649) (by decide +kernel), List.mem_of_getElem? (i := 2200) (by decide +kernel), List.mem_of_getElem? (i := 2201) (by decide +kernel)⟩
theorem lw_p88 : lw_okq (⟨"ScanCompareModel", "leastRegion", "(I)I"⟩, 82) := ⟨⟨by decide +kernel, by decide +kernel⟩, List.mem_of_getElem? (i := 1649) (by decide +kernel), List.mem_of_getElem? (i := 2204) (by decide +kernel), List.mem_of_getElem? (i := 2205) (by decide +kernel)⟩
theorem lw_p89 : lw_okq (⟨"ScanCompareModel", "isAhead", "(IIZ)Z"⟩, 82) := ⟨⟨by decide +kernel, by decide +kernel⟩, List.mem_of_getElem? (i := 1649) (by decide +kernel), List.mem_of_getElem? (i := 2208) (by decide +kernel), List.mem_of_getElem? (i := 2209) (by decide +kernel)⟩
theorem lw_p90 : lw_okq (⟨"ScanCompareModel", "secondKey", "(I)I"⟩, 82) := ⟨⟨by decide +kernel, by decide +kernel⟩, List.mem_of_getElem? (i := 1649) (by decide +kernel), List.mem_of_getElem? (i := 2212) (by decide +kernel), List.mem_of_getElem? (i := 2213) (by decide +kernel)⟩
theorem lw_p91 : lw_okq (⟨"ScanCompareModel", "firstKey", "(I)I"⟩, 82) := ⟨⟨by decide +kernel, by decide +kernel⟩, List.mem_of_getElem? (i := 1649) (by decide +kernel), List.mem_of_getElem? (i := 2216) (by decide +kernel), List.mem_of_getElem? (i := 2217) (by decide +kernel)⟩
theorem lw_p92 : lw_okq (⟨"ScanCompareModel", "endKey", "(I)I"⟩, 82) := ⟨⟨by decide +kernel, by decide +kernel⟩, List.mem_of_getElem? (i := 1649) (by decide +kernel), List.mem_of_getElem? (i := 2220) (by decide +kernel), List.mem_of_getElem? (i := 2221) (by decide +kernel)⟩
theorem lw_p93 : lw_okq (⟨"ScanCompareModel", "findsParts", "()V"⟩, 82) := ⟨⟨by decide +kernel, by decide +kernel⟩, List.mem_of_getElem? (i := 1649) (by decide +kernel), List.mem_of_getElem? (i := 2224) (by decide +kernel), List.mem_of_getElem? (i := 2225) (by decide +kernel)⟩
theorem lw_p94 : lw_okq (⟨"ScanCompareModel", "isOf", "(II)Z"⟩, 82) := ⟨⟨by decide +kernel, by decide +kernel⟩, List.mem_of_getElem? (i := 1649) (by decide +kernel), List.mem_of_getElem? (i := 2228) (by decide +kernel), List.mem_of_getElem? (i := 2229) (by decide +kernel)⟩
theorem lw_p95 : lw_okq (⟨"ScanCompareModel", "findsChanges", "()V"⟩, 82) := ⟨⟨by decide +kernel, by decide +kernel⟩, List.mem_of_getElem? (i := 1649) (by decide +kernel), List.mem_of_getElem? (i := 2232) (by decide +kernel), List.mem_of_getElem? (i := 2233) (by decide +kernel)⟩
def lw_privs_6 : List (MethodName × Nat) := [(⟨"ScanCompareModel", "isMasked", "(I)Z"⟩, 82), (⟨"ScanCompareModel", "isNear", "([ZI)Z"⟩, 82), (⟨"ScanCompareModel", "blockOf", "(I)I"⟩, 82), (⟨"ScanCompareModel", "findsRegions", "()V"⟩, 82), (⟨"ScanCompareModel", "joins", "(I)I"⟩, 82), (⟨"ScanCompareModel", "isBlock", "(II)Z"⟩, 82), (⟨"ScanCompareModel", "spreads", "(III)V"⟩, 82), (⟨"ScanCompareModel", "ordersRegions", "()V"⟩, 82), (⟨"ScanCompareModel", "leastRegion", "(I)I"⟩, 82), (⟨"ScanCompareModel", "isAhead", "(IIZ)Z"⟩, 82), (⟨"ScanCompareModel", "secondKey", "(I)I"⟩, 82), (⟨"ScanCompareModel", "firstKey", "(I)I"⟩, 82), (⟨"ScanCompareModel", "endKey", "(I)I"⟩, 82), (⟨"ScanCompareModel", "findsParts", "()V"⟩, 82), (⟨"ScanCompareModel", "isOf", "(II)Z"⟩, 82), (⟨"ScanCompareModel", "findsChanges", "()V"⟩, 82)]
theorem lw_r6 : ∀ q ∈ lw_privs_6, lw_okq q := List.forall_mem_cons.mpr ⟨lw_p80, List.forall_mem_cons.mpr ⟨lw_p81, List.forall_mem_cons.mpr ⟨lw_p82, List.forall_mem_cons.mpr ⟨lw_p83, List.forall_mem_cons.mpr ⟨lw_p84, List.forall_mem_cons.mpr ⟨lw_p85, List.forall_mem_cons.mpr ⟨lw_p86, List.forall_mem_cons.mpr ⟨lw_p87, List.forall_mem_cons.mpr ⟨lw_p88, List.forall_mem_cons.mpr ⟨lw_p89, List.forall_mem_cons.mpr ⟨lw_p90, List.forall_mem_cons.mpr ⟨lw_p91, List.forall_mem_cons.mpr ⟨lw_p92, List.forall_mem_cons.mpr ⟨lw_p93, List.forall_mem_cons.mpr ⟨lw_p94, List.forall_mem_cons.mpr ⟨lw_p95, fun _ h => absurd h List.not_mem_nil⟩⟩⟩⟩⟩⟩⟩⟩⟩⟩⟩⟩⟩⟩⟩⟩
theorem lw_p96 : lw_okq (⟨"ScanCompareModel", "pairs", "()V"⟩, 82) := ⟨⟨by decide +kernel, by decide +kernel⟩, List.mem_of_getElem? (i := 1649) (by decide +kernel), List.mem_of_getElem? (i := 2236) (by decide +kernel), List.mem_of_getElem? (i := 2237) (by decide +kernel)⟩
theorem lw_p97 : lw_okq (⟨"ScanCompareModel", "areAlike", "(II)Z"⟩, 82) := ⟨⟨by decide +kernel, by decide +kernel⟩, List.mem_of_getElem? (i := 1649) (by decide +kernel), List.mem_of_getElem? (i := 2240) (by decide +kernel), List.mem_of_getElem? (i := 2241) (by decide +kernel)⟩
theorem lw_p98 : lw_okq (⟨"ScanCompareModel", "widthOf", "(I)I"⟩, 82) := ⟨⟨by decide +kernel, by decide +kernel⟩, List.mem_of_getElem? (i := 1649) (by decide +kernel), List.mem_of_getElem? (i := 2244) (by decide +kernel), List.mem_of_getElem? (i := 2245) (by decide +kernel)⟩
theorem lw_p99 : lw_okq (⟨"ScanCompareModel", "heightOf", "(I)I"⟩, 82) := ⟨⟨by decide +kernel, by decide +kernel⟩, List.mem_of_getElem? (i := 1649) (by decide +kernel), List.mem_of_getElem? (i := 2248) (by decide +kernel), List.mem_of_getElem? (i := 2249) (by decide +kernel)⟩
theorem lw_p100 : lw_okq (⟨"ScanCompareModel", "lists", "(II)V"⟩, 82) := ⟨⟨by decide +kernel, by decide +kernel⟩, List.mem_of_getElem? (i := 1649) (by decide +kernel), List.mem_of_getElem? (i := 2252) (by decide +kernel), List.mem_of_getElem? (i := 2253) (by decide +kernel)⟩
theorem lw_p101 : lw_okq (⟨"ScanCompareModel", "stampFor", "(I)I"⟩, 82) := ⟨⟨by decide +kernel, by decide +kernel⟩, List.mem_of_getElem? (i := 1649) (by decide +kernel), List.mem_of_getElem? (i := 2256) (by decide +kernel), List.mem_of_getElem? (i := 2257) (by decide +kernel)⟩
theorem lw_p102 : lw_okq (⟨"ScanCompareModel", "reports", "()V"⟩, 82) := ⟨⟨by decide +kernel, by decide +kernel⟩, List.mem_of_getElem? (i := 1649) (by decide +kernel), List.mem_of_getElem? (i := 2260) (by decide +kernel), List.mem_of_getElem? (i := 2261) (by decide +kernel)⟩
theorem lw_p103 : lw_okq (⟨"ScanCompareModel", "tellsTwo", "(ICI)V"⟩, 82) := ⟨⟨by decide +kernel, by decide +kernel⟩, List.mem_of_getElem? (i := 1649) (by decide +kernel), List.mem_of_getElem? (i := 2264) (by decide +kernel), List.mem_of_getElem? (i := 2265) (by decide +kernel)⟩
theorem lw_p104 : lw_okq (⟨"ScanCompareModel", "reportsOne", "(II)V"⟩, 82) := ⟨⟨by decide +kernel, by decide +kernel⟩, List.mem_of_getElem? (i := 1649) (by decide +kernel), List.mem_of_getElem? (i := 2268) (by decide +kernel), List.mem_of_getElem? (i := 2269) (by decide +kernel)⟩
theorem lw_p105 : lw_okq (⟨"ScanCompareModel", "told", "(I)I"⟩, 82) := ⟨⟨by decide +kernel, by decide +kernel⟩, List.mem_of_getElem? (i := 1649) (by decide +kernel), List.mem_of_getElem? (i := 2276) (by decide +kernel), List.mem_of_getElem? (i := 2277) (by decide +kernel)⟩
theorem lw_p106 : lw_okq (⟨"ScanCompareModel", "lacks", "(II)Z"⟩, 82) := ⟨⟨by decide +kernel, by decide +kernel⟩, List.mem_of_getElem? (i := 1649) (by decide +kernel), List.mem_of_getElem? (i := 2320) (by decide +kernel), List.mem_of_getElem? (i := 2321) (by decide +kernel)⟩
def lw_privs_7 : List (MethodName × Nat) := [(⟨"ScanCompareModel", "pairs", "()V"⟩, 82), (⟨"ScanCompareModel", "areAlike", "(II)Z"⟩, 82), (⟨"ScanCompareModel", "widthOf", "(I)I"⟩, 82), (⟨"ScanCompareModel", "heightOf", "(I)I"⟩, 82), (⟨"ScanCompareModel", "lists", "(II)V"⟩, 82), (⟨"ScanCompareModel", "stampFor", "(I)I"⟩, 82), (⟨"ScanCompareModel", "reports", "()V"⟩, 82), (⟨"ScanCompareModel", "tellsTwo", "(ICI)V"⟩, 82), (⟨"ScanCompareModel", "reportsOne", "(II)V"⟩, 82), (⟨"ScanCompareModel", "told", "(I)I"⟩, 82), (⟨"ScanCompareModel", "lacks", "(II)Z"⟩, 82)]
theorem lw_r7 : ∀ q ∈ lw_privs_7, lw_okq q := List.forall_mem_cons.mpr ⟨lw_p96, List.forall_mem_cons.mpr ⟨lw_p97, List.forall_mem_cons.mpr ⟨lw_p98, List.forall_mem_cons.mpr ⟨lw_p99, List.forall_mem_cons.mpr ⟨lw_p100, List.forall_mem_cons.mpr ⟨lw_p101, List.forall_mem_cons.mpr ⟨lw_p102, List.forall_mem_cons.mpr ⟨lw_p103, List.forall_mem_cons.mpr ⟨lw_p104, List.forall_mem_cons.mpr ⟨lw_p105, List.forall_mem_cons.mpr ⟨lw_p106, fun _ h => absurd h List.not_mem_nil⟩⟩⟩⟩⟩⟩⟩⟩⟩⟩⟩
def lw_privs : List (MethodName × Nat) := lw_privs_1 ++ (lw_privs_2 ++ (lw_privs_3 ++ (lw_privs_4 ++ (lw_privs_5 ++ (lw_privs_6 ++ (lw_privs_7))))))
def lw_tbl : List Cond := k2_sels lw_privs ++ tables_1
theorem lw_privs_ok : ∀ q ∈ lw_privs, lw_okq q := by
  show ∀ q ∈ lw_privs_1 ++ (lw_privs_2 ++ (lw_privs_3 ++ (lw_privs_4 ++ (lw_privs_5 ++ (lw_privs_6 ++ (lw_privs_7)))))), lw_okq q
  exact List.forall_mem_append.mpr ⟨lw_r1, List.forall_mem_append.mpr ⟨lw_r2, List.forall_mem_append.mpr ⟨lw_r3, List.forall_mem_append.mpr ⟨lw_r4, List.forall_mem_append.mpr ⟨lw_r5, List.forall_mem_append.mpr ⟨lw_r6, lw_r7⟩⟩⟩⟩⟩⟩
-- ===== end of PART A; then your names; then what follows =====
def RX0 : String := "ScanCompare$Blobs"
def TX0 : u_T := fun k => match k with
  | 0 => ("ScanCompare$Blobs", "height", "I", true)
  | 1 => ("ScanCompare$Blobs", "area", "I", true)
  | 2 => ("ScanCompare$Blobs", "open", "[J", true)
  | 3 => ("ScanCompare$Blobs", "blob", "[J", true)
  | 4 => ("ScanCompare$Blobs", "top", "I", false)
  | _ => ("ScanCompare$Blobs", "bottom", "I", false)
def tyX0 : Nat → FieldType := fun k => match k with
  | 0 => .int
  | 1 => .int
  | 2 => .array .long
  | 3 => .array .long
  | 4 => .int
  | _ => .int
abbrev wsX00 : List Cond := u_ws RX0 TX0 6
theorem nmX0 : ∀ a, a < 6 → ∀ b, b < 6 → a ≠ b → (TX0 a).2.1 ≠ (TX0 b).2.1 := by decide +kernel
theorem tyX0_ok : ∀ k, k < 6 → parseFieldDescriptor (TX0 k).2.2.1 = some (tyX0 k) := by decide +kernel
abbrev cX0_init : ByteArray := prog_2_method_1_code
def yX0_init : MethodName := ⟨RX0, "<init>", "(II)V"⟩
abbrev cX0_countIn : ByteArray := prog_2_method_2_code
def yX0_countIn : MethodName := ⟨RX0, "countIn", "(LScanCompare$Image;)I"⟩
abbrev cX0_strip : ByteArray := prog_2_method_3_code
def yX0_strip : MethodName := ⟨RX0, "strip", "(LScanCompare$Image;I)I"⟩
abbrev cX0_begin : ByteArray := prog_2_method_4_code
def yX0_begin : MethodName := ⟨RX0, "begin", "(LScanCompare$Image;)V"⟩
abbrev cX0_findNext : ByteArray := prog_2_method_5_code
def yX0_findNext : MethodName := ⟨RX0, "findNext", "()Z"⟩
abbrev cX0_grow : ByteArray := prog_2_method_6_code
def yX0_grow : MethodName := ⟨RX0, "grow", "()V"⟩
abbrev cX0_blobAt : ByteArray := prog_2_method_7_code
def yX0_blobAt : MethodName := ⟨RX0, "blobAt", "(I)J"⟩
abbrev cX0_spread : ByteArray := prog_2_method_8_code
def yX0_spread : MethodName := ⟨RX0, "spread", "(I)Z"⟩
abbrev cX0_widened : ByteArray := prog_2_method_9_code
def yX0_widened : MethodName := ⟨RX0, "widened", "(JJ)J"⟩
abbrev cX0_close : ByteArray := prog_2_method_10_code
def yX0_close : MethodName := ⟨RX0, "close", "()V"⟩
abbrev cX0_pixels : ByteArray := prog_2_method_11_code
def yX0_pixels : MethodName := ⟨RX0, "pixels", "()I"⟩
abbrev cX0_erase : ByteArray := prog_2_method_12_code
def yX0_erase : MethodName := ⟨RX0, "erase", "(LScanCompare$Image;)V"⟩
def RX1 : String := "ScanCompare$Comparison"
def TX1 : u_T := fun k => match k with
  | 0 => ("ScanCompare$Comparison", "width", "I", true)
  | 1 => ("ScanCompare$Comparison", "height", "I", true)
  | 2 => ("ScanCompare$Comparison", "original", "LScanCompare$Image;", true)
  | 3 => ("ScanCompare$Comparison", "scan", "LScanCompare$Image;", true)
  | 4 => ("ScanCompare$Comparison", "aligned", "LScanCompare$Image;", true)
  | 5 => ("ScanCompare$Comparison", "missing", "LScanCompare$Image;", true)
  | 6 => ("ScanCompare$Comparison", "extra", "LScanCompare$Image;", true)
  | 7 => ("ScanCompare$Comparison", "registration", "LScanCompare$Registration;", true)
  | 8 => ("ScanCompare$Comparison", "side", "I", false)
  | 9 => ("ScanCompare$Comparison", "columns", "I", false)
  | 10 => ("ScanCompare$Comparison", "blockRows", "I", false)
  | 11 => ("ScanCompare$Comparison", "differences", "[I", true)
  | 12 => ("ScanCompare$Comparison", "labels", "[I", true)
  | 13 => ("ScanCompare$Comparison", "trialLabels", "[I", true)
  | 14 => ("ScanCompare$Comparison", "waiting", "[I", true)
  | 15 => ("ScanCompare$Comparison", "finds", "[LScanCompare$Region;", true)
  | 16 => ("ScanCompare$Comparison", "ordered", "[LScanCompare$Region;", true)
  | 17 => ("ScanCompare$Comparison", "regionCount", "I", false)
  | 18 => ("ScanCompare$Comparison", "listed", "[LScanCompare$Part;", true)
  | _ => ("ScanCompare$Comparison", "changeCount", "I", false)
def tyX1 : Nat → FieldType := fun k => match k with
  | 0 => .int
  | 1 => .int
  | 2 => .object "ScanCompare$Image"
  | 3 => .object "ScanCompare$Image"
  | 4 => .object "ScanCompare$Image"
  | 5 => .object "ScanCompare$Image"
  | 6 => .object "ScanCompare$Image"
  | 7 => .object "ScanCompare$Registration"
  | 8 => .int
  | 9 => .int
  | 10 => .int
  | 11 => .array .int
  | 12 => .array .int
  | 13 => .array .int
  | 14 => .array .int
  | 15 => .array (.object "ScanCompare$Region")
  | 16 => .array (.object "ScanCompare$Region")
  | 17 => .int
  | 18 => .array (.object "ScanCompare$Part")
  | _ => .int
abbrev wsX10 : List Cond := u_ws RX1 TX1 20
theorem nmX1 : ∀ a, a < 20 → ∀ b, b < 20 → a ≠ b → (TX1 a).2.1 ≠ (TX1 b).2.1 := by decide +kernel
theorem tyX1_ok : ∀ k, k < 20 → parseFieldDescriptor (TX1 k).2.2.1 = some (tyX1 k) := by decide +kernel
abbrev cX1_init : ByteArray := prog_3_method_1_code
def yX1_init : MethodName := ⟨RX1, "<init>", "(II)V"⟩
abbrev cX1_clean : ByteArray := prog_3_method_2_code
def yX1_clean : MethodName := ⟨RX1, "clean", "(LScanCompare$Image;LScanCompare$Image;LScanCompare$Blobs;LScanCompare$Config;)V"⟩
abbrev cX1_examine : ByteArray := prog_3_method_3_code
def yX1_examine : MethodName := ⟨RX1, "examine", "(LScanCompare$Image;LScanCompare$Config;LScanCompare$Stamps;)V"⟩
abbrev cX1_measureBlocks : ByteArray := prog_3_method_4_code
def yX1_measureBlocks : MethodName := ⟨RX1, "measureBlocks", "(I)V"⟩
abbrev cX1_blockCount : ByteArray := prog_3_method_5_code
def yX1_blockCount : MethodName := ⟨RX1, "blockCount", "()I"⟩
abbrev cX1_differenceOf : ByteArray := prog_3_method_6_code
def yX1_differenceOf : MethodName := ⟨RX1, "differenceOf", "(II)I"⟩
abbrev cX1_group : ByteArray := prog_3_method_7_code
def yX1_group : MethodName := ⟨RX1, "group", "(I[I)I"⟩
abbrev cX1_mark : ByteArray := prog_3_method_8_code
def yX1_mark : MethodName := ⟨RX1, "mark", "(III[I)V"⟩
abbrev cX1_join : ByteArray := prog_3_method_9_code
def yX1_join : MethodName := ⟨RX1, "join", "(III[II)I"⟩
abbrev cX1_noiseFor : ByteArray := prog_3_method_10_code
def yX1_noiseFor : MethodName := ⟨RX1, "noiseFor", "(I)I"⟩
abbrev cX1_find : ByteArray := prog_3_method_11_code
def yX1_find : MethodName := ⟨RX1, "find", "(I)LScanCompare$Region;"⟩
abbrev cX1_regionNumbered : ByteArray := prog_3_method_12_code
def yX1_regionNumbered : MethodName := ⟨RX1, "regionNumbered", "(I)LScanCompare$Region;"⟩
abbrev cX1_regionOfPixel : ByteArray := prog_3_method_13_code
def yX1_regionOfPixel : MethodName := ⟨RX1, "regionOfPixel", "(II)I"⟩
abbrev cX1_formRegions : ByteArray := prog_3_method_14_code
def yX1_formRegions : MethodName := ⟨RX1, "formRegions", "()V"⟩
abbrev cX1_collect : ByteArray := prog_3_method_15_code
def yX1_collect : MethodName := ⟨RX1, "collect", "(LScanCompare$Part;LScanCompare$Image;I)V"⟩
abbrev cX1_spanOf : ByteArray := prog_3_method_16_code
def yX1_spanOf : MethodName := ⟨RX1, "spanOf", "(II)J"⟩
abbrev cX1_sortRegions : ByteArray := prog_3_method_17_code
def yX1_sortRegions : MethodName := ⟨RX1, "sortRegions", "(Z)V"⟩
abbrev cX1_sortByKey : ByteArray := prog_3_method_18_code
def yX1_sortByKey : MethodName := ⟨RX1, "sortByKey", "()V"⟩
abbrev cX1_pairParts : ByteArray := prog_3_method_19_code
def yX1_pairParts : MethodName := ⟨RX1, "pairParts", "(I)V"⟩
abbrev cX1_pair : ByteArray := prog_3_method_20_code
def yX1_pair : MethodName := ⟨RX1, "pair", "(LScanCompare$Part;)V"⟩
abbrev cX1_listChanges : ByteArray := prog_3_method_21_code
def yX1_listChanges : MethodName := ⟨RX1, "listChanges", "(ZLScanCompare$Stamps;)V"⟩
abbrev cX1_list : ByteArray := prog_3_method_22_code
def yX1_list : MethodName := ⟨RX1, "list", "(LScanCompare$Part;ZLScanCompare$Stamps;LScanCompare$Image;)V"⟩
abbrev cX1_changeNumbered : ByteArray := prog_3_method_23_code
def yX1_changeNumbered : MethodName := ⟨RX1, "changeNumbered", "(I)LScanCompare$Part;"⟩
abbrev cX1_report : ByteArray := prog_3_method_24_code
def yX1_report : MethodName := ⟨RX1, "report", "(LScanCompare$Probe;)V"⟩
def RX2 : String := "ScanCompare$Config"
def TX2 : u_T := fun k => match k with
  | 0 => ("ScanCompare$Config", "values", "[I", true)
  | 1 => ("ScanCompare$Config", "given", "[I", true)
  | 2 => ("ScanCompare$Config", "givenCount", "I", false)
  | 3 => ("ScanCompare$Config", "nextValues", "[I", true)
  | 4 => ("ScanCompare$Config", "nextGiven", "[I", true)
  | _ => ("ScanCompare$Config", "nextCount", "I", false)
def tyX2 : Nat → FieldType := fun k => match k with
  | 0 => .array .int
  | 1 => .array .int
  | 2 => .int
  | 3 => .array .int
  | 4 => .array .int
  | _ => .int
abbrev wsX20 : List Cond := u_ws RX2 TX2 6
theorem nmX2 : ∀ a, a < 6 → ∀ b, b < 6 → a ≠ b → (TX2 a).2.1 ≠ (TX2 b).2.1 := by decide +kernel
theorem tyX2_ok : ∀ k, k < 6 → parseFieldDescriptor (TX2 k).2.2.1 = some (tyX2 k) := by decide +kernel
abbrev cX2_init : ByteArray := prog_4_method_1_code
def yX2_init : MethodName := ⟨RX2, "<init>", "()V"⟩
abbrev cX2_valueOf : ByteArray := prog_4_method_2_code
def yX2_valueOf : MethodName := ⟨RX2, "valueOf", "(LScanCompare$Setting;)I"⟩
abbrev cX2_read : ByteArray := prog_4_method_3_code
def yX2_read : MethodName := ⟨RX2, "read", "(LScanCompare$Text;)I"⟩
abbrev cX2_settingNamed : ByteArray := prog_4_method_4_code
def yX2_settingNamed : MethodName := ⟨RX2, "settingNamed", "(LScanCompare$Text;II)LScanCompare$Setting;"⟩
abbrev cX2_note : ByteArray := prog_4_method_5_code
def yX2_note : MethodName := ⟨RX2, "note", "(II)V"⟩
abbrev cX2_applyRead : ByteArray := prog_4_method_6_code
def yX2_applyRead : MethodName := ⟨RX2, "applyRead", "()V"⟩
abbrev cX2_describe : ByteArray := prog_4_method_7_code
def yX2_describe : MethodName := ⟨RX2, "describe", "(LScanCompare$Probe;)V"⟩
abbrev cX2_describeOne : ByteArray := prog_4_method_8_code
def yX2_describeOne : MethodName := ⟨RX2, "describeOne", "(LScanCompare$Setting;LScanCompare$Probe;)V"⟩
def RX3 : String := "ScanCompare$History"
def TX3 : u_T := fun k => match k with
  | 0 => ("ScanCompare$History", "states", "[LScanCompare$Image;", true)
  | 1 => ("ScanCompare$History", "pageOf", "[I", true)
  | 2 => ("ScanCompare$History", "first", "I", false)
  | _ => ("ScanCompare$History", "count", "I", false)
def tyX3 : Nat → FieldType := fun k => match k with
  | 0 => .array (.object "ScanCompare$Image")
  | 1 => .array .int
  | 2 => .int
  | _ => .int
abbrev wsX30 : List Cond := u_ws RX3 TX3 4
theorem nmX3 : ∀ a, a < 4 → ∀ b, b < 4 → a ≠ b → (TX3 a).2.1 ≠ (TX3 b).2.1 := by decide +kernel
theorem tyX3_ok : ∀ k, k < 4 → parseFieldDescriptor (TX3 k).2.2.1 = some (tyX3 k) := by decide +kernel
abbrev cX3_init : ByteArray := prog_5_method_1_code
def yX3_init : MethodName := ⟨RX3, "<init>", "(II)V"⟩
abbrev cX3_isBare : ByteArray := prog_5_method_2_code
def yX3_isBare : MethodName := ⟨RX3, "isBare", "()Z"⟩
abbrev cX3_slotAt : ByteArray := prog_5_method_3_code
def yX3_slotAt : MethodName := ⟨RX3, "slotAt", "(I)I"⟩
abbrev cX3_keep : ByteArray := prog_5_method_4_code
def yX3_keep : MethodName := ⟨RX3, "keep", "(ILScanCompare$Image;)LScanCompare$Image;"⟩
abbrev cX3_restoreTo : ByteArray := prog_5_method_5_code
def yX3_restoreTo : MethodName := ⟨RX3, "restoreTo", "([LScanCompare$Image;)I"⟩
def RX4 : String := "ScanCompare$Image"
def TX4 : u_T := fun k => match k with
  | 0 => ("ScanCompare$Image", "width", "I", true)
  | 1 => ("ScanCompare$Image", "height", "I", true)
  | 2 => ("ScanCompare$Image", "whole", "J", true)
  | _ => ("ScanCompare$Image", "bits", "[J", true)
def tyX4 : Nat → FieldType := fun k => match k with
  | 0 => .int
  | 1 => .int
  | 2 => .long
  | _ => .array .long
abbrev wsX40 : List Cond := u_ws RX4 TX4 4
theorem nmX4 : ∀ a, a < 4 → ∀ b, b < 4 → a ≠ b → (TX4 a).2.1 ≠ (TX4 b).2.1 := by decide +kernel
theorem tyX4_ok : ∀ k, k < 4 → parseFieldDescriptor (TX4 k).2.2.1 = some (tyX4 k) := by decide +kernel
abbrev cX4_init : ByteArray := prog_6_method_1_code
def yX4_init : MethodName := ⟨RX4, "<init>", "(II)V"⟩
abbrev cX4_below : ByteArray := prog_6_method_2_code
def yX4_below : MethodName := ⟨RX4, "below", "(I)J"⟩
abbrev cX4_moved : ByteArray := prog_6_method_3_code
def yX4_moved : MethodName := ⟨RX4, "moved", "(JI)J"⟩
abbrev cX4_clipped : ByteArray := prog_6_method_4_code
def yX4_clipped : MethodName := ⟨RX4, "clipped", "(JI)I"⟩
abbrev cX4_rowAt : ByteArray := prog_6_method_5_code
def yX4_rowAt : MethodName := ⟨RX4, "rowAt", "(I)J"⟩
abbrev cX4_putRow : ByteArray := prog_6_method_6_code
def yX4_putRow : MethodName := ⟨RX4, "putRow", "(IJ)V"⟩
abbrev cX4_takeFrom : ByteArray := prog_6_method_7_code
def yX4_takeFrom : MethodName := ⟨RX4, "takeFrom", "(LScanCompare$Image;)V"⟩
abbrev cX4_differences : ByteArray := prog_6_method_8_code
def yX4_differences : MethodName := ⟨RX4, "differences", "(LScanCompare$Image;)I"⟩
abbrev cX4_span : ByteArray := prog_6_method_9_code
def yX4_span : MethodName := ⟨RX4, "span", "(JI)J"⟩
abbrev cX4_paint : ByteArray := prog_6_method_10_code
def yX4_paint : MethodName := ⟨RX4, "paint", "(JJIIZ)V"⟩
abbrev cX4_inkWithin : ByteArray := prog_6_method_11_code
def yX4_inkWithin : MethodName := ⟨RX4, "inkWithin", "(JJII)I"⟩
abbrev cX4_drawMoved : ByteArray := prog_6_method_12_code
def yX4_drawMoved : MethodName := ⟨RX4, "drawMoved", "(LScanCompare$Image;II)V"⟩
abbrev cX4_drawMajority : ByteArray := prog_6_method_13_code
def yX4_drawMajority : MethodName := ⟨RX4, "drawMajority", "(LScanCompare$Image;LScanCompare$Image;LScanCompare$Image;)V"⟩
abbrev cX4_drawFlipped : ByteArray := prog_6_method_14_code
def yX4_drawFlipped : MethodName := ⟨RX4, "drawFlipped", "(LScanCompare$Image;ZZ)V"⟩
abbrev cX4_mirrored : ByteArray := prog_6_method_15_code
def yX4_mirrored : MethodName := ⟨RX4, "mirrored", "(J)J"⟩
abbrev cX4_drawUnmatched : ByteArray := prog_6_method_16_code
def yX4_drawUnmatched : MethodName := ⟨RX4, "drawUnmatched", "(LScanCompare$Image;LScanCompare$Image;I)V"⟩
abbrev cX4_inkAround : ByteArray := prog_6_method_17_code
def yX4_inkAround : MethodName := ⟨RX4, "inkAround", "(II)J"⟩
abbrev cX4_keepOnly : ByteArray := prog_6_method_18_code
def yX4_keepOnly : MethodName := ⟨RX4, "keepOnly", "(LScanCompare$Image;)V"⟩
abbrev cX4_stampPart : ByteArray := prog_6_method_19_code
def yX4_stampPart : MethodName := ⟨RX4, "stampPart", "(LScanCompare$Part;)V"⟩
abbrev cX4_startsLine : ByteArray := prog_6_method_20_code
def yX4_startsLine : MethodName := ⟨RX4, "startsLine", "(I)Z"⟩
abbrev cX4_lineCount : ByteArray := prog_6_method_21_code
def yX4_lineCount : MethodName := ⟨RX4, "lineCount", "()I"⟩
abbrev cX4_linesUpTo : ByteArray := prog_6_method_22_code
def yX4_linesUpTo : MethodName := ⟨RX4, "linesUpTo", "(I)I"⟩
abbrev cX4_lineStart : ByteArray := prog_6_method_23_code
def yX4_lineStart : MethodName := ⟨RX4, "lineStart", "(I)I"⟩
abbrev cX4_lineEnd : ByteArray := prog_6_method_24_code
def yX4_lineEnd : MethodName := ⟨RX4, "lineEnd", "(I)I"⟩
abbrev cX4_wordCount : ByteArray := prog_6_method_25_code
def yX4_wordCount : MethodName := ⟨RX4, "wordCount", "(II)I"⟩
def RX5 : String := "ScanCompare$Part"
def TX5 : u_T := fun k => match k with
  | 0 => ("ScanCompare$Part", "black", "Z", true)
  | 1 => ("ScanCompare$Part", "shape", "[J", true)
  | 2 => ("ScanCompare$Part", "left", "I", false)
  | 3 => ("ScanCompare$Part", "top", "I", false)
  | 4 => ("ScanCompare$Part", "width", "I", false)
  | 5 => ("ScanCompare$Part", "height", "I", false)
  | 6 => ("ScanCompare$Part", "pixels", "I", false)
  | 7 => ("ScanCompare$Part", "region", "I", false)
  | 8 => ("ScanCompare$Part", "partner", "LScanCompare$Part;", false)
  | 9 => ("ScanCompare$Part", "line", "I", false)
  | _ => ("ScanCompare$Part", "stamp", "I", false)
def tyX5 : Nat → FieldType := fun k => match k with
  | 0 => .boolean
  | 1 => .array .long
  | 2 => .int
  | 3 => .int
  | 4 => .int
  | 5 => .int
  | 6 => .int
  | 7 => .int
  | 8 => .object "ScanCompare$Part"
  | 9 => .int
  | _ => .int
abbrev wsX50 : List Cond := u_ws RX5 TX5 11
theorem nmX5 : ∀ a, a < 11 → ∀ b, b < 11 → a ≠ b → (TX5 a).2.1 ≠ (TX5 b).2.1 := by decide +kernel
theorem tyX5_ok : ∀ k, k < 11 → parseFieldDescriptor (TX5 k).2.2.1 = some (tyX5 k) := by decide +kernel
abbrev cX5_init : ByteArray := prog_7_method_1_code
def yX5_init : MethodName := ⟨RX5, "<init>", "(Z)V"⟩
abbrev cX5_kind : ByteArray := prog_7_method_2_code
def yX5_kind : MethodName := ⟨RX5, "kind", "()I"⟩
abbrev cX5_shapeRow : ByteArray := prog_7_method_3_code
def yX5_shapeRow : MethodName := ⟨RX5, "shapeRow", "(I)J"⟩
abbrev cX5_begin : ByteArray := prog_7_method_4_code
def yX5_begin : MethodName := ⟨RX5, "begin", "()V"⟩
abbrev cX5_takeRow : ByteArray := prog_7_method_5_code
def yX5_takeRow : MethodName := ⟨RX5, "takeRow", "(IJ)V"⟩
abbrev cX5_settle : ByteArray := prog_7_method_6_code
def yX5_settle : MethodName := ⟨RX5, "settle", "()V"⟩
abbrev cX5_lowestBit : ByteArray := prog_7_method_7_code
def yX5_lowestBit : MethodName := ⟨RX5, "lowestBit", "(J)I"⟩
abbrev cX5_bitsUpToHighest : ByteArray := prog_7_method_8_code
def yX5_bitsUpToHighest : MethodName := ⟨RX5, "bitsUpToHighest", "(J)I"⟩
abbrev cX5_hasShapeOf : ByteArray := prog_7_method_9_code
def yX5_hasShapeOf : MethodName := ⟨RX5, "hasShapeOf", "(LScanCompare$Part;)Z"⟩
abbrev cX5_takeShape : ByteArray := prog_7_method_10_code
def yX5_takeShape : MethodName := ⟨RX5, "takeShape", "(LScanCompare$Part;)V"⟩
abbrev cX5_report : ByteArray := prog_7_method_11_code
def yX5_report : MethodName := ⟨RX5, "report", "(LScanCompare$Probe;)V"⟩
def RX6 : String := "ScanCompare$Probe"
def TX6 : u_T := fun k => match k with
  | 0 => ("ScanCompare$Probe", "wanted", "I", false)
  | 1 => ("ScanCompare$Probe", "written", "I", false)
  | _ => ("ScanCompare$Probe", "picked", "I", false)
def tyX6 : Nat → FieldType := fun k => match k with
  | 0 => .int
  | 1 => .int
  | _ => .int
abbrev wsX60 : List Cond := u_ws RX6 TX6 3
theorem nmX6 : ∀ a, a < 3 → ∀ b, b < 3 → a ≠ b → (TX6 a).2.1 ≠ (TX6 b).2.1 := by decide +kernel
theorem tyX6_ok : ∀ k, k < 3 → parseFieldDescriptor (TX6 k).2.2.1 = some (tyX6 k) := by decide +kernel
abbrev cX6_init : ByteArray := prog_8_method_1_code
def yX6_init : MethodName := ⟨RX6, "<init>", "()V"⟩
abbrev cX6_seek : ByteArray := prog_8_method_2_code
def yX6_seek : MethodName := ⟨RX6, "seek", "(I)V"⟩
abbrev cX6_found : ByteArray := prog_8_method_3_code
def yX6_found : MethodName := ⟨RX6, "found", "()I"⟩
abbrev cX6_put : ByteArray := prog_8_method_4_code
def yX6_put : MethodName := ⟨RX6, "put", "(I)V"⟩
abbrev cX6_write : ByteArray := prog_8_method_5_code
def yX6_write : MethodName := ⟨RX6, "write", "(Ljava/lang/String;)V"⟩
abbrev cX6_writeNumber : ByteArray := prog_8_method_6_code
def yX6_writeNumber : MethodName := ⟨RX6, "writeNumber", "(I)V"⟩
abbrev cX6_writePair : ByteArray := prog_8_method_7_code
def yX6_writePair : MethodName := ⟨RX6, "writePair", "(ILjava/lang/String;I)V"⟩
def RX7 : String := "ScanCompare$Region"
def TX7 : u_T := fun k => match k with
  | 0 => ("ScanCompare$Region", "removed", "LScanCompare$Part;", true)
  | 1 => ("ScanCompare$Region", "added", "LScanCompare$Part;", true)
  | 2 => ("ScanCompare$Region", "left", "I", false)
  | 3 => ("ScanCompare$Region", "top", "I", false)
  | 4 => ("ScanCompare$Region", "right", "I", false)
  | 5 => ("ScanCompare$Region", "bottom", "I", false)
  | 6 => ("ScanCompare$Region", "number", "I", false)
  | 7 => ("ScanCompare$Region", "band", "I", false)
  | _ => ("ScanCompare$Region", "key", "J", false)
def tyX7 : Nat → FieldType := fun k => match k with
  | 0 => .object "ScanCompare$Part"
  | 1 => .object "ScanCompare$Part"
  | 2 => .int
  | 3 => .int
  | 4 => .int
  | 5 => .int
  | 6 => .int
  | 7 => .int
  | _ => .long
abbrev wsX70 : List Cond := u_ws RX7 TX7 9
theorem nmX7 : ∀ a, a < 9 → ∀ b, b < 9 → a ≠ b → (TX7 a).2.1 ≠ (TX7 b).2.1 := by decide +kernel
theorem tyX7_ok : ∀ k, k < 9 → parseFieldDescriptor (TX7 k).2.2.1 = some (tyX7 k) := by decide +kernel
abbrev cX7_init : ByteArray := prog_9_method_1_code
def yX7_init : MethodName := ⟨RX7, "<init>", "()V"⟩
abbrev cX7_settle : ByteArray := prog_9_method_2_code
def yX7_settle : MethodName := ⟨RX7, "settle", "()V"⟩
abbrev cX7_start : ByteArray := prog_9_method_3_code
def yX7_start : MethodName := ⟨RX7, "start", "(Z)I"⟩
abbrev cX7_end : ByteArray := prog_9_method_4_code
def yX7_end : MethodName := ⟨RX7, "end", "(Z)I"⟩
abbrev cX7_takeNumber : ByteArray := prog_9_method_5_code
def yX7_takeNumber : MethodName := ⟨RX7, "takeNumber", "(I)V"⟩
def RX8 : String := "ScanCompare$Registration"
def TX8 : u_T := fun k => match k with
  | 0 => ("ScanCompare$Registration", "width", "I", true)
  | 1 => ("ScanCompare$Registration", "height", "I", true)
  | 2 => ("ScanCompare$Registration", "upright", "LScanCompare$Image;", true)
  | 3 => ("ScanCompare$Registration", "view", "LScanCompare$Image;", true)
  | 4 => ("ScanCompare$Registration", "originalCells", "[I", true)
  | 5 => ("ScanCompare$Registration", "viewCells", "[I", true)
  | 6 => ("ScanCompare$Registration", "dx", "I", false)
  | 7 => ("ScanCompare$Registration", "dy", "I", false)
  | 8 => ("ScanCompare$Registration", "slant", "I", false)
  | 9 => ("ScanCompare$Registration", "upsideDown", "Z", false)
  | 10 => ("ScanCompare$Registration", "cost", "I", false)
  | 11 => ("ScanCompare$Registration", "bestX", "I", false)
  | 12 => ("ScanCompare$Registration", "bestY", "I", false)
  | _ => ("ScanCompare$Registration", "bestCost", "I", false)
def tyX8 : Nat → FieldType := fun k => match k with
  | 0 => .int
  | 1 => .int
  | 2 => .object "ScanCompare$Image"
  | 3 => .object "ScanCompare$Image"
  | 4 => .array .int
  | 5 => .array .int
  | 6 => .int
  | 7 => .int
  | 8 => .int
  | 9 => .boolean
  | 10 => .int
  | 11 => .int
  | 12 => .int
  | _ => .int
abbrev wsX80 : List Cond := u_ws RX8 TX8 14
theorem nmX8 : ∀ a, a < 14 → ∀ b, b < 14 → a ≠ b → (TX8 a).2.1 ≠ (TX8 b).2.1 := by decide +kernel
theorem tyX8_ok : ∀ k, k < 14 → parseFieldDescriptor (TX8 k).2.2.1 = some (tyX8 k) := by decide +kernel
abbrev cX8_init : ByteArray := prog_10_method_1_code
def yX8_init : MethodName := ⟨RX8, "<init>", "(II)V"⟩
abbrev cX8_search : ByteArray := prog_10_method_2_code
def yX8_search : MethodName := ⟨RX8, "search", "(LScanCompare$Image;LScanCompare$Image;IIZ)V"⟩
abbrev cX8_look : ByteArray := prog_10_method_3_code
def yX8_look : MethodName := ⟨RX8, "look", "(LScanCompare$Image;ZI)V"⟩
abbrev cX8_cellColumns : ByteArray := prog_10_method_4_code
def yX8_cellColumns : MethodName := ⟨RX8, "cellColumns", "()I"⟩
abbrev cX8_cellRows : ByteArray := prog_10_method_5_code
def yX8_cellRows : MethodName := ⟨RX8, "cellRows", "()I"⟩
abbrev cX8_countCells : ByteArray := prog_10_method_6_code
def yX8_countCells : MethodName := ⟨RX8, "countCells", "(LScanCompare$Image;[I)V"⟩
abbrev cX8_findCoarse : ByteArray := prog_10_method_7_code
def yX8_findCoarse : MethodName := ⟨RX8, "findCoarse", "(I)V"⟩
abbrev cX8_findFine : ByteArray := prog_10_method_8_code
def yX8_findFine : MethodName := ⟨RX8, "findFine", "(LScanCompare$Image;III)V"⟩
abbrev cX8_offer : ByteArray := prog_10_method_9_code
def yX8_offer : MethodName := ⟨RX8, "offer", "(III)V"⟩
abbrev cX8_coarseCost : ByteArray := prog_10_method_10_code
def yX8_coarseCost : MethodName := ⟨RX8, "coarseCost", "(II)I"⟩
abbrev cX8_countAt : ByteArray := prog_10_method_11_code
def yX8_countAt : MethodName := ⟨RX8, "countAt", "([II)I"⟩
abbrev cX8_costOf : ByteArray := prog_10_method_12_code
def yX8_costOf : MethodName := ⟨RX8, "costOf", "(LScanCompare$Image;II)I"⟩
def RX9 : String := "ScanCompare$Setting"
def TX9 : u_T := fun k => match k with
  | _ => ("", "", "", false)
def tyX9 : Nat → FieldType := fun k => match k with
  | _ => .int
abbrev wsX90 : List Cond := u_ws RX9 TX9 0
theorem nmX9 : ∀ a, a < 0 → ∀ b, b < 0 → a ≠ b → (TX9 a).2.1 ≠ (TX9 b).2.1 := by decide +kernel
theorem tyX9_ok : ∀ k, k < 0 → parseFieldDescriptor (TX9 k).2.2.1 = some (tyX9 k) := by decide +kernel
abbrev cX9_hasWords : ByteArray := prog_11_method_5_code
def yX9_hasWords : MethodName := ⟨RX9, "hasWords", "()Z"⟩
abbrev cX9_valueIn : ByteArray := prog_11_method_6_code
def yX9_valueIn : MethodName := ⟨RX9, "valueIn", "(LScanCompare$Text;II)I"⟩
def RX10 : String := "ScanCompare$Stamps"
def TX10 : u_T := fun k => match k with
  | 0 => ("ScanCompare$Stamps", "known", "[LScanCompare$Part;", true)
  | _ => ("ScanCompare$Stamps", "count", "I", false)
def tyX10 : Nat → FieldType := fun k => match k with
  | 0 => .array (.object "ScanCompare$Part")
  | _ => .int
abbrev wsX100 : List Cond := u_ws RX10 TX10 2
theorem nmX10 : ∀ a, a < 2 → ∀ b, b < 2 → a ≠ b → (TX10 a).2.1 ≠ (TX10 b).2.1 := by decide +kernel
theorem tyX10_ok : ∀ k, k < 2 → parseFieldDescriptor (TX10 k).2.2.1 = some (tyX10 k) := by decide +kernel
abbrev cX10_init : ByteArray := prog_12_method_1_code
def yX10_init : MethodName := ⟨RX10, "<init>", "()V"⟩
abbrev cX10_isFull : ByteArray := prog_12_method_2_code
def yX10_isFull : MethodName := ⟨RX10, "isFull", "()Z"⟩
abbrev cX10_numberOf : ByteArray := prog_12_method_3_code
def yX10_numberOf : MethodName := ⟨RX10, "numberOf", "(LScanCompare$Part;)I"⟩
abbrev cX10_add : ByteArray := prog_12_method_4_code
def yX10_add : MethodName := ⟨RX10, "add", "(LScanCompare$Part;)I"⟩
abbrev cX10_drop : ByteArray := prog_12_method_5_code
def yX10_drop : MethodName := ⟨RX10, "drop", "(I)I"⟩
def RX11 : String := "ScanCompare$Text"
def TX11 : u_T := fun k => match k with
  | 0 => ("ScanCompare$Text", "codes", "[I", true)
  | _ => ("ScanCompare$Text", "length", "I", false)
def tyX11 : Nat → FieldType := fun k => match k with
  | 0 => .array .int
  | _ => .int
abbrev wsX110 : List Cond := u_ws RX11 TX11 2
theorem nmX11 : ∀ a, a < 2 → ∀ b, b < 2 → a ≠ b → (TX11 a).2.1 ≠ (TX11 b).2.1 := by decide +kernel
theorem tyX11_ok : ∀ k, k < 2 → parseFieldDescriptor (TX11 k).2.2.1 = some (tyX11 k) := by decide +kernel
abbrev cX11_init : ByteArray := prog_13_method_1_code
def yX11_init : MethodName := ⟨RX11, "<init>", "()V"⟩
abbrev cX11_length : ByteArray := prog_13_method_2_code
def yX11_length : MethodName := ⟨RX11, "length", "()I"⟩
abbrev cX11_isFull : ByteArray := prog_13_method_3_code
def yX11_isFull : MethodName := ⟨RX11, "isFull", "()Z"⟩
abbrev cX11_add : ByteArray := prog_13_method_4_code
def yX11_add : MethodName := ⟨RX11, "add", "(I)I"⟩
abbrev cX11_clear : ByteArray := prog_13_method_5_code
def yX11_clear : MethodName := ⟨RX11, "clear", "()I"⟩
abbrev cX11_codeAt : ByteArray := prog_13_method_6_code
def yX11_codeAt : MethodName := ⟨RX11, "codeAt", "(I)I"⟩
abbrev cX11_isDigit : ByteArray := prog_13_method_7_code
def yX11_isDigit : MethodName := ⟨RX11, "isDigit", "(I)Z"⟩
abbrev cX11_isLetter : ByteArray := prog_13_method_8_code
def yX11_isLetter : MethodName := ⟨RX11, "isLetter", "(I)Z"⟩
abbrev cX11_endOfDigits : ByteArray := prog_13_method_9_code
def yX11_endOfDigits : MethodName := ⟨RX11, "endOfDigits", "(I)I"⟩
abbrev cX11_endOfLetters : ByteArray := prog_13_method_10_code
def yX11_endOfLetters : MethodName := ⟨RX11, "endOfLetters", "(I)I"⟩
abbrev cX11_endOfLettersAndDigits : ByteArray := prog_13_method_11_code
def yX11_endOfLettersAndDigits : MethodName := ⟨RX11, "endOfLettersAndDigits", "(I)I"⟩
abbrev cX11_numberOf : ByteArray := prog_13_method_12_code
def yX11_numberOf : MethodName := ⟨RX11, "numberOf", "(II)I"⟩
abbrev cX11_matches : ByteArray := prog_13_method_13_code
def yX11_matches : MethodName := ⟨RX11, "matches", "(IILjava/lang/String;)Z"⟩
abbrev cX11_patternError : ByteArray := prog_13_method_14_code
def yX11_patternError : MethodName := ⟨RX11, "patternError", "()I"⟩
abbrev cX11_isCount : ByteArray := prog_13_method_15_code
def yX11_isCount : MethodName := ⟨RX11, "isCount", "(I)Z"⟩
abbrev cX11_errorAtMark : ByteArray := prog_13_method_16_code
def yX11_errorAtMark : MethodName := ⟨RX11, "errorAtMark", "(II)I"⟩
abbrev cX11_drawPattern : ByteArray := prog_13_method_17_code
def yX11_drawPattern : MethodName := ⟨RX11, "drawPattern", "(LScanCompare$Image;II)V"⟩
def RX12 : String := "ScanCompare"
def TX12 : u_T := fun k => match k with
  | 0 => ("ScanCompare", "width", "I", true)
  | 1 => ("ScanCompare", "height", "I", true)
  | 2 => ("ScanCompare", "pages", "[LScanCompare$Image;", true)
  | 3 => ("ScanCompare", "history", "LScanCompare$History;", true)
  | 4 => ("ScanCompare", "blobs", "LScanCompare$Blobs;", true)
  | 5 => ("ScanCompare", "text", "LScanCompare$Text;", true)
  | 6 => ("ScanCompare", "config", "LScanCompare$Config;", true)
  | 7 => ("ScanCompare", "masks", "[[I", true)
  | 8 => ("ScanCompare", "maskCount", "I", false)
  | 9 => ("ScanCompare", "watched", "LScanCompare$Image;", true)
  | 10 => ("ScanCompare", "stamps", "LScanCompare$Stamps;", true)
  | 11 => ("ScanCompare", "result", "LScanCompare$Comparison;", true)
  | 12 => ("ScanCompare", "compared", "Z", false)
  | _ => ("ScanCompare", "probe", "LScanCompare$Probe;", true)
def tyX12 : Nat → FieldType := fun k => match k with
  | 0 => .int
  | 1 => .int
  | 2 => .array (.object "ScanCompare$Image")
  | 3 => .object "ScanCompare$History"
  | 4 => .object "ScanCompare$Blobs"
  | 5 => .object "ScanCompare$Text"
  | 6 => .object "ScanCompare$Config"
  | 7 => .array (.array .int)
  | 8 => .int
  | 9 => .object "ScanCompare$Image"
  | 10 => .object "ScanCompare$Stamps"
  | 11 => .object "ScanCompare$Comparison"
  | 12 => .boolean
  | _ => .object "ScanCompare$Probe"
abbrev wsX120 : List Cond := u_ws RX12 TX12 14
theorem nmX12 : ∀ a, a < 14 → ∀ b, b < 14 → a ≠ b → (TX12 a).2.1 ≠ (TX12 b).2.1 := by decide +kernel
theorem tyX12_ok : ∀ k, k < 14 → parseFieldDescriptor (TX12 k).2.2.1 = some (tyX12 k) := by decide +kernel
abbrev cX12_init : ByteArray := prog_1_method_1_code
def yX12_init : MethodName := ⟨RX12, "<init>", "(II)V"⟩
abbrev cX12_row : ByteArray := prog_1_method_2_code
def yX12_row : MethodName := ⟨RX12, "row", "(II)J"⟩
abbrev cX12_setRow : ByteArray := prog_1_method_3_code
def yX12_setRow : MethodName := ⟨RX12, "setRow", "(IIJ)I"⟩
abbrev cX12_fill : ByteArray := prog_1_method_4_code
def yX12_fill : MethodName := ⟨RX12, "fill", "(IIIIIZ)I"⟩
abbrev cX12_copy : ByteArray := prog_1_method_5_code
def yX12_copy : MethodName := ⟨RX12, "copy", "(IIII)I"⟩
abbrev cX12_merge : ByteArray := prog_1_method_6_code
def yX12_merge : MethodName := ⟨RX12, "merge", "(I)I"⟩
abbrev cX12_flip : ByteArray := prog_1_method_7_code
def yX12_flip : MethodName := ⟨RX12, "flip", "(II)I"⟩
abbrev cX12_despeckle : ByteArray := prog_1_method_8_code
def yX12_despeckle : MethodName := ⟨RX12, "despeckle", "(II)I"⟩
abbrev cX12_paste : ByteArray := prog_1_method_9_code
def yX12_paste : MethodName := ⟨RX12, "paste", "(III)I"⟩
abbrev cX12_components : ByteArray := prog_1_method_10_code
def yX12_components : MethodName := ⟨RX12, "components", "(I)I"⟩
abbrev cX12_lines : ByteArray := prog_1_method_11_code
def yX12_lines : MethodName := ⟨RX12, "lines", "(I)I"⟩
abbrev cX12_lineTop : ByteArray := prog_1_method_12_code
def yX12_lineTop : MethodName := ⟨RX12, "lineTop", "(II)I"⟩
abbrev cX12_lineBottom : ByteArray := prog_1_method_13_code
def yX12_lineBottom : MethodName := ⟨RX12, "lineBottom", "(II)I"⟩
abbrev cX12_words : ByteArray := prog_1_method_14_code
def yX12_words : MethodName := ⟨RX12, "words", "(III)I"⟩
abbrev cX12_ink : ByteArray := prog_1_method_15_code
def yX12_ink : MethodName := ⟨RX12, "ink", "(IIIII)I"⟩
abbrev cX12_fingerprint : ByteArray := prog_1_method_16_code
def yX12_fingerprint : MethodName := ⟨RX12, "fingerprint", "(I)J"⟩
abbrev cX12_undo : ByteArray := prog_1_method_17_code
def yX12_undo : MethodName := ⟨RX12, "undo", "()I"⟩
abbrev cX12_type : ByteArray := prog_1_method_18_code
def yX12_type : MethodName := ⟨RX12, "type", "(I)I"⟩
abbrev cX12_clearText : ByteArray := prog_1_method_19_code
def yX12_clearText : MethodName := ⟨RX12, "clearText", "()I"⟩
abbrev cX12_configure : ByteArray := prog_1_method_20_code
def yX12_configure : MethodName := ⟨RX12, "configure", "()I"⟩
abbrev cX12_setting : ByteArray := prog_1_method_21_code
def yX12_setting : MethodName := ⟨RX12, "setting", "(I)I"⟩
abbrev cX12_configChar : ByteArray := prog_1_method_22_code
def yX12_configChar : MethodName := ⟨RX12, "configChar", "(I)I"⟩
abbrev cX12_addMask : ByteArray := prog_1_method_23_code
def yX12_addMask : MethodName := ⟨RX12, "addMask", "(IIII)I"⟩
abbrev cX12_removeMask : ByteArray := prog_1_method_24_code
def yX12_removeMask : MethodName := ⟨RX12, "removeMask", "(I)I"⟩
abbrev cX12_compare : ByteArray := prog_1_method_25_code
def yX12_compare : MethodName := ⟨RX12, "compare", "()I"⟩
abbrev cX12_shiftX : ByteArray := prog_1_method_26_code
def yX12_shiftX : MethodName := ⟨RX12, "shiftX", "()I"⟩
abbrev cX12_shiftY : ByteArray := prog_1_method_27_code
def yX12_shiftY : MethodName := ⟨RX12, "shiftY", "()I"⟩
abbrev cX12_skew : ByteArray := prog_1_method_28_code
def yX12_skew : MethodName := ⟨RX12, "skew", "()I"⟩
abbrev cX12_turned : ByteArray := prog_1_method_29_code
def yX12_turned : MethodName := ⟨RX12, "turned", "()Z"⟩
abbrev cX12_mismatch : ByteArray := prog_1_method_30_code
def yX12_mismatch : MethodName := ⟨RX12, "mismatch", "()I"⟩
abbrev cX12_similarity : ByteArray := prog_1_method_31_code
def yX12_similarity : MethodName := ⟨RX12, "similarity", "()I"⟩
abbrev cX12_mismatchAt : ByteArray := prog_1_method_32_code
def yX12_mismatchAt : MethodName := ⟨RX12, "mismatchAt", "(II)I"⟩
abbrev cX12_blockDifference : ByteArray := prog_1_method_33_code
def yX12_blockDifference : MethodName := ⟨RX12, "blockDifference", "(II)I"⟩
abbrev cX12_regions : ByteArray := prog_1_method_34_code
def yX12_regions : MethodName := ⟨RX12, "regions", "()I"⟩
abbrev cX12_regionAt : ByteArray := prog_1_method_35_code
def yX12_regionAt : MethodName := ⟨RX12, "regionAt", "(II)I"⟩
abbrev cX12_regionLeft : ByteArray := prog_1_method_36_code
def yX12_regionLeft : MethodName := ⟨RX12, "regionLeft", "(I)I"⟩
abbrev cX12_regionTop : ByteArray := prog_1_method_37_code
def yX12_regionTop : MethodName := ⟨RX12, "regionTop", "(I)I"⟩
abbrev cX12_regionRight : ByteArray := prog_1_method_38_code
def yX12_regionRight : MethodName := ⟨RX12, "regionRight", "(I)I"⟩
abbrev cX12_regionBottom : ByteArray := prog_1_method_39_code
def yX12_regionBottom : MethodName := ⟨RX12, "regionBottom", "(I)I"⟩
abbrev cX12_missingPixels : ByteArray := prog_1_method_40_code
def yX12_missingPixels : MethodName := ⟨RX12, "missingPixels", "(I)I"⟩
abbrev cX12_addedPixels : ByteArray := prog_1_method_41_code
def yX12_addedPixels : MethodName := ⟨RX12, "addedPixels", "(I)I"⟩
abbrev cX12_changes : ByteArray := prog_1_method_42_code
def yX12_changes : MethodName := ⟨RX12, "changes", "()I"⟩
abbrev cX12_changeKind : ByteArray := prog_1_method_43_code
def yX12_changeKind : MethodName := ⟨RX12, "changeKind", "(I)I"⟩
abbrev cX12_changeRegion : ByteArray := prog_1_method_44_code
def yX12_changeRegion : MethodName := ⟨RX12, "changeRegion", "(I)I"⟩
abbrev cX12_changeTarget : ByteArray := prog_1_method_45_code
def yX12_changeTarget : MethodName := ⟨RX12, "changeTarget", "(I)I"⟩
abbrev cX12_moveX : ByteArray := prog_1_method_46_code
def yX12_moveX : MethodName := ⟨RX12, "moveX", "(I)I"⟩
abbrev cX12_moveY : ByteArray := prog_1_method_47_code
def yX12_moveY : MethodName := ⟨RX12, "moveY", "(I)I"⟩
abbrev cX12_changePixels : ByteArray := prog_1_method_48_code
def yX12_changePixels : MethodName := ⟨RX12, "changePixels", "(I)I"⟩
abbrev cX12_changeLine : ByteArray := prog_1_method_49_code
def yX12_changeLine : MethodName := ⟨RX12, "changeLine", "(I)I"⟩
abbrev cX12_reportChar : ByteArray := prog_1_method_50_code
def yX12_reportChar : MethodName := ⟨RX12, "reportChar", "(I)I"⟩
abbrev cX12_learn : ByteArray := prog_1_method_51_code
def yX12_learn : MethodName := ⟨RX12, "learn", "(I)I"⟩
abbrev cX12_stampOf : ByteArray := prog_1_method_52_code
def yX12_stampOf : MethodName := ⟨RX12, "stampOf", "(I)I"⟩
abbrev cX12_forgetStamp : ByteArray := prog_1_method_53_code
def yX12_forgetStamp : MethodName := ⟨RX12, "forgetStamp", "(I)I"⟩
abbrev cX12_accept : ByteArray := prog_1_method_54_code
def yX12_accept : MethodName := ⟨RX12, "accept", "(I)I"⟩
abbrev cX12_leastNoise : ByteArray := prog_1_method_55_code
def yX12_leastNoise : MethodName := ⟨RX12, "leastNoise", "(I)I"⟩
abbrev cX12_pageAt : ByteArray := prog_1_method_56_code
def yX12_pageAt : MethodName := ⟨RX12, "pageAt", "(I)LScanCompare$Image;"⟩
abbrev cX12_requireRow : ByteArray := prog_1_method_57_code
def yX12_requireRow : MethodName := ⟨RX12, "requireRow", "(I)V"⟩
abbrev cX12_requireSize : ByteArray := prog_1_method_58_code
def yX12_requireSize : MethodName := ⟨RX12, "requireSize", "(II)V"⟩
abbrev cX12_topOfLine : ByteArray := prog_1_method_59_code
def yX12_topOfLine : MethodName := ⟨RX12, "topOfLine", "(LScanCompare$Image;I)I"⟩
abbrev cX12_isWithin : ByteArray := prog_1_method_60_code
def yX12_isWithin : MethodName := ⟨RX12, "isWithin", "(III)Z"⟩
abbrev cX12_requireComparison : ByteArray := prog_1_method_61_code
def yX12_requireComparison : MethodName := ⟨RX12, "requireComparison", "()V"⟩
abbrev cX12_registration : ByteArray := prog_1_method_62_code
def yX12_registration : MethodName := ⟨RX12, "registration", "()LScanCompare$Registration;"⟩
abbrev cX12_regionOf : ByteArray := prog_1_method_63_code
def yX12_regionOf : MethodName := ⟨RX12, "regionOf", "(I)LScanCompare$Region;"⟩
abbrev cX12_changeOf : ByteArray := prog_1_method_64_code
def yX12_changeOf : MethodName := ⟨RX12, "changeOf", "(I)LScanCompare$Part;"⟩
def RX13 : String := "ScanCompareModel"
def TX13 : u_T := fun k => match k with
  | 0 => ("ScanCompareModel", "w", "I", true)
  | 1 => ("ScanCompareModel", "h", "I", true)
  | 2 => ("ScanCompareModel", "thrown", "I", false)
  | 3 => ("ScanCompareModel", "ink", "[Z", true)
  | 4 => ("ScanCompareModel", "past", "[Z", true)
  | 5 => ("ScanCompareModel", "pastPage", "[I", true)
  | 6 => ("ScanCompareModel", "edits", "I", false)
  | 7 => ("ScanCompareModel", "next", "[Z", true)
  | 8 => ("ScanCompareModel", "seen", "[Z", true)
  | 9 => ("ScanCompareModel", "pile", "[I", true)
  | 10 => ("ScanCompareModel", "high", "I", false)
  | 11 => ("ScanCompareModel", "found", "I", false)
  | 12 => ("ScanCompareModel", "text", "[I", true)
  | 13 => ("ScanCompareModel", "typed", "I", false)
  | 14 => ("ScanCompareModel", "values", "[I", true)
  | 15 => ("ScanCompareModel", "given", "[I", true)
  | 16 => ("ScanCompareModel", "givens", "I", false)
  | 17 => ("ScanCompareModel", "NAMES", "[C", true)
  | 18 => ("ScanCompareModel", "WORDS", "[C", true)
  | 19 => ("ScanCompareModel", "LEAST", "[I", true)
  | 20 => ("ScanCompareModel", "MOST", "[I", true)
  | 21 => ("ScanCompareModel", "toldSettings", "[I", true)
  | 22 => ("ScanCompareModel", "toldValues", "[I", true)
  | 23 => ("ScanCompareModel", "told", "I", false)
  | 24 => ("ScanCompareModel", "out", "[I", true)
  | 25 => ("ScanCompareModel", "outs", "I", false)
  | 26 => ("ScanCompareModel", "maskX", "[I", true)
  | 27 => ("ScanCompareModel", "maskY", "[I", true)
  | 28 => ("ScanCompareModel", "maskW", "[I", true)
  | 29 => ("ScanCompareModel", "maskH", "[I", true)
  | 30 => ("ScanCompareModel", "masks", "I", false)
  | 31 => ("ScanCompareModel", "stamps", "[Z", true)
  | 32 => ("ScanCompareModel", "stampW", "[I", true)
  | 33 => ("ScanCompareModel", "stampH", "[I", true)
  | 34 => ("ScanCompareModel", "stampMany", "I", false)
  | 35 => ("ScanCompareModel", "isCompared", "Z", false)
  | 36 => ("ScanCompareModel", "original", "[Z", true)
  | 37 => ("ScanCompareModel", "scan", "[Z", true)
  | 38 => ("ScanCompareModel", "skewed", "[Z", true)
  | 39 => ("ScanCompareModel", "aligned", "[Z", true)
  | 40 => ("ScanCompareModel", "chosen", "[Z", true)
  | 41 => ("ScanCompareModel", "shiftX", "I", false)
  | 42 => ("ScanCompareModel", "shiftY", "I", false)
  | 43 => ("ScanCompareModel", "skew", "I", false)
  | 44 => ("ScanCompareModel", "isTurned", "Z", false)
  | 45 => ("ScanCompareModel", "mismatch", "I", false)
  | 46 => ("ScanCompareModel", "inkCells", "[I", true)
  | 47 => ("ScanCompareModel", "otherCells", "[I", true)
  | 48 => ("ScanCompareModel", "coarseA", "I", false)
  | 49 => ("ScanCompareModel", "coarseB", "I", false)
  | 50 => ("ScanCompareModel", "fineX", "I", false)
  | 51 => ("ScanCompareModel", "fineY", "I", false)
  | 52 => ("ScanCompareModel", "missing", "[Z", true)
  | 53 => ("ScanCompareModel", "added", "[Z", true)
  | 54 => ("ScanCompareModel", "side", "I", false)
  | 55 => ("ScanCompareModel", "columns", "I", false)
  | 56 => ("ScanCompareModel", "rows", "I", false)
  | 57 => ("ScanCompareModel", "differences", "[I", true)
  | 58 => ("ScanCompareModel", "foundOf", "[I", true)
  | 59 => ("ScanCompareModel", "regions", "I", false)
  | 60 => ("ScanCompareModel", "left", "[I", true)
  | 61 => ("ScanCompareModel", "top", "[I", true)
  | 62 => ("ScanCompareModel", "right", "[I", true)
  | 63 => ("ScanCompareModel", "bottom", "[I", true)
  | 64 => ("ScanCompareModel", "orderOf", "[I", true)
  | 65 => ("ScanCompareModel", "numberOf", "[I", true)
  | 66 => ("ScanCompareModel", "blockPile", "[I", true)
  | 67 => ("ScanCompareModel", "bandOf", "[I", true)
  | 68 => ("ScanCompareModel", "isTaken", "[Z", true)
  | 69 => ("ScanCompareModel", "regionOf", "[I", true)
  | 70 => ("ScanCompareModel", "partN", "[I", true)
  | 71 => ("ScanCompareModel", "partX", "[I", true)
  | 72 => ("ScanCompareModel", "partY", "[I", true)
  | 73 => ("ScanCompareModel", "partRight", "[I", true)
  | 74 => ("ScanCompareModel", "partBottom", "[I", true)
  | 75 => ("ScanCompareModel", "isPaired", "[Z", true)
  | 76 => ("ScanCompareModel", "partOf", "[I", true)
  | 77 => ("ScanCompareModel", "targetOf", "[I", true)
  | 78 => ("ScanCompareModel", "lineOf", "[I", true)
  | 79 => ("ScanCompareModel", "changes", "I", false)
  | 80 => ("ScanCompareModel", "pairOf", "[I", true)
  | _ => ("ScanCompareModel", "PHRASES", "[C", true)
def tyX13 : Nat → FieldType := fun k => match k with
  | 0 => .int
  | 1 => .int
  | 2 => .int
  | 3 => .array .boolean
  | 4 => .array .boolean
  | 5 => .array .int
  | 6 => .int
  | 7 => .array .boolean
  | 8 => .array .boolean
  | 9 => .array .int
  | 10 => .int
  | 11 => .int
  | 12 => .array .int
  | 13 => .int
  | 14 => .array .int
  | 15 => .array .int
  | 16 => .int
  | 17 => .array .char
  | 18 => .array .char
  | 19 => .array .int
  | 20 => .array .int
  | 21 => .array .int
  | 22 => .array .int
  | 23 => .int
  | 24 => .array .int
  | 25 => .int
  | 26 => .array .int
  | 27 => .array .int
  | 28 => .array .int
  | 29 => .array .int
  | 30 => .int
  | 31 => .array .boolean
  | 32 => .array .int
  | 33 => .array .int
  | 34 => .int
  | 35 => .boolean
  | 36 => .array .boolean
  | 37 => .array .boolean
  | 38 => .array .boolean
  | 39 => .array .boolean
  | 40 => .array .boolean
  | 41 => .int
  | 42 => .int
  | 43 => .int
  | 44 => .boolean
  | 45 => .int
  | 46 => .array .int
  | 47 => .array .int
  | 48 => .int
  | 49 => .int
  | 50 => .int
  | 51 => .int
  | 52 => .array .boolean
  | 53 => .array .boolean
  | 54 => .int
  | 55 => .int
  | 56 => .int
  | 57 => .array .int
  | 58 => .array .int
  | 59 => .int
  | 60 => .array .int
  | 61 => .array .int
  | 62 => .array .int
  | 63 => .array .int
  | 64 => .array .int
  | 65 => .array .int
  | 66 => .array .int
  | 67 => .array .int
  | 68 => .array .boolean
  | 69 => .array .int
  | 70 => .array .int
  | 71 => .array .int
  | 72 => .array .int
  | 73 => .array .int
  | 74 => .array .int
  | 75 => .array .boolean
  | 76 => .array .int
  | 77 => .array .int
  | 78 => .array .int
  | 79 => .int
  | 80 => .array .int
  | _ => .array .char
abbrev wsX130 : List Cond := u_ws RX13 TX13 82
theorem nmX13 : ∀ a, a < 82 → ∀ b, b < 82 → a ≠ b → (TX13 a).2.1 ≠ (TX13 b).2.1 := by decide +kernel
theorem tyX13_ok : ∀ k, k < 82 → parseFieldDescriptor (TX13 k).2.2.1 = some (tyX13 k) := by decide +kernel
abbrev cX13_init : ByteArray := prog_15_method_1_code
def yX13_init : MethodName := ⟨RX13, "<init>", "(II)V"⟩
abbrev cX13_thrown : ByteArray := prog_15_method_2_code
def yX13_thrown : MethodName := ⟨RX13, "thrown", "()I"⟩
abbrev cX13_in : ByteArray := prog_15_method_3_code
def yX13_in : MethodName := ⟨RX13, "in", "(JJJ)Z"⟩
abbrev cX13_fails : ByteArray := prog_15_method_4_code
def yX13_fails : MethodName := ⟨RX13, "fails", "(I)I"⟩
abbrev cX13_isPage : ByteArray := prog_15_method_5_code
def yX13_isPage : MethodName := ⟨RX13, "isPage", "(I)Z"⟩
abbrev cX13_isOn : ByteArray := prog_15_method_6_code
def yX13_isOn : MethodName := ⟨RX13, "isOn", "(JJ)Z"⟩
abbrev cX13_at : ByteArray := prog_15_method_7_code
def yX13_at : MethodName := ⟨RX13, "at", "(IJJ)Z"⟩
abbrev cX13_takes : ByteArray := prog_15_method_8_code
def yX13_takes : MethodName := ⟨RX13, "takes", "(I)V"⟩
abbrev cX13_edits : ByteArray := prog_15_method_9_code
def yX13_edits : MethodName := ⟨RX13, "edits", "(I)I"⟩
abbrev cX13_rowOf : ByteArray := prog_15_method_10_code
def yX13_rowOf : MethodName := ⟨RX13, "rowOf", "(II)J"⟩
abbrev cX13_row : ByteArray := prog_15_method_11_code
def yX13_row : MethodName := ⟨RX13, "row", "(II)J"⟩
abbrev cX13_setRow : ByteArray := prog_15_method_12_code
def yX13_setRow : MethodName := ⟨RX13, "setRow", "(IIJ)I"⟩
abbrev cX13_fill : ByteArray := prog_15_method_13_code
def yX13_fill : MethodName := ⟨RX13, "fill", "(IIIIIZ)I"⟩
abbrev cX13_isWithin : ByteArray := prog_15_method_14_code
def yX13_isWithin : MethodName := ⟨RX13, "isWithin", "(IIIII)Z"⟩
abbrev cX13_copy : ByteArray := prog_15_method_15_code
def yX13_copy : MethodName := ⟨RX13, "copy", "(IIII)I"⟩
abbrev cX13_merge : ByteArray := prog_15_method_16_code
def yX13_merge : MethodName := ⟨RX13, "merge", "(I)I"⟩
abbrev cX13_flip : ByteArray := prog_15_method_17_code
def yX13_flip : MethodName := ⟨RX13, "flip", "(II)I"⟩
abbrev cX13_looks : ByteArray := prog_15_method_18_code
def yX13_looks : MethodName := ⟨RX13, "looks", "([ZII)V"⟩
abbrev cX13_gathers : ByteArray := prog_15_method_19_code
def yX13_gathers : MethodName := ⟨RX13, "gathers", "([ZI)I"⟩
abbrev cX13_cleans : ByteArray := prog_15_method_20_code
def yX13_cleans : MethodName := ⟨RX13, "cleans", "([ZI)I"⟩
abbrev cX13_despeckle : ByteArray := prog_15_method_21_code
def yX13_despeckle : MethodName := ⟨RX13, "despeckle", "(II)I"⟩
abbrev cX13_components : ByteArray := prog_15_method_22_code
def yX13_components : MethodName := ⟨RX13, "components", "(I)I"⟩
abbrev cX13_hasInk : ByteArray := prog_15_method_23_code
def yX13_hasInk : MethodName := ⟨RX13, "hasInk", "([ZII)Z"⟩
abbrev cX13_linesTo : ByteArray := prog_15_method_24_code
def yX13_linesTo : MethodName := ⟨RX13, "linesTo", "([ZII)I"⟩
abbrev cX13_topOf : ByteArray := prog_15_method_25_code
def yX13_topOf : MethodName := ⟨RX13, "topOf", "(II)I"⟩
abbrev cX13_bottomOf : ByteArray := prog_15_method_26_code
def yX13_bottomOf : MethodName := ⟨RX13, "bottomOf", "(II)I"⟩
abbrev cX13_lines : ByteArray := prog_15_method_27_code
def yX13_lines : MethodName := ⟨RX13, "lines", "(I)I"⟩
abbrev cX13_lineTop : ByteArray := prog_15_method_28_code
def yX13_lineTop : MethodName := ⟨RX13, "lineTop", "(II)I"⟩
abbrev cX13_lineBottom : ByteArray := prog_15_method_29_code
def yX13_lineBottom : MethodName := ⟨RX13, "lineBottom", "(II)I"⟩
abbrev cX13_words : ByteArray := prog_15_method_30_code
def yX13_words : MethodName := ⟨RX13, "words", "(III)I"⟩
abbrev cX13_ink : ByteArray := prog_15_method_31_code
def yX13_ink : MethodName := ⟨RX13, "ink", "(IIIII)I"⟩
abbrev cX13_fingerprint : ByteArray := prog_15_method_32_code
def yX13_fingerprint : MethodName := ⟨RX13, "fingerprint", "(I)J"⟩
abbrev cX13_undo : ByteArray := prog_15_method_33_code
def yX13_undo : MethodName := ⟨RX13, "undo", "()I"⟩
abbrev cX13_type : ByteArray := prog_15_method_34_code
def yX13_type : MethodName := ⟨RX13, "type", "(I)I"⟩
abbrev cX13_clearText : ByteArray := prog_15_method_35_code
def yX13_clearText : MethodName := ⟨RX13, "clearText", "()I"⟩
abbrev cX13_letter : ByteArray := prog_15_method_36_code
def yX13_letter : MethodName := ⟨RX13, "letter", "(I)I"⟩
abbrev cX13_isSmall : ByteArray := prog_15_method_37_code
def yX13_isSmall : MethodName := ⟨RX13, "isSmall", "(I)Z"⟩
abbrev cX13_isFigure : ByteArray := prog_15_method_38_code
def yX13_isFigure : MethodName := ⟨RX13, "isFigure", "(I)Z"⟩
abbrev cX13_wordOf : ByteArray := prog_15_method_39_code
def yX13_wordOf : MethodName := ⟨RX13, "wordOf", "([CII)I"⟩
abbrev cX13_firstWord : ByteArray := prog_15_method_40_code
def yX13_firstWord : MethodName := ⟨RX13, "firstWord", "(I)I"⟩
abbrev cX13_valueOf : ByteArray := prog_15_method_41_code
def yX13_valueOf : MethodName := ⟨RX13, "valueOf", "(III)I"⟩
abbrev cX13_readsSettings : ByteArray := prog_15_method_42_code
def yX13_readsSettings : MethodName := ⟨RX13, "readsSettings", "()I"⟩
abbrev cX13_isGiven : ByteArray := prog_15_method_43_code
def yX13_isGiven : MethodName := ⟨RX13, "isGiven", "(I)Z"⟩
abbrev cX13_configure : ByteArray := prog_15_method_44_code
def yX13_configure : MethodName := ⟨RX13, "configure", "()I"⟩
abbrev cX13_setting : ByteArray := prog_15_method_45_code
def yX13_setting : MethodName := ⟨RX13, "setting", "(I)I"⟩
abbrev cX13_tells : ByteArray := prog_15_method_46_code
def yX13_tells : MethodName := ⟨RX13, "tells", "(I)V"⟩
abbrev cX13_tellsWord : ByteArray := prog_15_method_47_code
def yX13_tellsWord : MethodName := ⟨RX13, "tellsWord", "([CI)V"⟩
abbrev cX13_tellsNumber : ByteArray := prog_15_method_48_code
def yX13_tellsNumber : MethodName := ⟨RX13, "tellsNumber", "(I)V"⟩
abbrev cX13_configChar : ByteArray := prog_15_method_49_code
def yX13_configChar : MethodName := ⟨RX13, "configChar", "(I)I"⟩
abbrev cX13_countOf : ByteArray := prog_15_method_50_code
def yX13_countOf : MethodName := ⟨RX13, "countOf", "(II)I"⟩
abbrev cX13_readsPattern : ByteArray := prog_15_method_51_code
def yX13_readsPattern : MethodName := ⟨RX13, "readsPattern", "()I"⟩
abbrev cX13_paste : ByteArray := prog_15_method_52_code
def yX13_paste : MethodName := ⟨RX13, "paste", "(III)I"⟩
abbrev cX13_lesser : ByteArray := prog_15_method_53_code
def yX13_lesser : MethodName := ⟨RX13, "lesser", "(II)I"⟩
abbrev cX13_greater : ByteArray := prog_15_method_54_code
def yX13_greater : MethodName := ⟨RX13, "greater", "(II)I"⟩
abbrev cX13_addMask : ByteArray := prog_15_method_55_code
def yX13_addMask : MethodName := ⟨RX13, "addMask", "(IIII)I"⟩
abbrev cX13_removeMask : ByteArray := prog_15_method_56_code
def yX13_removeMask : MethodName := ⟨RX13, "removeMask", "(I)I"⟩
abbrev cX13_isMasked : ByteArray := prog_15_method_57_code
def yX13_isMasked : MethodName := ⟨RX13, "isMasked", "(I)Z"⟩
abbrev cX13_size : ByteArray := prog_15_method_58_code
def yX13_size : MethodName := ⟨RX13, "size", "(I)I"⟩
abbrev cX13_skews : ByteArray := prog_15_method_59_code
def yX13_skews : MethodName := ⟨RX13, "skews", "(ZI)V"⟩
abbrev cX13_differ : ByteArray := prog_15_method_60_code
def yX13_differ : MethodName := ⟨RX13, "differ", "([ZII)I"⟩
abbrev cX13_countsCells : ByteArray := prog_15_method_61_code
def yX13_countsCells : MethodName := ⟨RX13, "countsCells", "([Z[I)V"⟩
abbrev cX13_coarseCost : ByteArray := prog_15_method_62_code
def yX13_coarseCost : MethodName := ⟨RX13, "coarseCost", "(II)I"⟩
abbrev cX13_seeksCoarse : ByteArray := prog_15_method_63_code
def yX13_seeksCoarse : MethodName := ⟨RX13, "seeksCoarse", "()V"⟩
abbrev cX13_seeksFine : ByteArray := prog_15_method_64_code
def yX13_seeksFine : MethodName := ⟨RX13, "seeksFine", "()I"⟩
abbrev cX13_registers : ByteArray := prog_15_method_65_code
def yX13_registers : MethodName := ⟨RX13, "registers", "()V"⟩
abbrev cX13_isNear : ByteArray := prog_15_method_66_code
def yX13_isNear : MethodName := ⟨RX13, "isNear", "([ZI)Z"⟩
abbrev cX13_blockOf : ByteArray := prog_15_method_67_code
def yX13_blockOf : MethodName := ⟨RX13, "blockOf", "(I)I"⟩
abbrev cX13_findsDifferences : ByteArray := prog_15_method_68_code
def yX13_findsDifferences : MethodName := ⟨RX13, "findsDifferences", "()V"⟩
abbrev cX13_isBlock : ByteArray := prog_15_method_69_code
def yX13_isBlock : MethodName := ⟨RX13, "isBlock", "(II)Z"⟩
abbrev cX13_joins : ByteArray := prog_15_method_70_code
def yX13_joins : MethodName := ⟨RX13, "joins", "(I)I"⟩
abbrev cX13_spreads : ByteArray := prog_15_method_71_code
def yX13_spreads : MethodName := ⟨RX13, "spreads", "(III)V"⟩
abbrev cX13_findsRegions : ByteArray := prog_15_method_72_code
def yX13_findsRegions : MethodName := ⟨RX13, "findsRegions", "()V"⟩
abbrev cX13_firstKey : ByteArray := prog_15_method_73_code
def yX13_firstKey : MethodName := ⟨RX13, "firstKey", "(I)I"⟩
abbrev cX13_secondKey : ByteArray := prog_15_method_74_code
def yX13_secondKey : MethodName := ⟨RX13, "secondKey", "(I)I"⟩
abbrev cX13_endKey : ByteArray := prog_15_method_75_code
def yX13_endKey : MethodName := ⟨RX13, "endKey", "(I)I"⟩
abbrev cX13_leastRegion : ByteArray := prog_15_method_76_code
def yX13_leastRegion : MethodName := ⟨RX13, "leastRegion", "(I)I"⟩
abbrev cX13_isAhead : ByteArray := prog_15_method_77_code
def yX13_isAhead : MethodName := ⟨RX13, "isAhead", "(IIZ)Z"⟩
abbrev cX13_ordersRegions : ByteArray := prog_15_method_78_code
def yX13_ordersRegions : MethodName := ⟨RX13, "ordersRegions", "()V"⟩
abbrev cX13_isOf : ByteArray := prog_15_method_79_code
def yX13_isOf : MethodName := ⟨RX13, "isOf", "(II)Z"⟩
abbrev cX13_findsParts : ByteArray := prog_15_method_80_code
def yX13_findsParts : MethodName := ⟨RX13, "findsParts", "()V"⟩
abbrev cX13_widthOf : ByteArray := prog_15_method_81_code
def yX13_widthOf : MethodName := ⟨RX13, "widthOf", "(I)I"⟩
abbrev cX13_heightOf : ByteArray := prog_15_method_82_code
def yX13_heightOf : MethodName := ⟨RX13, "heightOf", "(I)I"⟩
abbrev cX13_areAlike : ByteArray := prog_15_method_83_code
def yX13_areAlike : MethodName := ⟨RX13, "areAlike", "(II)Z"⟩
abbrev cX13_stampFor : ByteArray := prog_15_method_84_code
def yX13_stampFor : MethodName := ⟨RX13, "stampFor", "(I)I"⟩
abbrev cX13_pairs : ByteArray := prog_15_method_85_code
def yX13_pairs : MethodName := ⟨RX13, "pairs", "()V"⟩
abbrev cX13_lists : ByteArray := prog_15_method_86_code
def yX13_lists : MethodName := ⟨RX13, "lists", "(II)V"⟩
abbrev cX13_findsChanges : ByteArray := prog_15_method_87_code
def yX13_findsChanges : MethodName := ⟨RX13, "findsChanges", "()V"⟩
abbrev cX13_tellsTwo : ByteArray := prog_15_method_88_code
def yX13_tellsTwo : MethodName := ⟨RX13, "tellsTwo", "(ICI)V"⟩
abbrev cX13_reports : ByteArray := prog_15_method_89_code
def yX13_reports : MethodName := ⟨RX13, "reports", "()V"⟩
abbrev cX13_reportsOne : ByteArray := prog_15_method_90_code
def yX13_reportsOne : MethodName := ⟨RX13, "reportsOne", "(II)V"⟩
abbrev cX13_compare : ByteArray := prog_15_method_91_code
def yX13_compare : MethodName := ⟨RX13, "compare", "()I"⟩
abbrev cX13_told : ByteArray := prog_15_method_92_code
def yX13_told : MethodName := ⟨RX13, "told", "(I)I"⟩
abbrev cX13_shiftX : ByteArray := prog_15_method_93_code
def yX13_shiftX : MethodName := ⟨RX13, "shiftX", "()I"⟩
abbrev cX13_shiftY : ByteArray := prog_15_method_94_code
def yX13_shiftY : MethodName := ⟨RX13, "shiftY", "()I"⟩
abbrev cX13_skew : ByteArray := prog_15_method_95_code
def yX13_skew : MethodName := ⟨RX13, "skew", "()I"⟩
abbrev cX13_turned : ByteArray := prog_15_method_96_code
def yX13_turned : MethodName := ⟨RX13, "turned", "()Z"⟩
abbrev cX13_mismatch : ByteArray := prog_15_method_97_code
def yX13_mismatch : MethodName := ⟨RX13, "mismatch", "()I"⟩
abbrev cX13_similarity : ByteArray := prog_15_method_98_code
def yX13_similarity : MethodName := ⟨RX13, "similarity", "()I"⟩
abbrev cX13_mismatchAt : ByteArray := prog_15_method_99_code
def yX13_mismatchAt : MethodName := ⟨RX13, "mismatchAt", "(II)I"⟩
abbrev cX13_blockDifference : ByteArray := prog_15_method_100_code
def yX13_blockDifference : MethodName := ⟨RX13, "blockDifference", "(II)I"⟩
abbrev cX13_regions : ByteArray := prog_15_method_101_code
def yX13_regions : MethodName := ⟨RX13, "regions", "()I"⟩
abbrev cX13_regionAt : ByteArray := prog_15_method_102_code
def yX13_regionAt : MethodName := ⟨RX13, "regionAt", "(II)I"⟩
abbrev cX13_lacks : ByteArray := prog_15_method_103_code
def yX13_lacks : MethodName := ⟨RX13, "lacks", "(II)Z"⟩
abbrev cX13_regionLeft : ByteArray := prog_15_method_104_code
def yX13_regionLeft : MethodName := ⟨RX13, "regionLeft", "(I)I"⟩
abbrev cX13_regionTop : ByteArray := prog_15_method_105_code
def yX13_regionTop : MethodName := ⟨RX13, "regionTop", "(I)I"⟩
abbrev cX13_regionRight : ByteArray := prog_15_method_106_code
def yX13_regionRight : MethodName := ⟨RX13, "regionRight", "(I)I"⟩
abbrev cX13_regionBottom : ByteArray := prog_15_method_107_code
def yX13_regionBottom : MethodName := ⟨RX13, "regionBottom", "(I)I"⟩
abbrev cX13_missingPixels : ByteArray := prog_15_method_108_code
def yX13_missingPixels : MethodName := ⟨RX13, "missingPixels", "(I)I"⟩
abbrev cX13_addedPixels : ByteArray := prog_15_method_109_code
def yX13_addedPixels : MethodName := ⟨RX13, "addedPixels", "(I)I"⟩
abbrev cX13_changes : ByteArray := prog_15_method_110_code
def yX13_changes : MethodName := ⟨RX13, "changes", "()I"⟩
abbrev cX13_changeKind : ByteArray := prog_15_method_111_code
def yX13_changeKind : MethodName := ⟨RX13, "changeKind", "(I)I"⟩
abbrev cX13_changeRegion : ByteArray := prog_15_method_112_code
def yX13_changeRegion : MethodName := ⟨RX13, "changeRegion", "(I)I"⟩
abbrev cX13_changeTarget : ByteArray := prog_15_method_113_code
def yX13_changeTarget : MethodName := ⟨RX13, "changeTarget", "(I)I"⟩
abbrev cX13_moveX : ByteArray := prog_15_method_114_code
def yX13_moveX : MethodName := ⟨RX13, "moveX", "(I)I"⟩
abbrev cX13_moveY : ByteArray := prog_15_method_115_code
def yX13_moveY : MethodName := ⟨RX13, "moveY", "(I)I"⟩
abbrev cX13_changePixels : ByteArray := prog_15_method_116_code
def yX13_changePixels : MethodName := ⟨RX13, "changePixels", "(I)I"⟩
abbrev cX13_changeLine : ByteArray := prog_15_method_117_code
def yX13_changeLine : MethodName := ⟨RX13, "changeLine", "(I)I"⟩
abbrev cX13_reportChar : ByteArray := prog_15_method_118_code
def yX13_reportChar : MethodName := ⟨RX13, "reportChar", "(I)I"⟩
abbrev cX13_learn : ByteArray := prog_15_method_119_code
def yX13_learn : MethodName := ⟨RX13, "learn", "(I)I"⟩
abbrev cX13_stampOf : ByteArray := prog_15_method_120_code
def yX13_stampOf : MethodName := ⟨RX13, "stampOf", "(I)I"⟩
abbrev cX13_forgetStamp : ByteArray := prog_15_method_121_code
def yX13_forgetStamp : MethodName := ⟨RX13, "forgetStamp", "(I)I"⟩
abbrev cX13_accept : ByteArray := prog_15_method_122_code
def yX13_accept : MethodName := ⟨RX13, "accept", "(I)I"⟩
abbrev cX13_leastNoise : ByteArray := prog_15_method_123_code
def yX13_leastNoise : MethodName := ⟨RX13, "leastNoise", "(I)I"⟩
def RJx29ce0 : String := "java/lang/Enum"
def TJx29ce0 : u_T := fun k => match k with
  | _ => ("", "", "", false)
def tyJx29ce0 : Nat → FieldType := fun k => match k with
  | _ => .int
abbrev wsJx29ce00 : List Cond := u_ws RJx29ce0 TJx29ce0 0
theorem nmJx29ce0 : ∀ a, a < 0 → ∀ b, b < 0 → a ≠ b → (TJx29ce0 a).2.1 ≠ (TJx29ce0 b).2.1 := by decide +kernel
theorem tyJx29ce0_ok : ∀ k, k < 0 → parseFieldDescriptor (TJx29ce0 k).2.2.1 = some (tyJx29ce0 k) := by decide +kernel
def RJ13 : String := "java/lang/Long"
def TJ13 : u_T := fun k => match k with
  | _ => ("", "", "", false)
def tyJ13 : Nat → FieldType := fun k => match k with
  | _ => .int
abbrev wsJ130 : List Cond := u_ws RJ13 TJ13 0
theorem nmJ13 : ∀ a, a < 0 → ∀ b, b < 0 → a ≠ b → (TJ13 a).2.1 ≠ (TJ13 b).2.1 := by decide +kernel
theorem tyJ13_ok : ∀ k, k < 0 → parseFieldDescriptor (TJ13 k).2.2.1 = some (tyJ13 k) := by decide +kernel
abbrev cJ13_bitCount_95d88 : ByteArray := prog_21_method_50_code
def yJ13_bitCount_95d88 : MethodName := ⟨RJ13, "bitCount", "(J)I"⟩
def RJ9 : String := "java/lang/Math"
def TJ9 : u_T := fun k => match k with
  | _ => ("", "", "", false)
def tyJ9 : Nat → FieldType := fun k => match k with
  | _ => .int
abbrev wsJ90 : List Cond := u_ws RJ9 TJ9 0
theorem nmJ9 : ∀ a, a < 0 → ∀ b, b < 0 → a ≠ b → (TJ9 a).2.1 ≠ (TJ9 b).2.1 := by decide +kernel
theorem tyJ9_ok : ∀ k, k < 0 → parseFieldDescriptor (TJ9 k).2.2.1 = some (tyJ9 k) := by decide +kernel
abbrev cJ9_floorDiv_7cf53 : ByteArray := prog_22_method_47_code
def yJ9_floorDiv_7cf53 : MethodName := ⟨RJ9, "floorDiv", "(II)I"⟩
abbrev cJ9_floorMod_7cf53 : ByteArray := prog_22_method_50_code
def yJ9_floorMod_7cf53 : MethodName := ⟨RJ9, "floorMod", "(II)I"⟩
abbrev cJ9_abs_0f7a4 : ByteArray := prog_22_method_59_code
def yJ9_abs_0f7a4 : MethodName := ⟨RJ9, "abs", "(I)I"⟩
abbrev cJ9_max_7cf53 : ByteArray := prog_22_method_65_code
def yJ9_max_7cf53 : MethodName := ⟨RJ9, "max", "(II)I"⟩
abbrev cJ9_min_7cf53 : ByteArray := prog_22_method_69_code
def yJ9_min_7cf53 : MethodName := ⟨RJ9, "min", "(II)I"⟩
def RJ0 : String := "java/lang/String"
def TJ0 : u_T := fun k => match k with
  | _ => ("", "", "", false)
def tyJ0 : Nat → FieldType := fun k => match k with
  | _ => .int
abbrev wsJ00 : List Cond := u_ws RJ0 TJ0 0
theorem nmJ0 : ∀ a, a < 0 → ∀ b, b < 0 → a ≠ b → (TJ0 a).2.1 ≠ (TJ0 b).2.1 := by decide +kernel
theorem tyJ0_ok : ∀ k, k < 0 → parseFieldDescriptor (TJ0 k).2.2.1 = some (tyJ0 k) := by decide +kernel
abbrev cJ0_length_8abf5 : ByteArray := prog_24_method_54_code
def yJ0_length_8abf5 : MethodName := ⟨RJ0, "length", "()I"⟩
abbrev cJ0_isEmpty_aae02 : ByteArray := prog_24_method_55_code
def yJ0_isEmpty_aae02 : MethodName := ⟨RJ0, "isEmpty", "()Z"⟩
abbrev cJ0_charAt_5068e : ByteArray := prog_24_method_56_code
def yJ0_charAt_5068e : MethodName := ⟨RJ0, "charAt", "(I)C"⟩
abbrev cJ0_coder_7d493 : ByteArray := prog_24_method_152_code
def yJ0_coder_7d493 : MethodName := ⟨RJ0, "coder", "()B"⟩
abbrev cJ0_isLatin1_aae02 : ByteArray := prog_24_method_154_code
def yJ0_isLatin1_aae02 : MethodName := ⟨RJ0, "isLatin1", "()Z"⟩
abbrev cJ0_checkIndex_df160 : ByteArray := prog_24_method_155_code
def yJ0_checkIndex_df160 : MethodName := ⟨RJ0, "checkIndex", "(II)V"⟩
def RJ1 : String := "java/lang/StringLatin1"
def TJ1 : u_T := fun k => match k with
  | _ => ("", "", "", false)
def tyJ1 : Nat → FieldType := fun k => match k with
  | _ => .int
abbrev wsJ10 : List Cond := u_ws RJ1 TJ1 0
theorem nmJ1 : ∀ a, a < 0 → ∀ b, b < 0 → a ≠ b → (TJ1 a).2.1 ≠ (TJ1 b).2.1 := by decide +kernel
theorem tyJ1_ok : ∀ k, k < 0 → parseFieldDescriptor (TJ1 k).2.2.1 = some (tyJ1 k) := by decide +kernel
abbrev cJ1_charAt_3b067 : ByteArray := prog_25_method_2_code
def yJ1_charAt_3b067 : MethodName := ⟨RJ1, "charAt", "([BI)C"⟩
def RJ2 : String := "java/lang/StringUTF16"
def TJ2 : u_T := fun k => match k with
  | _ => ("", "", "", false)
def tyJ2 : Nat → FieldType := fun k => match k with
  | _ => .int
abbrev wsJ20 : List Cond := u_ws RJ2 TJ2 0
theorem nmJ2 : ∀ a, a < 0 → ∀ b, b < 0 → a ≠ b → (TJ2 a).2.1 ≠ (TJ2 b).2.1 := by decide +kernel
theorem tyJ2_ok : ∀ k, k < 0 → parseFieldDescriptor (TJ2 k).2.2.1 = some (tyJ2 k) := by decide +kernel
abbrev cJ2_getChar_3b067 : ByteArray := prog_26_method_5_code
def yJ2_getChar_3b067 : MethodName := ⟨RJ2, "getChar", "([BI)C"⟩
abbrev cJ2_length_9d52b : ByteArray := prog_26_method_6_code
def yJ2_length_9d52b : MethodName := ⟨RJ2, "length", "([B)I"⟩
abbrev cJ2_charAt_3b067 : ByteArray := prog_26_method_83_code
def yJ2_charAt_3b067 : MethodName := ⟨RJ2, "charAt", "([BI)C"⟩
abbrev cJ2_checkIndex_2214a : ByteArray := prog_26_method_91_code
def yJ2_checkIndex_2214a : MethodName := ⟨RJ2, "checkIndex", "(I[B)V"⟩
def RJ10 : String := "java/lang/System"
def TJ10 : u_T := fun k => match k with
  | _ => ("", "", "", false)
def tyJ10 : Nat → FieldType := fun k => match k with
  | _ => .int
abbrev wsJ100 : List Cond := u_ws RJ10 TJ10 0
theorem nmJ10 : ∀ a, a < 0 → ∀ b, b < 0 → a ≠ b → (TJ10 a).2.1 ≠ (TJ10 b).2.1 := by decide +kernel
theorem tyJ10_ok : ∀ k, k < 0 → parseFieldDescriptor (TJ10 k).2.2.1 = some (tyJ10 k) := by decide +kernel
def RJ3 : String := "jdk/internal/util/Preconditions"
def TJ3 : u_T := fun k => match k with
  | _ => ("", "", "", false)
def tyJ3 : Nat → FieldType := fun k => match k with
  | _ => .int
abbrev wsJ30 : List Cond := u_ws RJ3 TJ3 0
theorem nmJ3 : ∀ a, a < 0 → ∀ b, b < 0 → a ≠ b → (TJ3 a).2.1 ≠ (TJ3 b).2.1 := by decide +kernel
theorem tyJ3_ok : ∀ k, k < 0 → parseFieldDescriptor (TJ3 k).2.2.1 = some (tyJ3 k) := by decide +kernel
abbrev cJ3_checkIndex_8e157 : ByteArray := prog_29_method_11_code
def yJ3_checkIndex_8e157 : MethodName := ⟨RJ3, "checkIndex", "(IILjava/util/function/BiFunction;)I"⟩
def RL : String := "ScanCompareLaw"
abbrev cL_cell : ByteArray := method_2_code
def yL_cell : MethodName := ⟨RL, "cell", "([II)I"⟩
abbrev cL_row : ByteArray := method_3_code
def yL_row : MethodName := ⟨RL, "row", "(LScanCompare;II[J)I"⟩
abbrev cL_setRow : ByteArray := method_4_code
def yL_setRow : MethodName := ⟨RL, "setRow", "(LScanCompare;IIJ[J)I"⟩
abbrev cL_fill : ByteArray := method_5_code
def yL_fill : MethodName := ⟨RL, "fill", "(LScanCompare;IIIIIZ[J)I"⟩
abbrev cL_copy : ByteArray := method_6_code
def yL_copy : MethodName := ⟨RL, "copy", "(LScanCompare;IIII[J)I"⟩
abbrev cL_merge : ByteArray := method_7_code
def yL_merge : MethodName := ⟨RL, "merge", "(LScanCompare;I[J)I"⟩
abbrev cL_flip : ByteArray := method_8_code
def yL_flip : MethodName := ⟨RL, "flip", "(LScanCompare;II[J)I"⟩
abbrev cL_despeckle : ByteArray := method_9_code
def yL_despeckle : MethodName := ⟨RL, "despeckle", "(LScanCompare;II[J)I"⟩
abbrev cL_paste : ByteArray := method_10_code
def yL_paste : MethodName := ⟨RL, "paste", "(LScanCompare;III[J)I"⟩
abbrev cL_components : ByteArray := method_11_code
def yL_components : MethodName := ⟨RL, "components", "(LScanCompare;I[J)I"⟩
abbrev cL_lines : ByteArray := method_12_code
def yL_lines : MethodName := ⟨RL, "lines", "(LScanCompare;I[J)I"⟩
abbrev cL_lineTop : ByteArray := method_13_code
def yL_lineTop : MethodName := ⟨RL, "lineTop", "(LScanCompare;II[J)I"⟩
abbrev cL_lineBottom : ByteArray := method_14_code
def yL_lineBottom : MethodName := ⟨RL, "lineBottom", "(LScanCompare;II[J)I"⟩
abbrev cL_words : ByteArray := method_15_code
def yL_words : MethodName := ⟨RL, "words", "(LScanCompare;III[J)I"⟩
abbrev cL_ink : ByteArray := method_16_code
def yL_ink : MethodName := ⟨RL, "ink", "(LScanCompare;IIIII[J)I"⟩
abbrev cL_fingerprint : ByteArray := method_17_code
def yL_fingerprint : MethodName := ⟨RL, "fingerprint", "(LScanCompare;I[J)I"⟩
abbrev cL_undo : ByteArray := method_18_code
def yL_undo : MethodName := ⟨RL, "undo", "(LScanCompare;[J)I"⟩
abbrev cL_type : ByteArray := method_19_code
def yL_type : MethodName := ⟨RL, "type", "(LScanCompare;I[J)I"⟩
abbrev cL_setting : ByteArray := method_20_code
def yL_setting : MethodName := ⟨RL, "setting", "(LScanCompare;I[J)I"⟩
abbrev cL_configChar : ByteArray := method_21_code
def yL_configChar : MethodName := ⟨RL, "configChar", "(LScanCompare;I[J)I"⟩
abbrev cL_addMask : ByteArray := method_22_code
def yL_addMask : MethodName := ⟨RL, "addMask", "(LScanCompare;IIII[J)I"⟩
abbrev cL_removeMask : ByteArray := method_23_code
def yL_removeMask : MethodName := ⟨RL, "removeMask", "(LScanCompare;I[J)I"⟩
abbrev cL_shiftX : ByteArray := method_24_code
def yL_shiftX : MethodName := ⟨RL, "shiftX", "(LScanCompare;[J)I"⟩
abbrev cL_shiftY : ByteArray := method_25_code
def yL_shiftY : MethodName := ⟨RL, "shiftY", "(LScanCompare;[J)I"⟩
abbrev cL_skew : ByteArray := method_26_code
def yL_skew : MethodName := ⟨RL, "skew", "(LScanCompare;[J)I"⟩
abbrev cL_turned : ByteArray := method_27_code
def yL_turned : MethodName := ⟨RL, "turned", "(LScanCompare;[J)I"⟩
abbrev cL_mismatch : ByteArray := method_28_code
def yL_mismatch : MethodName := ⟨RL, "mismatch", "(LScanCompare;[J)I"⟩
abbrev cL_similarity : ByteArray := method_29_code
def yL_similarity : MethodName := ⟨RL, "similarity", "(LScanCompare;[J)I"⟩
abbrev cL_mismatchAt : ByteArray := method_30_code
def yL_mismatchAt : MethodName := ⟨RL, "mismatchAt", "(LScanCompare;II[J)I"⟩
abbrev cL_blockDifference : ByteArray := method_31_code
def yL_blockDifference : MethodName := ⟨RL, "blockDifference", "(LScanCompare;II[J)I"⟩
abbrev cL_regions : ByteArray := method_32_code
def yL_regions : MethodName := ⟨RL, "regions", "(LScanCompare;[J)I"⟩
abbrev cL_regionAt : ByteArray := method_33_code
def yL_regionAt : MethodName := ⟨RL, "regionAt", "(LScanCompare;II[J)I"⟩
abbrev cL_regionLeft : ByteArray := method_34_code
def yL_regionLeft : MethodName := ⟨RL, "regionLeft", "(LScanCompare;I[J)I"⟩
abbrev cL_regionTop : ByteArray := method_35_code
def yL_regionTop : MethodName := ⟨RL, "regionTop", "(LScanCompare;I[J)I"⟩
abbrev cL_regionRight : ByteArray := method_36_code
def yL_regionRight : MethodName := ⟨RL, "regionRight", "(LScanCompare;I[J)I"⟩
abbrev cL_regionBottom : ByteArray := method_37_code
def yL_regionBottom : MethodName := ⟨RL, "regionBottom", "(LScanCompare;I[J)I"⟩
abbrev cL_missingPixels : ByteArray := method_38_code
def yL_missingPixels : MethodName := ⟨RL, "missingPixels", "(LScanCompare;I[J)I"⟩
abbrev cL_addedPixels : ByteArray := method_39_code
def yL_addedPixels : MethodName := ⟨RL, "addedPixels", "(LScanCompare;I[J)I"⟩
abbrev cL_changes : ByteArray := method_40_code
def yL_changes : MethodName := ⟨RL, "changes", "(LScanCompare;[J)I"⟩
abbrev cL_changeKind : ByteArray := method_41_code
def yL_changeKind : MethodName := ⟨RL, "changeKind", "(LScanCompare;I[J)I"⟩
abbrev cL_changeRegion : ByteArray := method_42_code
def yL_changeRegion : MethodName := ⟨RL, "changeRegion", "(LScanCompare;I[J)I"⟩
abbrev cL_changeTarget : ByteArray := method_43_code
def yL_changeTarget : MethodName := ⟨RL, "changeTarget", "(LScanCompare;I[J)I"⟩
abbrev cL_moveX : ByteArray := method_44_code
def yL_moveX : MethodName := ⟨RL, "moveX", "(LScanCompare;I[J)I"⟩
abbrev cL_moveY : ByteArray := method_45_code
def yL_moveY : MethodName := ⟨RL, "moveY", "(LScanCompare;I[J)I"⟩
abbrev cL_changePixels : ByteArray := method_46_code
def yL_changePixels : MethodName := ⟨RL, "changePixels", "(LScanCompare;I[J)I"⟩
abbrev cL_changeLine : ByteArray := method_47_code
def yL_changeLine : MethodName := ⟨RL, "changeLine", "(LScanCompare;I[J)I"⟩
abbrev cL_reportChar : ByteArray := method_48_code
def yL_reportChar : MethodName := ⟨RL, "reportChar", "(LScanCompare;I[J)I"⟩
abbrev cL_learn : ByteArray := method_49_code
def yL_learn : MethodName := ⟨RL, "learn", "(LScanCompare;I[J)I"⟩
abbrev cL_stampOf : ByteArray := method_50_code
def yL_stampOf : MethodName := ⟨RL, "stampOf", "(LScanCompare;I[J)I"⟩
abbrev cL_forgetStamp : ByteArray := method_51_code
def yL_forgetStamp : MethodName := ⟨RL, "forgetStamp", "(LScanCompare;I[J)I"⟩
abbrev cL_accept : ByteArray := method_52_code
def yL_accept : MethodName := ⟨RL, "accept", "(LScanCompare;I[J)I"⟩
abbrev cL_leastNoise : ByteArray := method_53_code
def yL_leastNoise : MethodName := ⟨RL, "leastNoise", "(LScanCompare;I[J)I"⟩
abbrev cL_law : ByteArray := code
def yL_law : MethodName := ⟨RL, "law", "([I)Z"⟩
abbrev vwCl : List vw_C := [(RX0, TX0, 6), (RX1, TX1, 20), (RX2, TX2, 6), (RX3, TX3, 4), (RX4, TX4, 4), (RX5, TX5, 11), (RX6, TX6, 3), (RX7, TX7, 9), (RX8, TX8, 14), (RX10, TX10, 2), (RX11, TX11, 2), (RX12, TX12, 14), (RX13, TX13, 82)]
/-! ===== the tables of the abstract run, by program (wip/whole/gen01.py) out of the Statement's tables ===== -/
/-- a method: name, code, locals, what it returns, its handlers, its class (by number), the frames and words that its calls need, whether it is static -/
abbrev xMd : Type := MethodName × ByteArray × Nat × Option FieldType × List (Nat × Nat × Nat × Nat) × Nat × Nat × Nat × Bool
def mJ9_min_7cf53 : xMd := (yJ9_min_7cf53, cJ9_min_7cf53, 2, some .int, [], 15, 0, 0, true)
def mJ9_max_7cf53 : xMd := (yJ9_max_7cf53, cJ9_max_7cf53, 2, some .int, [], 15, 0, 0, true)
def mX4_below : xMd := (yX4_below, cX4_below, 1, some .long, [], 4, 0, 0, true)
def mX4_init : xMd := (yX4_init, cX4_init, 3, none, [], 4, 1, 20, false)
def mX3_init : xMd := (yX3_init, cX3_init, 4, none, [], 3, 2, 42, false)
def mX0_init : xMd := (yX0_init, cX0_init, 3, none, [], 0, 1, 20, false)
def mX11_init : xMd := (yX11_init, cX11_init, 1, none, [], 10, 1, 20, false)
def mX2_init : xMd := (yX2_init, cX2_init, 2, none, [], 2, 1, 20, false)
def mX5_init : xMd := (yX5_init, cX5_init, 2, none, [], 5, 1, 20, false)
def mX10_init : xMd := (yX10_init, cX10_init, 2, none, [], 9, 2, 41, false)
def mX8_init : xMd := (yX8_init, cX8_init, 3, none, [], 8, 2, 42, false)
def mX1_init : xMd := (yX1_init, cX1_init, 3, none, [], 1, 3, 64, false)
def mX6_init : xMd := (yX6_init, cX6_init, 1, none, [], 6, 1, 20, false)
def mX12_init : xMd := (yX12_init, cX12_init, 4, none, [], 11, 4, 86, false)
def mX11_clear : xMd := (yX11_clear, cX11_clear, 2, some .int, [], 10, 0, 0, false)
def mX12_clearText : xMd := (yX12_clearText, cX12_clearText, 1, some .int, [], 11, 1, 21, false)
def mX11_length : xMd := (yX11_length, cX11_length, 1, some .int, [], 10, 0, 0, false)
def mX11_codeAt : xMd := (yX11_codeAt, cX11_codeAt, 2, some .int, [], 10, 0, 0, false)
def mX11_isLetter : xMd := (yX11_isLetter, cX11_isLetter, 1, some .boolean, [], 10, 0, 0, true)
def mX11_endOfLetters : xMd := (yX11_endOfLetters, cX11_endOfLetters, 3, some .int, [], 10, 1, 21, false)
def mJ0_coder_7d493 : xMd := (yJ0_coder_7d493, cJ0_coder_7d493, 1, some .byte, [], 17, 0, 0, false)
def mJ0_length_8abf5 : xMd := (yJ0_length_8abf5, cJ0_length_8abf5, 1, some .int, [], 17, 1, 20, false)
def mJ0_isLatin1_aae02 : xMd := (yJ0_isLatin1_aae02, cJ0_isLatin1_aae02, 1, some .boolean, [], 17, 0, 0, false)
def mJ3_checkIndex_8e157 : xMd := (yJ3_checkIndex_8e157, cJ3_checkIndex_8e157, 3, some .int, [], 19, 0, 0, true)
def mJ0_checkIndex_df160 : xMd := (yJ0_checkIndex_df160, cJ0_checkIndex_df160, 2, none, [], 17, 1, 22, true)
def mJ1_charAt_3b067 : xMd := (yJ1_charAt_3b067, cJ1_charAt_3b067, 2, some .char, [], 18, 2, 43, true)
def mJ0_charAt_5068e : xMd := (yJ0_charAt_5068e, cJ0_charAt_5068e, 2, some .char, [], 17, 3, 64, false)
def mX11_matches : xMd := (yX11_matches, cX11_matches, 5, some .boolean, [], 10, 4, 85, false)
def mX2_settingNamed : xMd := (yX2_settingNamed, cX2_settingNamed, 7, some (.object "ScanCompare$Setting"), [], 2, 5, 109, true)
def mX11_isDigit : xMd := (yX11_isDigit, cX11_isDigit, 1, some .boolean, [], 10, 0, 0, true)
def mX11_endOfLettersAndDigits : xMd := (yX11_endOfLettersAndDigits, cX11_endOfLettersAndDigits, 3, some .int, [], 10, 1, 21, false)
def mJ0_isEmpty_aae02 : xMd := (yJ0_isEmpty_aae02, cJ0_isEmpty_aae02, 1, some .boolean, [], 17, 0, 0, false)
def mX9_hasWords : xMd := (yX9_hasWords, cX9_hasWords, 1, some .boolean, [], 13, 1, 20, false)
def mX11_endOfDigits : xMd := (yX11_endOfDigits, cX11_endOfDigits, 3, some .int, [], 10, 1, 21, false)
def mX11_numberOf : xMd := (yX11_numberOf, cX11_numberOf, 5, some .int, [], 10, 1, 21, false)
def mX9_valueIn : xMd := (yX9_valueIn, cX9_valueIn, 5, some .int, [], 13, 5, 109, false)
def mX2_note : xMd := (yX2_note, cX2_note, 4, none, [], 2, 0, 0, false)
def mX2_read : xMd := (yX2_read, cX2_read, 9, some .int, [], 2, 6, 135, false)
def mX2_applyRead : xMd := (yX2_applyRead, cX2_applyRead, 1, none, [], 2, 1, 26, false)
def mX12_configure : xMd := (yX12_configure, cX12_configure, 2, some .int, [], 11, 7, 163, false)
def mX4_clipped : xMd := (yX4_clipped, cX4_clipped, 3, some .int, [], 4, 0, 0, true)
def mX4_span : xMd := (yX4_span, cX4_span, 4, some .long, [], 4, 1, 22, false)
def mX4_rowAt : xMd := (yX4_rowAt, cX4_rowAt, 2, some .long, [], 4, 0, 0, false)
def mX4_putRow : xMd := (yX4_putRow, cX4_putRow, 4, none, [], 4, 0, 0, false)
def mX4_paint : xMd := (yX4_paint, cX4_paint, 12, none, [], 4, 2, 45, false)
def mX2_valueOf : xMd := (yX2_valueOf, cX2_valueOf, 3, some .int, [], 2, 0, 0, false)
def mX4_takeFrom : xMd := (yX4_takeFrom, cX4_takeFrom, 3, none, [], 4, 1, 23, false)
def mX0_begin : xMd := (yX0_begin, cX0_begin, 3, none, [], 0, 1, 21, false)
def mX0_blobAt : xMd := (yX0_blobAt, cX0_blobAt, 2, some .long, [], 0, 0, 0, false)
def mX0_widened : xMd := (yX0_widened, cX0_widened, 9, some .long, [], 0, 0, 0, true)
def mX0_spread : xMd := (yX0_spread, cX0_spread, 6, some .boolean, [], 0, 1, 28, false)
def mX0_grow : xMd := (yX0_grow, cX0_grow, 4, none, [], 0, 2, 53, false)
def mX0_close : xMd := (yX0_close, cX0_close, 2, none, [], 0, 0, 0, false)
def mX0_findNext : xMd := (yX0_findNext, cX0_findNext, 2, some .boolean, [], 0, 3, 76, false)
def mJ13_bitCount_95d88 : xMd := (yJ13_bitCount_95d88, cJ13_bitCount_95d88, 2, some .int, [], 16, 0, 0, true)
def mX0_pixels : xMd := (yX0_pixels, cX0_pixels, 3, some .int, [], 0, 1, 21, false)
def mX0_erase : xMd := (yX0_erase, cX0_erase, 3, none, [], 0, 1, 23, false)
def mX0_strip : xMd := (yX0_strip, cX0_strip, 5, some .int, [], 0, 4, 97, false)
def mX1_clean : xMd := (yX1_clean, cX1_clean, 6, none, [], 1, 5, 121, false)
def mX8_cellColumns : xMd := (yX8_cellColumns, cX8_cellColumns, 1, some .int, [], 8, 0, 0, false)
def mX8_cellRows : xMd := (yX8_cellRows, cX8_cellRows, 1, some .int, [], 8, 0, 0, false)
def mX4_inkWithin : xMd := (yX4_inkWithin, cX4_inkWithin, 12, some .int, [], 4, 2, 45, false)
def mX8_countCells : xMd := (yX8_countCells, cX8_countCells, 7, none, [], 8, 3, 76, false)
def mX4_mirrored : xMd := (yX4_mirrored, cX4_mirrored, 6, some .long, [], 4, 0, 0, false)
def mX4_drawFlipped : xMd := (yX4_drawFlipped, cX4_drawFlipped, 7, none, [], 4, 1, 25, false)
def mJ9_floorDiv_7cf53 : xMd := (yJ9_floorDiv_7cf53, cJ9_floorDiv_7cf53, 3, some .int, [], 15, 0, 0, true)
def mX4_moved : xMd := (yX4_moved, cX4_moved, 3, some .long, [], 4, 0, 0, true)
def mX8_look : xMd := (yX8_look, cX8_look, 5, none, [], 8, 2, 51, false)
def mX8_countAt : xMd := (yX8_countAt, cX8_countAt, 2, some .int, [], 8, 0, 0, true)
def mJ9_abs_0f7a4 : xMd := (yJ9_abs_0f7a4, cJ9_abs_0f7a4, 1, some .int, [], 15, 0, 0, true)
def mX8_coarseCost : xMd := (yX8_coarseCost, cX8_coarseCost, 10, some .int, [], 8, 1, 21, false)
def mX8_offer : xMd := (yX8_offer, cX8_offer, 4, none, [], 8, 1, 20, false)
def mX8_findCoarse : xMd := (yX8_findCoarse, cX8_findCoarse, 4, none, [], 8, 2, 50, false)
def mX8_costOf : xMd := (yX8_costOf, cX8_costOf, 10, some .int, [], 8, 1, 22, false)
def mX8_findFine : xMd := (yX8_findFine, cX8_findFine, 11, none, [], 8, 2, 51, false)
def mX8_search : xMd := (yX8_search, cX8_search, 9, none, [], 8, 4, 102, false)
def mX4_drawMoved : xMd := (yX4_drawMoved, cX4_drawMoved, 7, none, [], 4, 1, 23, false)
def mX4_inkAround : xMd := (yX4_inkAround, cX4_inkAround, 6, some .long, [], 4, 1, 21, false)
def mX4_drawUnmatched : xMd := (yX4_drawUnmatched, cX4_drawUnmatched, 5, none, [], 4, 2, 46, false)
def mX4_keepOnly : xMd := (yX4_keepOnly, cX4_keepOnly, 3, none, [], 4, 1, 23, false)
def mX1_blockCount : xMd := (yX1_blockCount, cX1_blockCount, 1, some .int, [], 1, 1, 21, false)
def mX1_measureBlocks : xMd := (yX1_measureBlocks, cX1_measureBlocks, 5, none, [], 1, 3, 76, false)
def mX1_join : xMd := (yX1_join, cX1_join, 6, some .int, [], 1, 2, 41, false)
def mX1_mark : xMd := (yX1_mark, cX1_mark, 9, none, [], 1, 3, 66, false)
def mX1_group : xMd := (yX1_group, cX1_group, 6, some .int, [], 1, 4, 94, false)
def mX7_init : xMd := (yX7_init, cX7_init, 1, none, [], 7, 2, 41, false)
def mX1_find : xMd := (yX1_find, cX1_find, 2, some (.object "ScanCompare$Region"), [], 1, 3, 61, false)
def mX5_begin : xMd := (yX5_begin, cX5_begin, 2, none, [], 5, 0, 0, false)
def mX1_spanOf : xMd := (yX1_spanOf, cX1_spanOf, 7, some .long, [], 1, 1, 22, false)
def mX5_takeRow : xMd := (yX5_takeRow, cX5_takeRow, 4, none, [], 5, 0, 0, false)
def mX1_collect : xMd := (yX1_collect, cX1_collect, 8, none, [], 1, 2, 48, false)
def mX5_lowestBit : xMd := (yX5_lowestBit, cX5_lowestBit, 3, some .int, [], 5, 0, 0, true)
def mX5_bitsUpToHighest : xMd := (yX5_bitsUpToHighest, cX5_bitsUpToHighest, 3, some .int, [], 5, 0, 0, true)
def mX5_shapeRow : xMd := (yX5_shapeRow, cX5_shapeRow, 2, some .long, [], 5, 0, 0, false)
def mX5_settle : xMd := (yX5_settle, cX5_settle, 5, none, [], 5, 1, 22, false)
def mX7_settle : xMd := (yX7_settle, cX7_settle, 3, none, [], 7, 2, 46, false)
def mX1_formRegions : xMd := (yX1_formRegions, cX1_formRegions, 3, none, [], 1, 4, 82, false)
def mX7_start : xMd := (yX7_start, cX7_start, 2, some .int, [], 7, 0, 0, false)
def mX1_sortByKey : xMd := (yX1_sortByKey, cX1_sortByKey, 4, none, [], 1, 0, 0, false)
def mX7_end : xMd := (yX7_end, cX7_end, 2, some .int, [], 7, 0, 0, false)
def mX7_takeNumber : xMd := (yX7_takeNumber, cX7_takeNumber, 2, none, [], 7, 0, 0, false)
def mX1_sortRegions : xMd := (yX1_sortRegions, cX1_sortRegions, 6, none, [], 1, 1, 23, false)
def mX5_hasShapeOf : xMd := (yX5_hasShapeOf, cX5_hasShapeOf, 3, some .boolean, [], 5, 1, 21, false)
def mX1_pair : xMd := (yX1_pair, cX1_pair, 4, none, [], 1, 2, 43, false)
def mX1_pairParts : xMd := (yX1_pairParts, cX1_pairParts, 4, none, [], 1, 3, 66, false)
def mX10_numberOf : xMd := (yX10_numberOf, cX10_numberOf, 3, some .int, [], 9, 2, 43, false)
def mX4_startsLine : xMd := (yX4_startsLine, cX4_startsLine, 2, some .boolean, [], 4, 1, 21, false)
def mX4_linesUpTo : xMd := (yX4_linesUpTo, cX4_linesUpTo, 4, some .int, [], 4, 2, 42, false)
def mX1_list : xMd := (yX1_list, cX1_list, 5, none, [], 1, 3, 65, false)
def mX1_listChanges : xMd := (yX1_listChanges, cX1_listChanges, 6, none, [], 1, 4, 89, false)
def mX1_examine : xMd := (yX1_examine, cX1_examine, 5, none, [], 1, 5, 130, false)
def mX12_compare : xMd := (yX12_compare, cX12_compare, 3, some .int, [], 11, 6, 154, false)
def mL_cell : xMd := (yL_cell, cL_cell, 2, some .int, [], 14, 0, 0, true)
def mX12_pageAt : xMd := (yX12_pageAt, cX12_pageAt, 2, some (.object "ScanCompare$Image"), [], 11, 6, 90, false)
def mX12_requireRow : xMd := (yX12_requireRow, cX12_requireRow, 2, none, [], 11, 6, 90, false)
def mX12_row : xMd := (yX12_row, cX12_row, 4, some .long, [], 11, 7, 111, false)
def mL_row : xMd := (yL_row, cL_row, 5, some .int, [(0, 9, 12, 13)], 14, 8, 134, true)
def mJ9_floorMod_7cf53 : xMd := (yJ9_floorMod_7cf53, cJ9_floorMod_7cf53, 3, some .int, [], 15, 0, 0, true)
def mX3_slotAt : xMd := (yX3_slotAt, cX3_slotAt, 2, some .int, [], 3, 1, 22, false)
def mX3_keep : xMd := (yX3_keep, cX3_keep, 4, some (.object "ScanCompare$Image"), [], 3, 2, 45, false)
def mX4_differences : xMd := (yX4_differences, cX4_differences, 4, some .int, [], 4, 1, 21, false)
def mX12_setRow : xMd := (yX12_setRow, cX12_setRow, 7, some .int, [], 11, 7, 111, false)
def mL_setRow : xMd := (yL_setRow, cL_setRow, 7, some .int, [(0, 12, 15, 13)], 14, 8, 137, true)
def mX12_requireSize : xMd := (yX12_requireSize, cX12_requireSize, 2, none, [], 11, 6, 90, true)
def mX12_fill : xMd := (yX12_fill, cX12_fill, 9, some .int, [], 11, 7, 111, false)
def mL_fill : xMd := (yL_fill, cL_fill, 9, some .int, [(0, 18, 21, 13), (0, 18, 25, 23)], 14, 8, 139, true)
def mX12_copy : xMd := (yX12_copy, cX12_copy, 8, some .int, [], 11, 7, 111, false)
def mL_copy : xMd := (yL_copy, cL_copy, 7, some .int, [(0, 14, 17, 13)], 14, 8, 138, true)
def mX4_drawMajority : xMd := (yX4_drawMajority, cX4_drawMajority, 11, none, [], 4, 1, 23, false)
def mX12_merge : xMd := (yX12_merge, cX12_merge, 4, some .int, [], 11, 7, 111, false)
def mL_merge : xMd := (yL_merge, cL_merge, 4, some .int, [(0, 9, 12, 13)], 14, 8, 134, true)
def mX12_flip : xMd := (yX12_flip, cX12_flip, 5, some .int, [], 11, 7, 111, false)
def mL_flip : xMd := (yL_flip, cL_flip, 5, some .int, [(0, 10, 13, 13), (0, 10, 17, 23)], 14, 8, 135, true)
def mX12_despeckle : xMd := (yX12_despeckle, cX12_despeckle, 4, some .int, [], 11, 7, 121, false)
def mL_despeckle : xMd := (yL_despeckle, cL_despeckle, 5, some .int, [(0, 10, 13, 13), (0, 10, 17, 23)], 14, 8, 144, true)
def mX11_isCount : xMd := (yX11_isCount, cX11_isCount, 1, some .boolean, [], 10, 0, 0, true)
def mX11_errorAtMark : xMd := (yX11_errorAtMark, cX11_errorAtMark, 3, some .int, [], 10, 0, 0, false)
def mX11_patternError : xMd := (yX11_patternError, cX11_patternError, 6, some .int, [], 10, 2, 45, false)
def mX11_drawPattern : xMd := (yX11_drawPattern, cX11_drawPattern, 13, none, [], 10, 3, 76, false)
def mX12_paste : xMd := (yX12_paste, cX12_paste, 7, some .int, [], 11, 7, 111, false)
def mL_paste : xMd := (yL_paste, cL_paste, 6, some .int, [(0, 12, 15, 13)], 14, 8, 137, true)
def mX0_countIn : xMd := (yX0_countIn, cX0_countIn, 3, some .int, [], 0, 4, 97, false)
def mX12_components : xMd := (yX12_components, cX12_components, 2, some .int, [], 11, 7, 119, false)
def mL_components : xMd := (yL_components, cL_components, 4, some .int, [(0, 9, 12, 13)], 14, 8, 140, true)
def mX4_lineCount : xMd := (yX4_lineCount, cX4_lineCount, 1, some .int, [], 4, 3, 65, false)
def mX12_lines : xMd := (yX12_lines, cX12_lines, 2, some .int, [], 11, 7, 111, false)
def mL_lines : xMd := (yL_lines, cL_lines, 4, some .int, [(0, 9, 12, 13)], 14, 8, 132, true)
def mX4_lineStart : xMd := (yX4_lineStart, cX4_lineStart, 4, some .int, [], 4, 2, 42, false)
def mX12_topOfLine : xMd := (yX12_topOfLine, cX12_topOfLine, 3, some .int, [], 11, 6, 90, true)
def mX12_lineTop : xMd := (yX12_lineTop, cX12_lineTop, 3, some .int, [], 11, 7, 112, false)
def mL_lineTop : xMd := (yL_lineTop, cL_lineTop, 5, some .int, [(0, 10, 13, 13)], 14, 8, 134, true)
def mX4_lineEnd : xMd := (yX4_lineEnd, cX4_lineEnd, 3, some .int, [], 4, 1, 21, false)
def mX12_lineBottom : xMd := (yX12_lineBottom, cX12_lineBottom, 4, some .int, [], 11, 7, 112, false)
def mL_lineBottom : xMd := (yL_lineBottom, cL_lineBottom, 5, some .int, [(0, 10, 13, 13)], 14, 8, 135, true)
def mX4_wordCount : xMd := (yX4_wordCount, cX4_wordCount, 9, some .int, [], 4, 2, 43, false)
def mX12_words : xMd := (yX12_words, cX12_words, 6, some .int, [], 11, 7, 112, false)
def mL_words : xMd := (yL_words, cL_words, 6, some .int, [(0, 12, 15, 13), (0, 12, 19, 23)], 14, 8, 137, true)
def mX12_ink : xMd := (yX12_ink, cX12_ink, 7, some .int, [], 11, 7, 111, false)
def mL_ink : xMd := (yL_ink, cL_ink, 8, some .int, [(0, 16, 19, 13), (0, 16, 23, 23)], 14, 8, 137, true)
def mX12_fingerprint : xMd := (yX12_fingerprint, cX12_fingerprint, 6, some .long, [], 11, 7, 111, false)
def mL_fingerprint : xMd := (yL_fingerprint, cL_fingerprint, 4, some .int, [(0, 8, 11, 13)], 14, 8, 136, true)
def mX3_isBare : xMd := (yX3_isBare, cX3_isBare, 1, some .boolean, [], 3, 0, 0, false)
def mX3_restoreTo : xMd := (yX3_restoreTo, cX3_restoreTo, 4, some .int, [], 3, 2, 45, false)
def mX12_undo : xMd := (yX12_undo, cX12_undo, 1, some .int, [], 11, 6, 90, false)
def mL_undo : xMd := (yL_undo, cL_undo, 3, some .int, [(0, 8, 11, 71)], 14, 7, 110, true)
def mX11_isFull : xMd := (yX11_isFull, cX11_isFull, 1, some .boolean, [], 10, 0, 0, false)
def mX11_add : xMd := (yX11_add, cX11_add, 2, some .int, [], 10, 1, 20, false)
def mX12_type : xMd := (yX12_type, cX12_type, 2, some .int, [], 11, 6, 90, false)
def mL_type : xMd := (yL_type, cL_type, 4, some .int, [(0, 9, 12, 23), (0, 9, 15, 71)], 14, 7, 111, true)
def mX12_setting : xMd := (yX12_setting, cX12_setting, 2, some .int, [], 11, 6, 90, false)
def mL_setting : xMd := (yL_setting, cL_setting, 4, some .int, [(0, 9, 12, 13)], 14, 7, 111, true)
def mX6_seek : xMd := (yX6_seek, cX6_seek, 2, none, [], 6, 0, 0, false)
def mX6_put : xMd := (yX6_put, cX6_put, 2, none, [], 6, 0, 0, false)
def mX6_write : xMd := (yX6_write, cX6_write, 3, none, [], 6, 4, 85, false)
def mX6_writeNumber : xMd := (yX6_writeNumber, cX6_writeNumber, 4, none, [], 6, 1, 21, false)
def mX2_describeOne : xMd := (yX2_describeOne, cX2_describeOne, 4, none, [], 2, 5, 107, false)
def mX2_describe : xMd := (yX2_describe, cX2_describe, 4, none, [], 2, 6, 130, false)
def mX6_found : xMd := (yX6_found, cX6_found, 1, some .int, [], 6, 0, 0, false)
def mX12_configChar : xMd := (yX12_configChar, cX12_configChar, 2, some .int, [], 11, 7, 153, false)
def mL_configChar : xMd := (yL_configChar, cL_configChar, 4, some .int, [(0, 9, 12, 13)], 14, 8, 174, true)
def mX12_isWithin : xMd := (yX12_isWithin, cX12_isWithin, 3, some .boolean, [], 11, 0, 0, true)
def mX12_addMask : xMd := (yX12_addMask, cX12_addMask, 6, some .int, [], 11, 6, 90, false)
def mL_addMask : xMd := (yL_addMask, cL_addMask, 7, some .int, [(0, 14, 17, 23), (0, 14, 21, 71)], 14, 7, 115, true)
def mX12_removeMask : xMd := (yX12_removeMask, cX12_removeMask, 3, some .int, [], 11, 6, 90, false)
def mL_removeMask : xMd := (yL_removeMask, cL_removeMask, 4, some .int, [(0, 9, 12, 13)], 14, 7, 112, true)
def mX12_requireComparison : xMd := (yX12_requireComparison, cX12_requireComparison, 1, none, [], 11, 6, 90, false)
def mX12_registration : xMd := (yX12_registration, cX12_registration, 1, some (.object "ScanCompare$Registration"), [], 11, 7, 110, false)
def mX12_shiftX : xMd := (yX12_shiftX, cX12_shiftX, 1, some .int, [], 11, 8, 130, false)
def mL_shiftX : xMd := (yL_shiftX, cL_shiftX, 3, some .int, [(0, 8, 11, 71)], 14, 9, 150, true)
def mX12_shiftY : xMd := (yX12_shiftY, cX12_shiftY, 1, some .int, [], 11, 8, 130, false)
def mL_shiftY : xMd := (yL_shiftY, cL_shiftY, 3, some .int, [(0, 8, 11, 71)], 14, 9, 150, true)
def mX12_skew : xMd := (yX12_skew, cX12_skew, 1, some .int, [], 11, 8, 130, false)
def mL_skew : xMd := (yL_skew, cL_skew, 3, some .int, [(0, 8, 11, 71)], 14, 9, 150, true)
def mX12_turned : xMd := (yX12_turned, cX12_turned, 1, some .boolean, [], 11, 8, 130, false)
def mL_turned : xMd := (yL_turned, cL_turned, 3, some .int, [(0, 15, 18, 71)], 14, 9, 150, true)
def mX12_mismatch : xMd := (yX12_mismatch, cX12_mismatch, 1, some .int, [], 11, 8, 130, false)
def mL_mismatch : xMd := (yL_mismatch, cL_mismatch, 3, some .int, [(0, 8, 11, 71)], 14, 9, 150, true)
def mX12_similarity : xMd := (yX12_similarity, cX12_similarity, 3, some .int, [], 11, 8, 130, false)
def mL_similarity : xMd := (yL_similarity, cL_similarity, 3, some .int, [(0, 8, 11, 71)], 14, 9, 152, true)
def mX12_mismatchAt : xMd := (yX12_mismatchAt, cX12_mismatchAt, 4, some .int, [], 11, 8, 130, false)
def mL_mismatchAt : xMd := (yL_mismatchAt, cL_mismatchAt, 5, some .int, [(0, 10, 13, 71), (0, 10, 17, 23)], 14, 9, 153, true)
def mX1_differenceOf : xMd := (yX1_differenceOf, cX1_differenceOf, 4, some .int, [], 1, 0, 0, false)
def mX12_blockDifference : xMd := (yX12_blockDifference, cX12_blockDifference, 3, some .int, [], 11, 7, 110, false)
def mL_blockDifference : xMd := (yL_blockDifference, cL_blockDifference, 5, some .int, [(0, 10, 13, 71), (0, 10, 17, 13)], 14, 8, 132, true)
def mX12_regions : xMd := (yX12_regions, cX12_regions, 1, some .int, [], 11, 7, 110, false)
def mL_regions : xMd := (yL_regions, cL_regions, 3, some .int, [(0, 8, 11, 71)], 14, 8, 130, true)
def mX1_regionOfPixel : xMd := (yX1_regionOfPixel, cX1_regionOfPixel, 6, some .int, [], 1, 4, 82, false)
def mX12_regionAt : xMd := (yX12_regionAt, cX12_regionAt, 3, some .int, [], 11, 7, 110, false)
def mL_regionAt : xMd := (yL_regionAt, cL_regionAt, 5, some .int, [(0, 10, 13, 71), (0, 10, 17, 13)], 14, 8, 132, true)
def mX1_regionNumbered : xMd := (yX1_regionNumbered, cX1_regionNumbered, 2, some (.object "ScanCompare$Region"), [], 1, 0, 0, false)
def mX12_regionOf : xMd := (yX12_regionOf, cX12_regionOf, 3, some (.object "ScanCompare$Region"), [], 11, 7, 110, false)
def mX12_regionLeft : xMd := (yX12_regionLeft, cX12_regionLeft, 2, some .int, [], 11, 8, 132, false)
def mL_regionLeft : xMd := (yL_regionLeft, cL_regionLeft, 4, some .int, [(0, 9, 12, 71), (0, 9, 15, 13)], 14, 9, 153, true)
def mX12_regionTop : xMd := (yX12_regionTop, cX12_regionTop, 2, some .int, [], 11, 8, 132, false)
def mL_regionTop : xMd := (yL_regionTop, cL_regionTop, 4, some .int, [(0, 9, 12, 71), (0, 9, 15, 13)], 14, 9, 153, true)
def mX12_regionRight : xMd := (yX12_regionRight, cX12_regionRight, 2, some .int, [], 11, 8, 132, false)
def mL_regionRight : xMd := (yL_regionRight, cL_regionRight, 4, some .int, [(0, 9, 12, 71), (0, 9, 15, 13)], 14, 9, 153, true)
def mX12_regionBottom : xMd := (yX12_regionBottom, cX12_regionBottom, 2, some .int, [], 11, 8, 132, false)
def mL_regionBottom : xMd := (yL_regionBottom, cL_regionBottom, 4, some .int, [(0, 9, 12, 71), (0, 9, 15, 13)], 14, 9, 153, true)
def mX12_missingPixels : xMd := (yX12_missingPixels, cX12_missingPixels, 2, some .int, [], 11, 8, 132, false)
def mL_missingPixels : xMd := (yL_missingPixels, cL_missingPixels, 4, some .int, [(0, 9, 12, 71), (0, 9, 15, 13)], 14, 9, 153, true)
def mX12_addedPixels : xMd := (yX12_addedPixels, cX12_addedPixels, 2, some .int, [], 11, 8, 132, false)
def mL_addedPixels : xMd := (yL_addedPixels, cL_addedPixels, 4, some .int, [(0, 9, 12, 71), (0, 9, 15, 13)], 14, 9, 153, true)
def mX12_changes : xMd := (yX12_changes, cX12_changes, 1, some .int, [], 11, 7, 110, false)
def mL_changes : xMd := (yL_changes, cL_changes, 3, some .int, [(0, 8, 11, 71)], 14, 8, 130, true)
def mX1_changeNumbered : xMd := (yX1_changeNumbered, cX1_changeNumbered, 2, some (.object "ScanCompare$Part"), [], 1, 0, 0, false)
def mX12_changeOf : xMd := (yX12_changeOf, cX12_changeOf, 3, some (.object "ScanCompare$Part"), [], 11, 7, 110, false)
def mX5_kind : xMd := (yX5_kind, cX5_kind, 1, some .int, [], 5, 0, 0, false)
def mX12_changeKind : xMd := (yX12_changeKind, cX12_changeKind, 2, some .int, [], 11, 8, 132, false)
def mL_changeKind : xMd := (yL_changeKind, cL_changeKind, 4, some .int, [(0, 9, 12, 71), (0, 9, 15, 13)], 14, 9, 153, true)
def mX12_changeRegion : xMd := (yX12_changeRegion, cX12_changeRegion, 2, some .int, [], 11, 8, 132, false)
def mL_changeRegion : xMd := (yL_changeRegion, cL_changeRegion, 4, some .int, [(0, 9, 12, 71), (0, 9, 15, 13)], 14, 9, 153, true)
def mX12_changeTarget : xMd := (yX12_changeTarget, cX12_changeTarget, 3, some .int, [], 11, 8, 132, false)
def mL_changeTarget : xMd := (yL_changeTarget, cL_changeTarget, 4, some .int, [(0, 9, 12, 71), (0, 9, 15, 13)], 14, 9, 154, true)
def mX12_moveX : xMd := (yX12_moveX, cX12_moveX, 4, some .int, [], 11, 8, 132, false)
def mL_moveX : xMd := (yL_moveX, cL_moveX, 4, some .int, [(0, 9, 12, 71), (0, 9, 15, 13)], 14, 9, 155, true)
def mX12_moveY : xMd := (yX12_moveY, cX12_moveY, 4, some .int, [], 11, 8, 132, false)
def mL_moveY : xMd := (yL_moveY, cL_moveY, 4, some .int, [(0, 9, 12, 71), (0, 9, 15, 13)], 14, 9, 155, true)
def mX12_changePixels : xMd := (yX12_changePixels, cX12_changePixels, 2, some .int, [], 11, 8, 132, false)
def mL_changePixels : xMd := (yL_changePixels, cL_changePixels, 4, some .int, [(0, 9, 12, 71), (0, 9, 15, 13)], 14, 9, 153, true)
def mX12_changeLine : xMd := (yX12_changeLine, cX12_changeLine, 2, some .int, [], 11, 8, 132, false)
def mL_changeLine : xMd := (yL_changeLine, cL_changeLine, 4, some .int, [(0, 9, 12, 71), (0, 9, 15, 13)], 14, 9, 153, true)
def mX6_writePair : xMd := (yX6_writePair, cX6_writePair, 4, none, [], 6, 5, 107, false)
def mX5_report : xMd := (yX5_report, cX5_report, 3, none, [], 5, 6, 130, false)
def mX1_report : xMd := (yX1_report, cX1_report, 3, none, [], 1, 7, 152, false)
def mX12_reportChar : xMd := (yX12_reportChar, cX12_reportChar, 2, some .int, [], 11, 8, 174, false)
def mL_reportChar : xMd := (yL_reportChar, cL_reportChar, 4, some .int, [(0, 9, 12, 71), (0, 9, 15, 13)], 14, 9, 195, true)
def mX10_isFull : xMd := (yX10_isFull, cX10_isFull, 1, some .boolean, [], 9, 0, 0, false)
def mX5_takeShape : xMd := (yX5_takeShape, cX5_takeShape, 2, none, [], 5, 1, 26, false)
def mX10_add : xMd := (yX10_add, cX10_add, 2, some .int, [], 9, 2, 47, false)
def mX12_learn : xMd := (yX12_learn, cX12_learn, 4, some .int, [], 11, 8, 132, false)
def mL_learn : xMd := (yL_learn, cL_learn, 4, some .int, [(0, 9, 12, 13), (0, 9, 15, 71)], 14, 9, 155, true)
def mX12_stampOf : xMd := (yX12_stampOf, cX12_stampOf, 2, some .int, [], 11, 8, 132, false)
def mL_stampOf : xMd := (yL_stampOf, cL_stampOf, 4, some .int, [(0, 9, 12, 71), (0, 9, 15, 13)], 14, 9, 153, true)
def mX10_drop : xMd := (yX10_drop, cX10_drop, 4, some .int, [], 9, 0, 0, false)
def mX12_forgetStamp : xMd := (yX12_forgetStamp, cX12_forgetStamp, 2, some .int, [], 11, 6, 90, false)
def mL_forgetStamp : xMd := (yL_forgetStamp, cL_forgetStamp, 4, some .int, [(0, 9, 12, 13)], 14, 7, 111, true)
def mX4_stampPart : xMd := (yX4_stampPart, cX4_stampPart, 6, none, [], 4, 1, 23, false)
def mX12_accept : xMd := (yX12_accept, cX12_accept, 5, some .int, [], 11, 8, 132, false)
def mL_accept : xMd := (yL_accept, cL_accept, 4, some .int, [(0, 9, 12, 71), (0, 9, 15, 13)], 14, 9, 156, true)
def mX1_noiseFor : xMd := (yX1_noiseFor, cX1_noiseFor, 3, some .int, [], 1, 5, 119, false)
def mX12_leastNoise : xMd := (yX12_leastNoise, cX12_leastNoise, 2, some .int, [], 11, 7, 141, false)
def mL_leastNoise : xMd := (yL_leastNoise, cL_leastNoise, 4, some .int, [(0, 9, 12, 71), (0, 9, 15, 23)], 14, 8, 162, true)
def mX13_init : xMd := (yX13_init, cX13_init, 3, none, [], 12, 1, 20, false)
def mX13_thrown : xMd := (yX13_thrown, cX13_thrown, 1, some .int, [], 12, 0, 0, false)
def mX13_in : xMd := (yX13_in, cX13_in, 6, some .boolean, [], 12, 0, 0, true)
def mX13_isPage : xMd := (yX13_isPage, cX13_isPage, 2, some .boolean, [], 12, 1, 25, false)
def mX13_fails : xMd := (yX13_fails, cX13_fails, 2, some .int, [], 12, 0, 0, false)
def mX13_rowOf : xMd := (yX13_rowOf, cX13_rowOf, 6, some .long, [], 12, 0, 0, false)
def mX13_row : xMd := (yX13_row, cX13_row, 3, some .long, [], 12, 2, 46, false)
def mX13_takes : xMd := (yX13_takes, cX13_takes, 3, none, [], 12, 0, 0, false)
def mX13_edits : xMd := (yX13_edits, cX13_edits, 4, some .int, [], 12, 0, 0, false)
def mX13_setRow : xMd := (yX13_setRow, cX13_setRow, 6, some .int, [], 12, 2, 46, false)
def mX13_isOn : xMd := (yX13_isOn, cX13_isOn, 5, some .boolean, [], 12, 1, 25, false)
def mX13_isWithin : xMd := (yX13_isWithin, cX13_isWithin, 5, some .boolean, [], 12, 1, 25, true)
def mX13_fill : xMd := (yX13_fill, cX13_fill, 9, some .int, [], 12, 2, 49, false)
def mX13_at : xMd := (yX13_at, cX13_at, 6, some .boolean, [], 12, 2, 49, false)
def mX13_copy : xMd := (yX13_copy, cX13_copy, 7, some .int, [], 12, 3, 74, false)
def mX13_merge : xMd := (yX13_merge, cX13_merge, 4, some .int, [], 12, 2, 46, false)
def mX13_flip : xMd := (yX13_flip, cX13_flip, 8, some .int, [], 12, 3, 74, false)
def mX13_looks : xMd := (yX13_looks, cX13_looks, 5, none, [], 12, 2, 49, false)
def mX13_gathers : xMd := (yX13_gathers, cX13_gathers, 7, some .int, [], 12, 3, 73, false)
def mX13_cleans : xMd := (yX13_cleans, cX13_cleans, 7, some .int, [], 12, 4, 99, false)
def mX13_despeckle : xMd := (yX13_despeckle, cX13_despeckle, 4, some .int, [], 12, 5, 125, false)
def mX13_components : xMd := (yX13_components, cX13_components, 2, some .int, [], 12, 5, 125, false)
def mX13_hasInk : xMd := (yX13_hasInk, cX13_hasInk, 6, some .boolean, [], 12, 1, 25, false)
def mX13_linesTo : xMd := (yX13_linesTo, cX13_linesTo, 6, some .int, [], 12, 2, 50, false)
def mX13_lines : xMd := (yX13_lines, cX13_lines, 2, some .int, [], 12, 3, 75, false)
def mX13_topOf : xMd := (yX13_topOf, cX13_topOf, 5, some .int, [], 12, 2, 50, false)
def mX13_lineTop : xMd := (yX13_lineTop, cX13_lineTop, 4, some .int, [], 12, 3, 74, false)
def mX13_bottomOf : xMd := (yX13_bottomOf, cX13_bottomOf, 4, some .int, [], 12, 2, 50, false)
def mX13_lineBottom : xMd := (yX13_lineBottom, cX13_lineBottom, 4, some .int, [], 12, 3, 74, false)
def mX13_words : xMd := (yX13_words, cX13_words, 11, some .int, [], 12, 3, 74, false)
def mX13_ink : xMd := (yX13_ink, cX13_ink, 8, some .int, [], 12, 2, 49, false)
def mX13_fingerprint : xMd := (yX13_fingerprint, cX13_fingerprint, 5, some .long, [], 12, 2, 46, false)
def mX13_undo : xMd := (yX13_undo, cX13_undo, 2, some .int, [], 12, 1, 21, false)
def mX13_type : xMd := (yX13_type, cX13_type, 2, some .int, [], 12, 1, 25, false)
def mX13_clearText : xMd := (yX13_clearText, cX13_clearText, 2, some .int, [], 12, 0, 0, false)
def mX13_letter : xMd := (yX13_letter, cX13_letter, 2, some .int, [], 12, 0, 0, false)
def mX13_isSmall : xMd := (yX13_isSmall, cX13_isSmall, 2, some .boolean, [], 12, 1, 25, false)
def mX13_wordOf : xMd := (yX13_wordOf, cX13_wordOf, 9, some .int, [], 12, 0, 0, false)
def mX13_isFigure : xMd := (yX13_isFigure, cX13_isFigure, 2, some .boolean, [], 12, 1, 25, false)
def mX13_firstWord : xMd := (yX13_firstWord, cX13_firstWord, 1, some .int, [], 12, 0, 0, true)
def mX13_valueOf : xMd := (yX13_valueOf, cX13_valueOf, 7, some .int, [], 12, 2, 46, false)
def mX13_readsSettings : xMd := (yX13_readsSettings, cX13_readsSettings, 6, some .int, [], 12, 3, 72, false)
def mX13_isGiven : xMd := (yX13_isGiven, cX13_isGiven, 4, some .boolean, [], 12, 0, 0, false)
def mX13_configure : xMd := (yX13_configure, cX13_configure, 3, some .int, [], 12, 4, 97, false)
def mX13_setting : xMd := (yX13_setting, cX13_setting, 2, some .int, [], 12, 1, 25, false)
def mX13_tells : xMd := (yX13_tells, cX13_tells, 2, none, [], 12, 0, 0, false)
def mX13_tellsWord : xMd := (yX13_tellsWord, cX13_tellsWord, 5, none, [], 12, 1, 21, false)
def mX13_tellsNumber : xMd := (yX13_tellsNumber, cX13_tellsNumber, 4, none, [], 12, 1, 21, false)
def mX13_configChar : xMd := (yX13_configChar, cX13_configChar, 6, some .int, [], 12, 2, 45, false)
def mX13_countOf : xMd := (yX13_countOf, cX13_countOf, 5, some .int, [], 12, 0, 0, false)
def mX13_readsPattern : xMd := (yX13_readsPattern, cX13_readsPattern, 4, some .int, [], 12, 2, 46, false)
def mX13_paste : xMd := (yX13_paste, cX13_paste, 13, some .int, [], 12, 3, 69, false)
def mX13_addMask : xMd := (yX13_addMask, cX13_addMask, 5, some .int, [], 12, 1, 21, false)
def mX13_removeMask : xMd := (yX13_removeMask, cX13_removeMask, 3, some .int, [], 12, 1, 25, false)
def mX13_skews : xMd := (yX13_skews, cX13_skews, 10, none, [], 12, 2, 49, false)
def mX13_countsCells : xMd := (yX13_countsCells, cX13_countsCells, 4, none, [], 12, 0, 0, false)
def mX13_size : xMd := (yX13_size, cX13_size, 1, some .int, [], 12, 0, 0, true)
def mX13_coarseCost : xMd := (yX13_coarseCost, cX13_coarseCost, 7, some .int, [], 12, 1, 20, false)
def mX13_seeksCoarse : xMd := (yX13_seeksCoarse, cX13_seeksCoarse, 7, none, [], 12, 2, 46, false)
def mX13_differ : xMd := (yX13_differ, cX13_differ, 8, some .int, [], 12, 2, 49, false)
def mX13_seeksFine : xMd := (yX13_seeksFine, cX13_seeksFine, 7, some .int, [], 12, 3, 76, false)
def mX13_registers : xMd := (yX13_registers, cX13_registers, 6, none, [], 12, 4, 102, false)
def mX13_isMasked : xMd := (yX13_isMasked, cX13_isMasked, 4, some .boolean, [], 12, 2, 49, false)
def mX13_isNear : xMd := (yX13_isNear, cX13_isNear, 7, some .boolean, [], 12, 2, 49, false)
def mX13_blockOf : xMd := (yX13_blockOf, cX13_blockOf, 2, some .int, [], 12, 0, 0, false)
def mX13_findsDifferences : xMd := (yX13_findsDifferences, cX13_findsDifferences, 3, none, [], 12, 3, 75, false)
def mX13_isBlock : xMd := (yX13_isBlock, cX13_isBlock, 3, some .boolean, [], 12, 1, 25, false)
def mX13_spreads : xMd := (yX13_spreads, cX13_spreads, 9, none, [], 12, 2, 47, false)
def mX13_joins : xMd := (yX13_joins, cX13_joins, 4, some .int, [], 12, 3, 75, false)
def mX13_lesser : xMd := (yX13_lesser, cX13_lesser, 2, some .int, [], 12, 0, 0, true)
def mX13_greater : xMd := (yX13_greater, cX13_greater, 2, some .int, [], 12, 0, 0, true)
def mX13_secondKey : xMd := (yX13_secondKey, cX13_secondKey, 2, some .int, [], 12, 0, 0, false)
def mX13_firstKey : xMd := (yX13_firstKey, cX13_firstKey, 2, some .int, [], 12, 0, 0, false)
def mX13_isAhead : xMd := (yX13_isAhead, cX13_isAhead, 8, some .boolean, [], 12, 1, 21, false)
def mX13_leastRegion : xMd := (yX13_leastRegion, cX13_leastRegion, 5, some .int, [], 12, 2, 48, false)
def mX13_endKey : xMd := (yX13_endKey, cX13_endKey, 2, some .int, [], 12, 0, 0, false)
def mX13_ordersRegions : xMd := (yX13_ordersRegions, cX13_ordersRegions, 6, none, [], 12, 3, 72, false)
def mX13_findsRegions : xMd := (yX13_findsRegions, cX13_findsRegions, 3, none, [], 12, 4, 98, false)
def mX13_isOf : xMd := (yX13_isOf, cX13_isOf, 3, some .boolean, [], 12, 2, 49, false)
def mX13_findsParts : xMd := (yX13_findsParts, cX13_findsParts, 3, none, [], 12, 3, 71, false)
def mX13_widthOf : xMd := (yX13_widthOf, cX13_widthOf, 2, some .int, [], 12, 0, 0, false)
def mX13_heightOf : xMd := (yX13_heightOf, cX13_heightOf, 2, some .int, [], 12, 0, 0, false)
def mX13_areAlike : xMd := (yX13_areAlike, cX13_areAlike, 6, some .boolean, [], 12, 3, 71, false)
def mX13_pairs : xMd := (yX13_pairs, cX13_pairs, 3, none, [], 12, 4, 96, false)
def mX13_stampFor : xMd := (yX13_stampFor, cX13_stampFor, 6, some .int, [], 12, 3, 71, false)
def mX13_lists : xMd := (yX13_lists, cX13_lists, 3, none, [], 12, 4, 96, false)
def mX13_findsChanges : xMd := (yX13_findsChanges, cX13_findsChanges, 2, none, [], 12, 5, 118, false)
def mX13_tellsTwo : xMd := (yX13_tellsTwo, cX13_tellsTwo, 4, none, [], 12, 2, 44, false)
def mX13_reportsOne : xMd := (yX13_reportsOne, cX13_reportsOne, 4, none, [], 12, 4, 96, false)
def mX13_reports : xMd := (yX13_reports, cX13_reports, 2, none, [], 12, 5, 119, false)
def mX13_compare : xMd := (yX13_compare, cX13_compare, 2, some .int, [], 12, 6, 140, false)
def mX13_told : xMd := (yX13_told, cX13_told, 2, some .int, [], 12, 0, 0, false)
def mX13_shiftX : xMd := (yX13_shiftX, cX13_shiftX, 1, some .int, [], 12, 1, 21, false)
def mX13_shiftY : xMd := (yX13_shiftY, cX13_shiftY, 1, some .int, [], 12, 1, 21, false)
def mX13_skew : xMd := (yX13_skew, cX13_skew, 1, some .int, [], 12, 1, 21, false)
def mX13_turned : xMd := (yX13_turned, cX13_turned, 1, some .boolean, [], 12, 1, 21, false)
def mX13_mismatch : xMd := (yX13_mismatch, cX13_mismatch, 1, some .int, [], 12, 1, 21, false)
def mX13_similarity : xMd := (yX13_similarity, cX13_similarity, 1, some .int, [], 12, 1, 21, false)
def mX13_mismatchAt : xMd := (yX13_mismatchAt, cX13_mismatchAt, 3, some .int, [], 12, 3, 76, false)
def mX13_blockDifference : xMd := (yX13_blockDifference, cX13_blockDifference, 3, some .int, [], 12, 2, 47, false)
def mX13_regions : xMd := (yX13_regions, cX13_regions, 1, some .int, [], 12, 1, 21, false)
def mX13_regionAt : xMd := (yX13_regionAt, cX13_regionAt, 3, some .int, [], 12, 2, 49, false)
def mX13_lacks : xMd := (yX13_lacks, cX13_lacks, 3, some .boolean, [], 12, 1, 25, false)
def mX13_regionLeft : xMd := (yX13_regionLeft, cX13_regionLeft, 2, some .int, [], 12, 2, 47, false)
def mX13_regionTop : xMd := (yX13_regionTop, cX13_regionTop, 2, some .int, [], 12, 2, 47, false)
def mX13_regionRight : xMd := (yX13_regionRight, cX13_regionRight, 2, some .int, [], 12, 2, 47, false)
def mX13_regionBottom : xMd := (yX13_regionBottom, cX13_regionBottom, 2, some .int, [], 12, 2, 47, false)
def mX13_missingPixels : xMd := (yX13_missingPixels, cX13_missingPixels, 2, some .int, [], 12, 2, 47, false)
def mX13_addedPixels : xMd := (yX13_addedPixels, cX13_addedPixels, 2, some .int, [], 12, 2, 47, false)
def mX13_changes : xMd := (yX13_changes, cX13_changes, 1, some .int, [], 12, 1, 21, false)
def mX13_changeKind : xMd := (yX13_changeKind, cX13_changeKind, 2, some .int, [], 12, 2, 47, false)
def mX13_changeRegion : xMd := (yX13_changeRegion, cX13_changeRegion, 2, some .int, [], 12, 2, 47, false)
def mX13_changeTarget : xMd := (yX13_changeTarget, cX13_changeTarget, 2, some .int, [], 12, 2, 47, false)
def mX13_moveX : xMd := (yX13_moveX, cX13_moveX, 2, some .int, [], 12, 2, 47, false)
def mX13_moveY : xMd := (yX13_moveY, cX13_moveY, 2, some .int, [], 12, 2, 47, false)
def mX13_changePixels : xMd := (yX13_changePixels, cX13_changePixels, 2, some .int, [], 12, 2, 47, false)
def mX13_changeLine : xMd := (yX13_changeLine, cX13_changeLine, 2, some .int, [], 12, 2, 47, false)
def mX13_reportChar : xMd := (yX13_reportChar, cX13_reportChar, 2, some .int, [], 12, 1, 21, false)
def mX13_learn : xMd := (yX13_learn, cX13_learn, 8, some .int, [], 12, 4, 96, false)
def mX13_stampOf : xMd := (yX13_stampOf, cX13_stampOf, 2, some .int, [], 12, 4, 96, false)
def mX13_forgetStamp : xMd := (yX13_forgetStamp, cX13_forgetStamp, 4, some .int, [], 12, 1, 25, false)
def mX13_accept : xMd := (yX13_accept, cX13_accept, 5, some .int, [], 12, 3, 71, false)
def mX13_leastNoise : xMd := (yX13_leastNoise, cX13_leastNoise, 3, some .int, [], 12, 4, 98, false)
def mL_law : xMd := (yL_law, cL_law, 8, some .boolean, [], 14, 10, 218, true)
def xFlds : Nat → List (Nat × Nat × Nat) := fun k => match k with
  | 0 => [(9, 0, 0), (15, 0, 1), (18, 0, 2), (22, 0, 3), (40, 0, 4), (43, 0, 5)]
  | 1 => [(299, 5, 3), (269, 5, 6), (276, 5, 8), (306, 5, 9), (296, 5, 10), (112, 8, 3), (115, 8, 6), (118, 8, 7), (325, 8, 8), (331, 8, 9), (39, 1, 0), (43, 1, 1), (51, 1, 2), (55, 1, 3), (58, 1, 4), (61, 1, 5), (64, 1, 6), (70, 1, 7), (74, 1, 8), (181, 1, 9), (184, 1, 10), (9, 1, 11), (15, 1, 12), (18, 1, 13), (21, 1, 14), (26, 1, 15), (30, 1, 16), (149, 1, 17), (35, 1, 18), (283, 1, 19), (214, 7, 0), (222, 7, 1), (211, 7, 6), (256, 7, 8)]
  | 2 => [(13, 2, 0), (19, 2, 1), (43, 2, 2), (22, 2, 3), (25, 2, 4), (46, 2, 5)]
  | 3 => [(11, 3, 0), (17, 3, 1), (28, 3, 2), (24, 3, 3)]
  | 4 => [(7, 4, 0), (13, 4, 1), (20, 4, 2), (24, 4, 3), (74, 5, 0), (68, 5, 2), (71, 5, 3), (62, 5, 5)]
  | 5 => [(15, 5, 0), (9, 5, 1), (39, 5, 2), (27, 5, 3), (45, 5, 4), (48, 5, 5), (23, 5, 6), (19, 5, 8), (99, 5, 10)]
  | 6 => [(7, 6, 0), (13, 6, 1), (16, 6, 2)]
  | 7 => [(28, 5, 2), (38, 5, 3), (42, 5, 4), (51, 5, 5), (24, 5, 6), (60, 5, 7), (12, 7, 0), (18, 7, 1), (37, 7, 2), (41, 7, 3), (48, 7, 4), (54, 7, 5), (57, 7, 6)]
  | 8 => [(18, 8, 0), (22, 8, 1), (30, 8, 2), (34, 8, 3), (9, 8, 4), (15, 8, 5), (66, 8, 6), (69, 8, 7), (72, 8, 8), (75, 8, 9), (42, 8, 10), (53, 8, 11), (56, 8, 12), (63, 8, 13)]
  | 9 => [(11, 9, 0), (20, 9, 1)]
  | 10 => [(9, 10, 0), (15, 10, 1)]
  | 11 => [(368, 5, 2), (369, 5, 3), (347, 5, 6), (362, 5, 7), (365, 5, 8), (370, 5, 9), (387, 9, 1), (277, 8, 6), (282, 8, 7), (285, 8, 8), (288, 8, 9), (291, 8, 10), (296, 1, 2), (415, 1, 7), (306, 1, 9), (309, 1, 10), (317, 1, 17), (270, 1, 19), (18, 11, 0), (22, 11, 1), (27, 11, 2), (37, 11, 3), (44, 11, 4), (51, 11, 5), (58, 11, 6), (64, 11, 7), (245, 11, 8), (67, 11, 9), (74, 11, 10), (81, 11, 11), (266, 11, 12), (88, 11, 13), (343, 7, 0), (352, 7, 1), (329, 7, 2), (334, 7, 3), (337, 7, 4), (340, 7, 5)]
  | 12 => [(179, 12, 0), (183, 12, 1), (186, 12, 2), (7, 12, 3), (14, 12, 4), (17, 12, 5), (199, 12, 6), (21, 12, 7), (24, 12, 8), (27, 12, 9), (230, 12, 10), (237, 12, 11), (30, 12, 12), (272, 12, 13), (33, 12, 14), (36, 12, 15), (306, 12, 16), (39, 12, 17), (43, 12, 18), (46, 12, 19), (49, 12, 20), (52, 12, 21), (55, 12, 22), (296, 12, 23), (59, 12, 24), (318, 12, 25), (62, 12, 26), (65, 12, 27), (68, 12, 28), (71, 12, 29), (337, 12, 30), (74, 12, 31), (77, 12, 32), (80, 12, 33), (458, 12, 34), (502, 12, 35), (83, 12, 36), (86, 12, 37), (89, 12, 38), (92, 12, 39), (95, 12, 40), (378, 12, 41), (381, 12, 42), (384, 12, 43), (387, 12, 44), (365, 12, 45), (98, 12, 46), (101, 12, 47), (350, 12, 48), (353, 12, 49), (359, 12, 50), (362, 12, 51), (104, 12, 52), (107, 12, 53), (391, 12, 54), (394, 12, 55), (397, 12, 56), (110, 12, 57), (113, 12, 58), (421, 12, 59), (116, 12, 60), (119, 12, 61), (122, 12, 62), (125, 12, 63), (128, 12, 64), (131, 12, 65), (134, 12, 66), (137, 12, 67), (140, 12, 68), (143, 12, 69), (146, 12, 70), (149, 12, 71), (152, 12, 72), (155, 12, 73), (158, 12, 74), (161, 12, 75), (164, 12, 76), (167, 12, 77), (170, 12, 78), (467, 12, 79), (173, 12, 80), (176, 12, 81)]
  | _ => []
def xFld (k x : Nat) : Option (Nat × Nat) := (xFlds k).lookup x
def xCals : Nat → List (Nat × xMd × Nat) := fun k => match k with
  | 0 => [(25, mX0_begin, 1), (46, mX4_rowAt, 1), (29, mX0_findNext, 0), (52, mX0_grow, 0), (58, mX0_spread, 1), (62, mX0_blobAt, 1), (65, mX0_widened, 2), (69, mJ9_max_7cf53, 2), (55, mX0_close, 0), (33, mX0_pixels, 0), (77, mJ13_bitCount_95d88, 1), (37, mX0_erase, 1), (83, mX4_putRow, 2)]
  | 1 => [(48, mX4_init, 2), (69, mX8_init, 2), (83, mX2_valueOf, 1), (89, mX4_takeFrom, 1), (93, mX0_strip, 2), (108, mX8_search, 5), (121, mX4_drawMoved, 3), (128, mX4_drawUnmatched, 3), (132, mX4_keepOnly, 1), (138, mX1_measureBlocks, 1), (175, mJ9_max_7cf53, 2), (187, mX1_blockCount, 0), (195, mJ9_min_7cf53, 2), (191, mX4_inkWithin, 4), (145, mX1_group, 2), (198, mX1_mark, 4), (202, mX1_join, 5), (152, mX1_formRegions, 0), (207, mX1_find, 1), (206, mX7_init, 0), (218, mX1_collect, 3), (228, mX5_begin, 0), (231, mX1_spanOf, 2), (243, mX4_below, 1), (246, mX4_moved, 2), (235, mX4_rowAt, 1), (239, mX5_takeRow, 2), (225, mX7_settle, 0), (158, mX1_sortRegions, 1), (250, mX7_start, 1), (260, mX1_sortByKey, 0), (263, mX7_end, 1), (266, mX7_takeNumber, 1), (165, mX1_pairParts, 1), (272, mX1_pair, 1), (279, mX5_hasShapeOf, 1), (171, mX1_listChanges, 2), (286, mX1_list, 4), (290, mX10_numberOf, 1), (302, mX4_linesUpTo, 1), (311, mX6_write, 1), (319, mX6_writePair, 3), (328, mX6_writeNumber, 1), (337, mX6_put, 1), (344, mX5_report, 1)]
  | 2 => [(49, mX11_length, 0), (55, mX11_endOfLetters, 1), (59, mX2_settingNamed, 3), (81, mX11_matches, 3), (63, mX11_codeAt, 1), (66, mX11_endOfLettersAndDigits, 1), (69, mX9_valueIn, 3), (73, mX2_note, 2), (85, mX6_put, 1), (91, mX2_describeOne, 2), (95, mX2_valueOf, 1), (99, mX6_write, 1), (103, mX9_hasWords, 0), (113, mX6_writeNumber, 1)]
  | 3 => [(21, mX4_init, 2), (37, mX3_slotAt, 1), (31, mJ9_floorMod_7cf53, 2), (41, mX4_takeFrom, 1)]
  | 4 => [(16, mX4_below, 1), (47, mX4_span, 2), (43, mX4_clipped, 2), (30, mX4_rowAt, 1), (33, mX4_putRow, 2), (37, mJ13_bitCount_95d88, 1), (54, mX4_mirrored, 1), (51, mX4_moved, 2), (58, mX4_inkAround, 2), (82, mX4_startsLine, 1), (78, mX4_linesUpTo, 1), (86, mX4_lineEnd, 1), (65, mX5_shapeRow, 1)]
  | 5 => [(30, mJ13_bitCount_95d88, 1), (36, mX5_lowestBit, 1), (42, mX5_bitsUpToHighest, 1), (51, mX5_shapeRow, 1), (55, mX4_moved, 2), (69, mX6_write, 1), (75, mX6_writeNumber, 1), (83, mX6_writePair, 3), (104, mX6_put, 1)]
  | 6 => [(19, mJ0_length_8abf5, 0), (25, mJ0_charAt_5068e, 1), (29, mX6_put, 1), (33, mJ9_abs_0f7a4, 1), (40, mX6_writeNumber, 1), (43, mX6_write, 1)]
  | 7 => [(9, mX5_init, 1), (21, mX5_settle, 0), (31, mJ9_min_7cf53, 2), (45, mJ9_max_7cf53, 2)]
  | 8 => [(27, mX4_init, 2), (37, mX8_countCells, 2), (105, mX8_cellColumns, 0), (109, mX8_cellRows, 0), (112, mX4_inkWithin, 4), (45, mX8_look, 3), (79, mX4_drawFlipped, 3), (83, mX4_takeFrom, 1), (87, mX4_rowAt, 1), (91, mJ9_floorDiv_7cf53, 2), (97, mX4_moved, 2), (101, mX4_putRow, 2), (49, mX8_findCoarse, 1), (116, mX8_coarseCost, 2), (137, mX8_countAt, 2), (133, mJ9_abs_0f7a4, 1), (119, mX8_offer, 3), (59, mX8_findFine, 4), (123, mJ9_max_7cf53, 2), (126, mJ9_min_7cf53, 2), (129, mX8_costOf, 3), (141, mX4_below, 1), (144, mJ13_bitCount_95d88, 1)]
  | 9 => [(17, mX5_init, 1), (24, mX5_hasShapeOf, 1), (28, mX10_isFull, 0), (32, mX5_takeShape, 1)]
  | 10 => [(23, mX11_codeAt, 1), (31, mX11_isLetter, 1), (34, mJ0_length_8abf5, 0), (39, mJ0_charAt_5068e, 1), (27, mX11_isDigit, 1), (43, mX11_endOfDigits, 1), (46, mX11_numberOf, 2), (50, mX11_isCount, 1), (53, mX11_errorAtMark, 2), (56, mX4_paint, 5), (19, mX11_isFull, 0)]
  | 11 => [(9, mJ9_min_7cf53, 2), (15, mJ9_max_7cf53, 2), (31, mX4_init, 2), (36, mX3_init, 2), (43, mX0_init, 2), (50, mX11_init, 0), (57, mX2_init, 0), (73, mX10_init, 0), (80, mX1_init, 2), (87, mX6_init, 0), (155, mX11_clear, 0), (207, mX2_read, 1), (211, mX2_applyRead, 0), (119, mX4_paint, 5), (258, mX1_clean, 4), (262, mX1_examine, 3), (92, mX12_pageAt, 1), (96, mX12_requireRow, 1), (100, mX4_rowAt, 1), (104, mX3_keep, 2), (108, mX4_putRow, 2), (112, mX4_differences, 1), (116, mX12_requireSize, 2), (123, mX4_drawMoved, 3), (127, mX4_drawMajority, 3), (138, mX4_drawFlipped, 3), (144, mX0_strip, 2), (148, mX11_patternError, 0), (152, mX11_drawPattern, 3), (158, mX0_countIn, 1), (161, mX4_lineCount, 0), (164, mX12_topOfLine, 2), (410, mX4_lineStart, 1), (167, mX4_lineEnd, 1), (173, mX4_wordCount, 2), (176, mX4_inkWithin, 4), (184, mX3_isBare, 0), (193, mX3_restoreTo, 1), (199, mX11_isFull, 0), (204, mX11_add, 1), (223, mX2_valueOf, 1), (229, mX6_seek, 1), (232, mX2_describe, 1), (236, mX6_found, 0), (239, mX12_isWithin, 3), (273, mX12_registration, 0), (303, mX12_requireComparison, 0), (299, mX8_costOf, 3), (314, mX1_differenceOf, 2), (322, mX1_regionOfPixel, 2), (325, mX12_regionOf, 1), (418, mX1_regionNumbered, 1), (355, mX12_changeOf, 1), (423, mX1_changeNumbered, 1), (359, mX5_kind, 0), (373, mX1_report, 1), (378, mX10_numberOf, 1), (382, mX10_isFull, 0), (385, mX10_add, 1), (392, mX10_drop, 1), (395, mX4_stampPart, 1), (401, mX1_noiseFor, 1)]
  | 12 => [(202, mX13_isPage, 1), (191, mX13_in, 3), (206, mX13_fails, 1), (210, mX13_rowOf, 2), (214, mX13_takes, 1), (218, mX13_edits, 1), (195, mX13_isOn, 2), (220, mX13_isWithin, 5), (224, mX13_at, 3), (246, mX13_cleans, 2), (240, mX13_gathers, 2), (233, mX13_looks, 3), (253, mX13_linesTo, 3), (249, mX13_hasInk, 3), (257, mX13_topOf, 2), (261, mX13_bottomOf, 2), (309, mX13_readsSettings, 0), (299, mX13_isSmall, 1), (275, mX13_letter, 1), (289, mX13_wordOf, 3), (293, mX13_isFigure, 1), (302, mX13_valueOf, 3), (286, mX13_firstWord, 1), (313, mX13_isGiven, 1), (321, mX13_tells, 1), (324, mX13_tellsWord, 2), (328, mX13_tellsNumber, 1), (334, mX13_readsPattern, 0), (331, mX13_countOf, 2), (484, mX13_registers, 0), (368, mX13_skews, 2), (372, mX13_seeksCoarse, 0), (343, mX13_countsCells, 2), (340, mX13_size, 1), (347, mX13_coarseCost, 2), (375, mX13_seeksFine, 0), (356, mX13_differ, 3), (487, mX13_findsDifferences, 0), (400, mX13_isMasked, 1), (403, mX13_isNear, 2), (407, mX13_blockOf, 1), (490, mX13_findsRegions, 0), (418, mX13_joins, 1), (410, mX13_isBlock, 2), (414, mX13_spreads, 3), (424, mX13_lesser, 2), (427, mX13_greater, 2), (430, mX13_ordersRegions, 0), (443, mX13_leastRegion, 1), (433, mX13_isAhead, 3), (437, mX13_secondKey, 1), (440, mX13_firstKey, 1), (446, mX13_endKey, 1), (493, mX13_findsParts, 0), (449, mX13_isOf, 2), (496, mX13_findsChanges, 0), (470, mX13_pairs, 0), (461, mX13_areAlike, 2), (452, mX13_widthOf, 1), (455, mX13_heightOf, 1), (473, mX13_lists, 2), (464, mX13_stampFor, 1), (499, mX13_reports, 0), (477, mX13_tellsTwo, 3), (481, mX13_reportsOne, 2), (505, mX13_told, 1), (507, mX13_lacks, 2)]
  | 13 => [(86, mX9_hasWords, 0), (80, mJ0_isEmpty_aae02, 0), (89, mX11_matches, 3), (95, mX11_endOfDigits, 1), (99, mX11_numberOf, 2)]
  | 14 => [(185, mX12_init, 2), (255, mX12_clearText, 0), (259, mX12_configure, 0), (275, mX12_compare, 0), (179, mL_cell, 2), (191, mL_row, 4), (7, mX12_row, 2), (200, mL_setRow, 5), (15, mX12_setRow, 3), (204, mL_fill, 8), (19, mX12_fill, 6), (208, mL_copy, 6), (25, mX12_copy, 4), (212, mL_merge, 3), (29, mX12_merge, 1), (216, mL_flip, 4), (33, mX12_flip, 2), (219, mL_despeckle, 4), (37, mX12_despeckle, 2), (222, mL_paste, 5), (40, mX12_paste, 3), (226, mL_components, 3), (44, mX12_components, 1), (229, mL_lines, 3), (47, mX12_lines, 1), (232, mL_lineTop, 4), (50, mX12_lineTop, 2), (235, mL_lineBottom, 4), (53, mX12_lineBottom, 2), (238, mL_words, 5), (56, mX12_words, 3), (241, mL_ink, 7), (59, mX12_ink, 5), (245, mL_fingerprint, 3), (63, mX12_fingerprint, 1), (248, mL_undo, 2), (67, mX12_undo, 0), (252, mL_type, 3), (73, mX12_type, 1), (263, mL_setting, 3), (76, mX12_setting, 1), (266, mL_configChar, 3), (79, mX12_configChar, 1), (269, mL_addMask, 6), (82, mX12_addMask, 4), (272, mL_removeMask, 3), (85, mX12_removeMask, 1), (279, mL_shiftX, 2), (88, mX12_shiftX, 0), (282, mL_shiftY, 2), (91, mX12_shiftY, 0), (285, mL_skew, 2), (94, mX12_skew, 0), (288, mL_turned, 2), (97, mX12_turned, 0), (291, mL_mismatch, 2), (101, mX12_mismatch, 0), (294, mL_similarity, 2), (104, mX12_similarity, 0), (297, mL_mismatchAt, 4), (107, mX12_mismatchAt, 2), (300, mL_blockDifference, 4), (110, mX12_blockDifference, 2), (303, mL_regions, 2), (113, mX12_regions, 0), (306, mL_regionAt, 4), (116, mX12_regionAt, 2), (309, mL_regionLeft, 3), (119, mX12_regionLeft, 1), (312, mL_regionTop, 3), (122, mX12_regionTop, 1), (315, mL_regionRight, 3), (125, mX12_regionRight, 1), (318, mL_regionBottom, 3), (128, mX12_regionBottom, 1), (321, mL_missingPixels, 3), (131, mX12_missingPixels, 1), (324, mL_addedPixels, 3), (134, mX12_addedPixels, 1), (327, mL_changes, 2), (137, mX12_changes, 0), (330, mL_changeKind, 3), (140, mX12_changeKind, 1), (333, mL_changeRegion, 3), (143, mX12_changeRegion, 1), (336, mL_changeTarget, 3), (146, mX12_changeTarget, 1), (339, mL_moveX, 3), (149, mX12_moveX, 1), (342, mL_moveY, 3), (152, mX12_moveY, 1), (345, mL_changePixels, 3), (155, mX12_changePixels, 1), (348, mL_changeLine, 3), (158, mX12_changeLine, 1), (351, mL_reportChar, 3), (161, mX12_reportChar, 1), (354, mL_learn, 3), (164, mX12_learn, 1), (357, mL_stampOf, 3), (167, mX12_stampOf, 1), (360, mL_forgetStamp, 3), (170, mX12_forgetStamp, 1), (363, mL_accept, 3), (173, mX12_accept, 1), (366, mL_leastNoise, 3), (176, mX12_leastNoise, 1), (190, mX13_init, 2), (195, mX13_thrown, 0), (194, mX13_row, 2), (203, mX13_setRow, 3), (207, mX13_fill, 6), (211, mX13_copy, 4), (215, mX13_merge, 1), (218, mX13_flip, 2), (221, mX13_despeckle, 2), (228, mX13_components, 1), (231, mX13_lines, 1), (234, mX13_lineTop, 2), (237, mX13_lineBottom, 2), (240, mX13_words, 3), (244, mX13_ink, 5), (247, mX13_fingerprint, 1), (251, mX13_undo, 0), (254, mX13_type, 1), (258, mX13_clearText, 0), (262, mX13_configure, 0), (265, mX13_setting, 1), (268, mX13_configChar, 1), (225, mX13_paste, 3), (271, mX13_addMask, 4), (274, mX13_removeMask, 1), (278, mX13_compare, 0), (281, mX13_shiftX, 0), (284, mX13_shiftY, 0), (287, mX13_skew, 0), (290, mX13_turned, 0), (293, mX13_mismatch, 0), (296, mX13_similarity, 0), (299, mX13_mismatchAt, 2), (302, mX13_blockDifference, 2), (305, mX13_regions, 0), (308, mX13_regionAt, 2), (311, mX13_regionLeft, 1), (314, mX13_regionTop, 1), (317, mX13_regionRight, 1), (320, mX13_regionBottom, 1), (323, mX13_missingPixels, 1), (326, mX13_addedPixels, 1), (329, mX13_changes, 0), (332, mX13_changeKind, 1), (335, mX13_changeRegion, 1), (338, mX13_changeTarget, 1), (341, mX13_moveX, 1), (344, mX13_moveY, 1), (347, mX13_changePixels, 1), (350, mX13_changeLine, 1), (353, mX13_reportChar, 1), (356, mX13_learn, 1), (359, mX13_stampOf, 1), (362, mX13_forgetStamp, 1), (365, mX13_accept, 1), (368, mX13_leastNoise, 1)]
  | 17 => [(335, mJ0_coder_7d493, 0), (492, mJ0_isLatin1_aae02, 0), (495, mJ1_charAt_3b067, 2), (1059, mJ3_checkIndex_8e157, 3)]
  | 18 => [(9, mJ0_checkIndex_df160, 2)]
  | _ => []
def xCal (k x : Nat) : Option (xMd × Nat) := (xCals k).lookup x
def xObI (k : Nat) (i : Instr) : Bool := match i with | .invokespecial x => [(0, 3), (1, 3), (2, 3), (3, 3), (4, 1), (5, 3), (6, 1), (7, 1), (8, 3), (9, 3), (10, 3), (11, 1), (12, 1)].contains (k, x) | _ => false
def xCpy (k : Nat) (i : Instr) : Bool := match i with | .invokestatic x => [(2, 37), (5, 61), (11, 252)].contains (k, x) | _ => false
def xClss : Nat → List (Nat × Nat) := fun k => match k with
  | 1 => [(24, 7), (46, 4), (67, 8)]
  | 3 => [(9, 4)]
  | 7 => [(7, 5)]
  | 8 => [(25, 4)]
  | 9 => [(9, 5)]
  | 11 => [(25, 4), (34, 3), (41, 0), (48, 10), (55, 2), (71, 9), (78, 1), (85, 6)]
  | 14 => [(8, 11), (188, 12)]
  | _ => []
def xCls (k x : Nat) : Option Nat := (xClss k).lookup x
def xThrs : Nat → List (Nat × String × Nat) := fun k => match k with
  | 11 => [(131, "java/lang/IllegalArgumentException", 135), (188, "java/lang/IllegalStateException", 192), (218, "java/lang/IndexOutOfBoundsException", 222)]
  | _ => []
def xThr (k x : Nat) : Option (String × Nat) := (xThrs k).lookup x
def xAnrs : Nat → List (Nat × Nat) := fun k => match k with
  | 1 => [(24, 6), (33, 5)]
  | 3 => [(9, 4)]
  | 9 => [(9, 5)]
  | 11 => [(25, 4)]
  | _ => []
def xAnr (k x : Nat) : Option Nat := (xAnrs k).lookup x
def xMna (k x : Nat) : Bool := [(11, 62)].contains (k, x)
/-- the classes whose objects an array of a kind holds: 4, 5, 6; 7: rows of ints -/
def xElm (t : Nat) : Option Nat := match t with | 4 => some 4 | 5 => some 5 | 6 => some 7 | _ => none
/-- the types of a class's fields, which of them are final -/
def xTy (c : Nat) : Nat → FieldType := match c with
  | 0 => tyX0
  | 1 => tyX1
  | 2 => tyX2
  | 3 => tyX3
  | 4 => tyX4
  | 5 => tyX5
  | 6 => tyX6
  | 7 => tyX7
  | 8 => tyX8
  | 9 => tyX10
  | 10 => tyX11
  | 11 => tyX12
  | 12 => tyX13
  | _ => fun _ => .int
def xTT (c : Nat) : u_T := match c with
  | 0 => TX0
  | 1 => TX1
  | 2 => TX2
  | 3 => TX3
  | 4 => TX4
  | 5 => TX5
  | 6 => TX6
  | 7 => TX7
  | 8 => TX8
  | 9 => TX10
  | 10 => TX11
  | 11 => TX12
  | 12 => TX13
  | _ => fun _ => ("", "", "", false)
def xNf (c : Nat) : Nat := match c with | 0 => 6 | 1 => 20 | 2 => 6 | 3 => 4 | 4 => 4 | 5 => 11 | 6 => 3 | 7 => 9 | 8 => 14 | 9 => 2 | 10 => 2 | 11 => 14 | 12 => 82 | _ => 0
def xNm (c : Nat) : String := match c with
  | 0 => RX0
  | 1 => RX1
  | 2 => RX2
  | 3 => RX3
  | 4 => RX4
  | 5 => RX5
  | 6 => RX6
  | 7 => RX7
  | 8 => RX8
  | 9 => RX10
  | 10 => RX11
  | 11 => RX12
  | 12 => RX13
  | 13 => RX9
  | 14 => RL
  | 15 => RJ9
  | 16 => RJ13
  | 17 => RJ0
  | 18 => RJ1
  | 19 => RJ3
  | _ => ""
def xDef (c : Nat) : List Value := match c with
  | 0 => [.int 0, .int 0, .null, .null, .int 0, .int 0]
  | 1 => [.int 0, .int 0, .null, .null, .null, .null, .null, .null, .int 0, .int 0, .int 0, .null, .null, .null, .null, .null, .null, .int 0, .null, .int 0]
  | 2 => [.null, .null, .int 0, .null, .null, .int 0]
  | 3 => [.null, .null, .int 0, .int 0]
  | 4 => [.int 0, .int 0, .long 0, .null]
  | 5 => [.int 0, .null, .int 0, .int 0, .int 0, .int 0, .int 0, .int 0, .null, .int 0, .int 0]
  | 6 => [.int 0, .int 0, .int 0]
  | 7 => [.null, .null, .int 0, .int 0, .int 0, .int 0, .int 0, .int 0, .long 0]
  | 8 => [.int 0, .int 0, .null, .null, .null, .null, .int 0, .int 0, .int 0, .int 0, .int 0, .int 0, .int 0, .int 0]
  | 9 => [.null, .int 0]
  | 10 => [.null, .int 0]
  | 11 => [.int 0, .int 0, .null, .null, .null, .null, .null, .null, .int 0, .null, .null, .null, .int 0, .null]
  | 12 => [.int 0, .int 0, .int 0, .null, .null, .null, .int 0, .null, .null, .null, .int 0, .int 0, .null, .int 0, .null, .null, .int 0, .null, .null, .null, .null, .null, .null, .int 0, .null, .int 0, .null, .null, .null, .null, .int 0, .null, .null, .null, .int 0, .int 0, .null, .null, .null, .null, .null, .int 0, .int 0, .int 0, .int 0, .int 0, .null, .null, .int 0, .int 0, .int 0, .int 0, .null, .null, .int 0, .int 0, .int 0, .null, .null, .int 0, .null, .null, .null, .null, .null, .null, .null, .null, .null, .null, .null, .null, .null, .null, .null, .null, .null, .null, .null, .int 0, .null, .null]
  | _ => []
def xRob (t : Option FieldType) : Bool := match t with | some (.object _) => true | some (.array _) => true | _ => false
/-- may this value be put into field j of class c by a method of class k -/
def xPok (ini : Bool) (k c j : Nat) (v : Value) : Bool := decide (j < xNf c) && (!(xTT c j).2.2.2 || (ini && k == c)) && (match v with | .int a => decide (narrow (xTy c j) (.int a) = .int a) && fits (xTy c j) (.int a) | .long _ => decide (xTy c j = .long) | .null => xRob (some (xTy c j)) | .ref _ => xRob (some (xTy c j)) | _ => false)
/-- constants: 0 to 9 the settings, 10 their array, 11 the script, 20 and on the String constants, 120 and on their bytes; 998 a reference or null of which nothing is known, 999 some object -/
def xSv (j c : Nat) : Option Value := match j with
  | 0 => ([.int 0, .int 1, .int 2, .int 3, .int 4, .int 5, .int 6, .int 7, .int 8, .int 9] : List Value)[c]?
  | 1 => ([.retAddr 68, .retAddr 69, .retAddr 67, .retAddr 60, .retAddr 62, .retAddr 63, .retAddr 64, .retAddr 70, .retAddr 73, .retAddr 74] : List Value)[c]?
  | 2 => ([.int 4, .int 0, .int 0, .int 0, .int 0, .int 0, .int 0, .int 0, .int 1, .int 0] : List Value)[c]?
  | 3 => ([.int 16, .int 256, .int 2, .int 9, .int 16, .int 2, .int 1, .int 1, .int 99, .int 1] : List Value)[c]?
  | 4 => ([.int 8, .int 2, .int 1, .int 0, .int 8, .int 0, .int 0, .int 0, .int 4, .int 0] : List Value)[c]?
  | 5 => ([.retAddr 61, .retAddr 61, .retAddr 61, .retAddr 61, .retAddr 61, .retAddr 61, .retAddr 65, .retAddr 71, .retAddr 61, .retAddr 75] : List Value)[c]?
  | 6 => ([.retAddr 61, .retAddr 61, .retAddr 61, .retAddr 61, .retAddr 61, .retAddr 61, .retAddr 66, .retAddr 72, .retAddr 61, .retAddr 76] : List Value)[c]?
  | _ => none
def xCfS : Nat → List (Nat × Nat) := fun k => match k with
  | 2 => [(28, 4), (77, 1), (34, 0), (107, 5), (110, 6)]
  | 13 => [(74, 5), (77, 6), (63, 2), (66, 3)]
  | _ => []
def xCfR : Nat → List (Nat × Nat) := fun k => match k with
  | 17 => [(9, 0), (15, 1)]
  | _ => []
/-- a field of a constant object, read by a method of class k at its entry x -/
def xCF (a k x : Nat) : Option Value := if a < 10 then ((xCfS k).lookup x).bind (fun j => xSv j a) else if 20 ≤ a ∧ a < 77 then ((xCfR k).lookup x).map (fun j => if j = 0 then .retAddr (a + 100) else .int 0) else none
def xStas : Nat → List (Nat × Value) := fun k => match k with
  | 1 => [(77, .retAddr 3), (99, .retAddr 4), (102, .retAddr 5), (105, .retAddr 6), (125, .retAddr 2), (135, .retAddr 0), (142, .retAddr 1), (155, .retAddr 7), (162, .retAddr 8), (168, .retAddr 9)]
  | 2 => [(9, .retAddr 10)]
  | 11 => [(214, .retAddr 10)]
  | 17 => [(38, .int 1), (1053, .retAddr 998)]
  | _ => []
def xSta (k x : Nat) : Option Value := (xStas k).lookup x
def xLdcs : Nat → List (Nat × Value) := fun k => match k with
  | 1 => [(309, .retAddr 41), (317, .retAddr 42), (323, .retAddr 43), (335, .retAddr 44), (340, .retAddr 45), (342, .retAddr 46)]
  | 5 => [(67, .retAddr 47), (79, .retAddr 48), (81, .retAddr 49), (87, .retAddr 50), (89, .retAddr 51), (91, .retAddr 52), (93, .retAddr 53), (95, .retAddr 54), (97, .retAddr 55), (102, .retAddr 56)]
  | 6 => [(39, .int 1000000)]
  | 8 => [(41, .int 1000000)]
  | 11 => [(404, .retAddr 20), (406, .retAddr 21), (408, .retAddr 22), (133, .retAddr 23), (142, .retAddr 24), (413, .retAddr 25), (171, .retAddr 26), (190, .retAddr 27), (197, .retAddr 28), (202, .retAddr 29), (220, .retAddr 30), (227, .retAddr 31), (243, .retAddr 32), (248, .retAddr 33), (250, .retAddr 34), (376, .retAddr 35), (294, .retAddr 36), (312, .retAddr 37), (320, .retAddr 38), (421, .retAddr 39), (426, .retAddr 40), (383, .retAddr 57), (390, .retAddr 58), (399, .retAddr 59)]
  | 12 => [(13, .int 32768), (58, .int 40000)]
  | 13 => [(116, .retAddr 60), (72, .retAddr 61), (119, .retAddr 62), (122, .retAddr 63), (125, .retAddr 64), (127, .retAddr 65), (129, .retAddr 66), (113, .retAddr 67), (104, .retAddr 68), (110, .retAddr 69), (135, .retAddr 70), (137, .retAddr 71), (139, .retAddr 72), (142, .retAddr 73), (145, .retAddr 74), (147, .retAddr 75), (149, .retAddr 76)]
  | _ => []
def xLdc (k x : Nat) : Option Value := (xLdcs k).lookup x
def xLd2s : Nat → List (Nat × Int64) := fun k => match k with
  | 0 => [(75, (-1))]
  | 1 => [(254, 64)]
  | 4 => [(28, (-1))]
  | 11 => [(180, 17), (182, 31)]
  | 12 => [(189, 3), (228, 2), (244, 64), (264, 31), (266, 527), (268, 32), (270, 126), (278, 97), (280, 122), (282, 48), (284, 57), (316, 9)]
  | 14 => [(198, 4294967295)]
  | 16 => [(314, 6148914691236517205), (316, 3689348814741910323), (318, 1085102592571150095)]
  | _ => []
def xLd2 (k x : Nat) : Option Int64 := (xLd2s k).lookup x
/-- the bytes of the String constants -/
def xBys (s : Nat) : Option (List Int32) := ([
  [110, 111, 32, 115, 117, 99, 104, 32, 112, 97, 103, 101],
  [110, 111, 32, 115, 117, 99, 104, 32, 114, 111, 119],
  [110, 101, 103, 97, 116, 105, 118, 101, 32, 115, 105, 122, 101],
  [110, 111, 32, 115, 117, 99, 104, 32, 107, 105, 110, 100, 32, 111, 102, 32, 102, 108, 105, 112],
  [115, 105, 122, 101, 32, 111, 117, 116, 32, 111, 102, 32, 114, 97, 110, 103, 101],
  [110, 111, 32, 115, 117, 99, 104, 32, 116, 101, 120, 116, 32, 108, 105, 110, 101],
  [103, 97, 112, 32, 111, 117, 116, 32, 111, 102, 32, 114, 97, 110, 103, 101],
  [110, 111, 32, 101, 100, 105, 116, 32, 99, 97, 110, 32, 98, 101, 32, 117, 110, 100, 111, 110, 101],
  [110, 111, 32, 112, 114, 105, 110, 116, 97, 98, 108, 101, 32, 99, 104, 97, 114, 97, 99, 116, 101, 114],
  [116, 104, 101, 32, 116, 101, 120, 116, 32, 105, 115, 32, 102, 117, 108, 108],
  [110, 111, 32, 115, 117, 99, 104, 32, 115, 101, 116, 116, 105, 110, 103],
  [110, 101, 103, 97, 116, 105, 118, 101, 32, 105, 110, 100, 101, 120],
  [110, 111, 32, 114, 101, 99, 116, 97, 110, 103, 108, 101, 32, 111, 102, 32, 116, 104, 101, 32, 112, 97, 103, 101],
  [116, 111, 111, 32, 109, 97, 110, 121, 32, 109, 97, 115, 107, 115],
  [110, 111, 32, 115, 117, 99, 104, 32, 109, 97, 115, 107],
  [110, 111, 32, 99, 111, 109, 112, 97, 114, 105, 115, 111, 110],
  [115, 104, 105, 102, 116, 32, 111, 117, 116, 32, 111, 102, 32, 114, 97, 110, 103, 101],
  [110, 111, 32, 115, 117, 99, 104, 32, 98, 108, 111, 99, 107],
  [110, 111, 32, 112, 105, 120, 101, 108, 32, 111, 102, 32, 116, 104, 101, 32, 112, 97, 103, 101],
  [110, 111, 32, 115, 117, 99, 104, 32, 114, 101, 103, 105, 111, 110],
  [110, 111, 32, 115, 117, 99, 104, 32, 99, 104, 97, 110, 103, 101],
  [115, 104, 105, 102, 116, 32],
  [44],
  [32, 115, 107, 101, 119, 32],
  [32, 116, 117, 114, 110, 101, 100],
  [32, 99, 104, 97, 110, 103, 101],
  [32, 99, 104, 97, 110, 103, 101, 115],
  [109, 111, 118, 101, 100, 32],
  [32, 102, 114, 111, 109, 32],
  [44],
  [32, 116, 111, 32],
  [97, 100, 100, 101, 100, 32],
  [114, 101, 109, 111, 118, 101, 100, 32],
  [32, 97, 116, 32],
  [32, 115, 105, 122, 101, 32],
  [120],
  [32, 115, 116, 97, 109, 112, 32],
  [116, 111, 111, 32, 109, 97, 110, 121, 32, 115, 116, 97, 109, 112, 115],
  [110, 111, 32, 115, 117, 99, 104, 32, 115, 116, 97, 109, 112],
  [110, 101, 103, 97, 116, 105, 118, 101, 32, 110, 117, 109, 98, 101, 114, 32, 111, 102, 32, 114, 101, 103, 105, 111, 110, 115],
  [115, 112, 101, 99, 107, 108, 101],
  [],
  [115, 101, 97, 114, 99, 104],
  [115, 107, 101, 119],
  [116, 117, 114, 110],
  [111, 102, 102],
  [111, 110],
  [106, 105, 116, 116, 101, 114],
  [98, 108, 111, 99, 107],
  [110, 111, 105, 115, 101],
  [111, 114, 100, 101, 114],
  [114, 111, 119, 115],
  [99, 111, 108, 117, 109, 110, 115],
  [112, 97, 105, 114],
  [115, 116, 97, 109, 112, 115],
  [107, 101, 101, 112],
  [104, 105, 100, 101]
] : List (List Int32))[s]?
def xCB (a : Nat) : Option (Nat × (Nat → Int32)) := if 120 ≤ a then (xBys (a - 120)).map (fun l => (l.length, fun j => l.getD j 0)) else none
def xCcl (a : Nat) : Option Nat := if a < 10 then some 13 else if 20 ≤ a ∧ a < 77 then some 17 else none
def xHcl (x : Nat) : Option String := match x with | 13 => some "java/lang/IndexOutOfBoundsException" | 23 => some "java/lang/IllegalArgumentException" | 71 => some "java/lang/IllegalStateException" | _ => none
/-- all the methods, callees first -/
def xMs0 : List xMd := [mJ9_min_7cf53, mJ9_max_7cf53, mX4_below, mX4_init, mX3_init, mX0_init, mX11_init, mX2_init, mX5_init, mX10_init, mX8_init, mX1_init, mX6_init, mX12_init, mX11_clear, mX12_clearText, mX11_length, mX11_codeAt, mX11_isLetter, mX11_endOfLetters, mJ0_coder_7d493, mJ0_length_8abf5, mJ0_isLatin1_aae02, mJ3_checkIndex_8e157, mJ0_checkIndex_df160, mJ1_charAt_3b067, mJ0_charAt_5068e, mX11_matches, mX2_settingNamed, mX11_isDigit, mX11_endOfLettersAndDigits, mJ0_isEmpty_aae02, mX9_hasWords, mX11_endOfDigits, mX11_numberOf, mX9_valueIn, mX2_note, mX2_read, mX2_applyRead, mX12_configure]
def xMs1 : List xMd := [mX4_clipped, mX4_span, mX4_rowAt, mX4_putRow, mX4_paint, mX2_valueOf, mX4_takeFrom, mX0_begin, mX0_blobAt, mX0_widened, mX0_spread, mX0_grow, mX0_close, mX0_findNext, mJ13_bitCount_95d88, mX0_pixels, mX0_erase, mX0_strip, mX1_clean, mX8_cellColumns, mX8_cellRows, mX4_inkWithin, mX8_countCells, mX4_mirrored, mX4_drawFlipped, mJ9_floorDiv_7cf53, mX4_moved, mX8_look, mX8_countAt, mJ9_abs_0f7a4, mX8_coarseCost, mX8_offer, mX8_findCoarse, mX8_costOf, mX8_findFine, mX8_search, mX4_drawMoved, mX4_inkAround, mX4_drawUnmatched, mX4_keepOnly]
def xMs2 : List xMd := [mX1_blockCount, mX1_measureBlocks, mX1_join, mX1_mark, mX1_group, mX7_init, mX1_find, mX5_begin, mX1_spanOf, mX5_takeRow, mX1_collect, mX5_lowestBit, mX5_bitsUpToHighest, mX5_shapeRow, mX5_settle, mX7_settle, mX1_formRegions, mX7_start, mX1_sortByKey, mX7_end, mX7_takeNumber, mX1_sortRegions, mX5_hasShapeOf, mX1_pair, mX1_pairParts, mX10_numberOf, mX4_startsLine, mX4_linesUpTo, mX1_list, mX1_listChanges, mX1_examine, mX12_compare, mL_cell, mX12_pageAt, mX12_requireRow, mX12_row, mL_row, mJ9_floorMod_7cf53, mX3_slotAt, mX3_keep]
def xMs3 : List xMd := [mX4_differences, mX12_setRow, mL_setRow, mX12_requireSize, mX12_fill, mL_fill, mX12_copy, mL_copy, mX4_drawMajority, mX12_merge, mL_merge, mX12_flip, mL_flip, mX12_despeckle, mL_despeckle, mX11_isCount, mX11_errorAtMark, mX11_patternError, mX11_drawPattern, mX12_paste, mL_paste, mX0_countIn, mX12_components, mL_components, mX4_lineCount, mX12_lines, mL_lines, mX4_lineStart, mX12_topOfLine, mX12_lineTop, mL_lineTop, mX4_lineEnd, mX12_lineBottom, mL_lineBottom, mX4_wordCount, mX12_words, mL_words, mX12_ink, mL_ink, mX12_fingerprint]
def xMs4 : List xMd := [mL_fingerprint, mX3_isBare, mX3_restoreTo, mX12_undo, mL_undo, mX11_isFull, mX11_add, mX12_type, mL_type, mX12_setting, mL_setting, mX6_seek, mX6_put, mX6_write, mX6_writeNumber, mX2_describeOne, mX2_describe, mX6_found, mX12_configChar, mL_configChar, mX12_isWithin, mX12_addMask, mL_addMask, mX12_removeMask, mL_removeMask, mX12_requireComparison, mX12_registration, mX12_shiftX, mL_shiftX, mX12_shiftY, mL_shiftY, mX12_skew, mL_skew, mX12_turned, mL_turned, mX12_mismatch, mL_mismatch, mX12_similarity, mL_similarity, mX12_mismatchAt]
def xMs5 : List xMd := [mL_mismatchAt, mX1_differenceOf, mX12_blockDifference, mL_blockDifference, mX12_regions, mL_regions, mX1_regionOfPixel, mX12_regionAt, mL_regionAt, mX1_regionNumbered, mX12_regionOf, mX12_regionLeft, mL_regionLeft, mX12_regionTop, mL_regionTop, mX12_regionRight, mL_regionRight, mX12_regionBottom, mL_regionBottom, mX12_missingPixels, mL_missingPixels, mX12_addedPixels, mL_addedPixels, mX12_changes, mL_changes, mX1_changeNumbered, mX12_changeOf, mX5_kind, mX12_changeKind, mL_changeKind, mX12_changeRegion, mL_changeRegion, mX12_changeTarget, mL_changeTarget, mX12_moveX, mL_moveX, mX12_moveY, mL_moveY, mX12_changePixels, mL_changePixels]
def xMs6 : List xMd := [mX12_changeLine, mL_changeLine, mX6_writePair, mX5_report, mX1_report, mX12_reportChar, mL_reportChar, mX10_isFull, mX5_takeShape, mX10_add, mX12_learn, mL_learn, mX12_stampOf, mL_stampOf, mX10_drop, mX12_forgetStamp, mL_forgetStamp, mX4_stampPart, mX12_accept, mL_accept, mX1_noiseFor, mX12_leastNoise, mL_leastNoise, mX13_init, mX13_thrown, mX13_in, mX13_isPage, mX13_fails, mX13_rowOf, mX13_row, mX13_takes, mX13_edits, mX13_setRow, mX13_isOn, mX13_isWithin, mX13_fill, mX13_at, mX13_copy, mX13_merge, mX13_flip]
def xMs7 : List xMd := [mX13_looks, mX13_gathers, mX13_cleans, mX13_despeckle, mX13_components, mX13_hasInk, mX13_linesTo, mX13_lines, mX13_topOf, mX13_lineTop, mX13_bottomOf, mX13_lineBottom, mX13_words, mX13_ink, mX13_fingerprint, mX13_undo, mX13_type, mX13_clearText, mX13_letter, mX13_isSmall, mX13_wordOf, mX13_isFigure, mX13_firstWord, mX13_valueOf, mX13_readsSettings, mX13_isGiven, mX13_configure, mX13_setting, mX13_tells, mX13_tellsWord, mX13_tellsNumber, mX13_configChar, mX13_countOf, mX13_readsPattern, mX13_paste, mX13_addMask, mX13_removeMask, mX13_skews, mX13_countsCells, mX13_size]
def xMs8 : List xMd := [mX13_coarseCost, mX13_seeksCoarse, mX13_differ, mX13_seeksFine, mX13_registers, mX13_isMasked, mX13_isNear, mX13_blockOf, mX13_findsDifferences, mX13_isBlock, mX13_spreads, mX13_joins, mX13_lesser, mX13_greater, mX13_secondKey, mX13_firstKey, mX13_isAhead, mX13_leastRegion, mX13_endKey, mX13_ordersRegions, mX13_findsRegions, mX13_isOf, mX13_findsParts, mX13_widthOf, mX13_heightOf, mX13_areAlike, mX13_pairs, mX13_stampFor, mX13_lists, mX13_findsChanges, mX13_tellsTwo, mX13_reportsOne, mX13_reports, mX13_compare, mX13_told, mX13_shiftX, mX13_shiftY, mX13_skew, mX13_turned, mX13_mismatch]
def xMs9 : List xMd := [mX13_similarity, mX13_mismatchAt, mX13_blockDifference, mX13_regions, mX13_regionAt, mX13_lacks, mX13_regionLeft, mX13_regionTop, mX13_regionRight, mX13_regionBottom, mX13_missingPixels, mX13_addedPixels, mX13_changes, mX13_changeKind, mX13_changeRegion, mX13_changeTarget, mX13_moveX, mX13_moveY, mX13_changePixels, mX13_changeLine, mX13_reportChar, mX13_learn, mX13_stampOf, mX13_forgetStamp, mX13_accept, mX13_leastNoise, mL_law]
def xMs : List xMd := xMs0 ++ xMs1 ++ xMs2 ++ xMs3 ++ xMs4 ++ xMs5 ++ xMs6 ++ xMs7 ++ xMs8 ++ xMs9
