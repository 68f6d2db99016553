section
-- ===== PART A: goes FIRST, ahead of the names: the tables' words, and 'selects' of the private methods out of them =====
/-- a private method of a class that the tables say can be made, by its rows of tables_1 -/
def lw_okq (q : MethodName × Nat) : Prop := (q.1.cls ≠ "java/lang/invoke/MethodHandle" ∧ q.1.cls ≠ "java/lang/invoke/VarHandle") ∧ Cond.instantiable q.1.cls q.2 ∈ tables_1 ∧ Cond.privateMethod q.1 ∈ tables_1 ∧ Cond.instanceMethod q.1 ∈ tables_1
theorem lw_p0 : lw_okq (⟨"java/lang/Throwable", "fillInStackTrace", "(I)Ljava/lang/Throwable;"⟩, 6) := ⟨⟨by decide +kernel, by decide +kernel⟩, List.mem_of_getElem? (i := 276) (by decide +kernel), List.mem_of_getElem? (i := 274) (by decide +kernel), List.mem_of_getElem? (i := 275) (by decide +kernel)⟩
theorem lw_p1 : lw_okq (⟨"ConfigDesk", "openConfiguration", "(I)LConfigDesk$Configuration;"⟩, 10) := ⟨⟨by decide +kernel, by decide +kernel⟩, List.mem_of_getElem? (i := 18) (by decide +kernel), List.mem_of_getElem? (i := 330) (by decide +kernel), List.mem_of_getElem? (i := 331) (by decide +kernel)⟩
theorem lw_p2 : lw_okq (⟨"ConfigDesk", "exchange", "(IIIII)I"⟩, 10) := ⟨⟨by decide +kernel, by decide +kernel⟩, List.mem_of_getElem? (i := 18) (by decide +kernel), List.mem_of_getElem? (i := 420) (by decide +kernel), List.mem_of_getElem? (i := 421) (by decide +kernel)⟩
theorem lw_p3 : lw_okq (⟨"ConfigDesk", "configurationOf", "(I)LConfigDesk$Configuration;"⟩, 10) := ⟨⟨by decide +kernel, by decide +kernel⟩, List.mem_of_getElem? (i := 18) (by decide +kernel), List.mem_of_getElem? (i := 452) (by decide +kernel), List.mem_of_getElem? (i := 453) (by decide +kernel)⟩
theorem lw_p4 : lw_okq (⟨"ConfigDesk$EditList", "noteRemovals", "(ILConfigDesk$Section;)V"⟩, 3) := ⟨⟨by decide +kernel, by decide +kernel⟩, List.mem_of_getElem? (i := 32) (by decide +kernel), List.mem_of_getElem? (i := 461) (by decide +kernel), List.mem_of_getElem? (i := 462) (by decide +kernel)⟩
theorem lw_p5 : lw_okq (⟨"ConfigDesk$EditList", "noteWhole", "(IILConfigDesk$Entry;II)V"⟩, 3) := ⟨⟨by decide +kernel, by decide +kernel⟩, List.mem_of_getElem? (i := 32) (by decide +kernel), List.mem_of_getElem? (i := 466) (by decide +kernel), List.mem_of_getElem? (i := 467) (by decide +kernel)⟩
theorem lw_p6 : lw_okq (⟨"ConfigDesk$EditList", "note", "(IIIII)V"⟩, 3) := ⟨⟨by decide +kernel, by decide +kernel⟩, List.mem_of_getElem? (i := 32) (by decide +kernel), List.mem_of_getElem? (i := 471) (by decide +kernel), List.mem_of_getElem? (i := 472) (by decide +kernel)⟩
theorem lw_p7 : lw_okq (⟨"ConfigDesk$EditList", "notePlaces", "(ILConfigDesk$Section;)V"⟩, 3) := ⟨⟨by decide +kernel, by decide +kernel⟩, List.mem_of_getElem? (i := 32) (by decide +kernel), List.mem_of_getElem? (i := 480) (by decide +kernel), List.mem_of_getElem? (i := 481) (by decide +kernel)⟩
theorem lw_p8 : lw_okq (⟨"ConfigDesk$EditList", "noteSettings", "(ILConfigDesk$Section;LConfigDesk$Section;)V"⟩, 3) := ⟨⟨by decide +kernel, by decide +kernel⟩, List.mem_of_getElem? (i := 32) (by decide +kernel), List.mem_of_getElem? (i := 486) (by decide +kernel), List.mem_of_getElem? (i := 487) (by decide +kernel)⟩
theorem lw_p9 : lw_okq (⟨"ConfigDesk$EditList", "noteIfUnlike", "(IIIII)V"⟩, 3) := ⟨⟨by decide +kernel, by decide +kernel⟩, List.mem_of_getElem? (i := 32) (by decide +kernel), List.mem_of_getElem? (i := 490) (by decide +kernel), List.mem_of_getElem? (i := 491) (by decide +kernel)⟩
theorem lw_p10 : lw_okq (⟨"ConfigDesk$Edit", "setIn", "([II)Z"⟩, 6) := ⟨⟨by decide +kernel, by decide +kernel⟩, List.mem_of_getElem? (i := 82) (by decide +kernel), List.mem_of_getElem? (i := 510) (by decide +kernel), List.mem_of_getElem? (i := 511) (by decide +kernel)⟩
theorem lw_p11 : lw_okq (⟨"ConfigDesk$Edit", "addTo", "(LConfigDesk$Section;Z)Z"⟩, 6) := ⟨⟨by decide +kernel, by decide +kernel⟩, List.mem_of_getElem? (i := 82) (by decide +kernel), List.mem_of_getElem? (i := 515) (by decide +kernel), List.mem_of_getElem? (i := 516) (by decide +kernel)⟩
theorem lw_p12 : lw_okq (⟨"ConfigDesk$Edit", "removeFrom", "(LConfigDesk$Section;IZ)Z"⟩, 6) := ⟨⟨by decide +kernel, by decide +kernel⟩, List.mem_of_getElem? (i := 82) (by decide +kernel), List.mem_of_getElem? (i := 523) (by decide +kernel), List.mem_of_getElem? (i := 524) (by decide +kernel)⟩
theorem lw_p13 : lw_okq (⟨"ConfigDesk$Edit", "moveIn", "(LConfigDesk$Section;IZ)Z"⟩, 6) := ⟨⟨by decide +kernel, by decide +kernel⟩, List.mem_of_getElem? (i := 82) (by decide +kernel), List.mem_of_getElem? (i := 532) (by decide +kernel), List.mem_of_getElem? (i := 533) (by decide +kernel)⟩
theorem lw_p14 : lw_okq (⟨"ConfigDesk", "brokenRules", "(LConfigDesk$Configuration;)I"⟩, 10) := ⟨⟨by decide +kernel, by decide +kernel⟩, List.mem_of_getElem? (i := 18) (by decide +kernel), List.mem_of_getElem? (i := 553) (by decide +kernel), List.mem_of_getElem? (i := 554) (by decide +kernel)⟩
theorem lw_p15 : lw_okq (⟨"ConfigDesk$Rule", "isKeptAt", "(LConfigDesk$Configuration;I)Z"⟩, 4) := ⟨⟨by decide +kernel, by decide +kernel⟩, List.mem_of_getElem? (i := 165) (by decide +kernel), List.mem_of_getElem? (i := 561) (by decide +kernel), List.mem_of_getElem? (i := 562) (by decide +kernel)⟩
def lw_privs_1 : List (MethodName × Nat) := [(⟨"java/lang/Throwable", "fillInStackTrace", "(I)Ljava/lang/Throwable;"⟩, 6), (⟨"ConfigDesk", "openConfiguration", "(I)LConfigDesk$Configuration;"⟩, 10), (⟨"ConfigDesk", "exchange", "(IIIII)I"⟩, 10), (⟨"ConfigDesk", "configurationOf", "(I)LConfigDesk$Configuration;"⟩, 10), (⟨"ConfigDesk$EditList", "noteRemovals", "(ILConfigDesk$Section;)V"⟩, 3), (⟨"ConfigDesk$EditList", "noteWhole", "(IILConfigDesk$Entry;II)V"⟩, 3), (⟨"ConfigDesk$EditList", "note", "(IIIII)V"⟩, 3), (⟨"ConfigDesk$EditList", "notePlaces", "(ILConfigDesk$Section;)V"⟩, 3), (⟨"ConfigDesk$EditList", "noteSettings", "(ILConfigDesk$Section;LConfigDesk$Section;)V"⟩, 3), (⟨"ConfigDesk$EditList", "noteIfUnlike", "(IIIII)V"⟩, 3), (⟨"ConfigDesk$Edit", "setIn", "([II)Z"⟩, 6), (⟨"ConfigDesk$Edit", "addTo", "(LConfigDesk$Section;Z)Z"⟩, 6), (⟨"ConfigDesk$Edit", "removeFrom", "(LConfigDesk$Section;IZ)Z"⟩, 6), (⟨"ConfigDesk$Edit", "moveIn", "(LConfigDesk$Section;IZ)Z"⟩, 6), (⟨"ConfigDesk", "brokenRules", "(LConfigDesk$Configuration;)I"⟩, 10), (⟨"ConfigDesk$Rule", "isKeptAt", "(LConfigDesk$Configuration;I)Z"⟩, 4)]
theorem lw_r1 : ∀ q ∈ lw_privs_1, lw_okq q := List.forall_mem_cons.mpr ⟨lw_p0, List.forall_mem_cons.mpr ⟨lw_p1, List.forall_mem_cons.mpr ⟨lw_p2, List.forall_mem_cons.mpr ⟨lw_p3, List.forall_mem_cons.mpr ⟨lw_p4, List.forall_mem_cons.mpr ⟨lw_p5, List.forall_mem_cons.mpr ⟨lw_p6, List.forall_mem_cons.mpr ⟨lw_p7, List.forall_mem_cons.mpr ⟨lw_p8, List.forall_mem_cons.mpr ⟨lw_p9, List.forall_mem_cons.mpr ⟨lw_p10, List.forall_mem_cons.mpr ⟨lw_p11, List.forall_mem_cons.mpr ⟨lw_p12, List.forall_mem_cons.mpr ⟨lw_p13, List.forall_mem_cons.mpr ⟨lw_p14, List.forall_mem_cons.mpr ⟨lw_p15, fun _ h => absurd h List.not_mem_nil⟩⟩⟩⟩⟩⟩⟩⟩⟩⟩⟩⟩⟩⟩⟩⟩
theorem lw_p16 : lw_okq (⟨"ConfigDesk$Rule", "shownAt", "(LConfigDesk$Configuration;I)I"⟩, 4) := ⟨⟨by decide +kernel, by decide +kernel⟩, List.mem_of_getElem? (i := 165) (by decide +kernel), List.mem_of_getElem? (i := 565) (by decide +kernel), List.mem_of_getElem? (i := 566) (by decide +kernel)⟩
theorem lw_p17 : lw_okq (⟨"ConfigDesk$Rule", "isShownAhead", "(LConfigDesk$Configuration;II)Z"⟩, 4) := ⟨⟨by decide +kernel, by decide +kernel⟩, List.mem_of_getElem? (i := 165) (by decide +kernel), List.mem_of_getElem? (i := 574) (by decide +kernel), List.mem_of_getElem? (i := 575) (by decide +kernel)⟩
theorem lw_p18 : lw_okq (⟨"ConfigDesk", "addVersion", "(LConfigDesk$Configuration;)V"⟩, 10) := ⟨⟨by decide +kernel, by decide +kernel⟩, List.mem_of_getElem? (i := 18) (by decide +kernel), List.mem_of_getElem? (i := 588) (by decide +kernel), List.mem_of_getElem? (i := 589) (by decide +kernel)⟩
theorem lw_p19 : lw_okq (⟨"ConfigDesk", "sectionOf", "(II)LConfigDesk$Section;"⟩, 10) := ⟨⟨by decide +kernel, by decide +kernel⟩, List.mem_of_getElem? (i := 18) (by decide +kernel), List.mem_of_getElem? (i := 614) (by decide +kernel), List.mem_of_getElem? (i := 615) (by decide +kernel)⟩
theorem lw_p20 : lw_okq (⟨"ConfigDesk", "entryOf", "(III)LConfigDesk$Entry;"⟩, 10) := ⟨⟨by decide +kernel, by decide +kernel⟩, List.mem_of_getElem? (i := 18) (by decide +kernel), List.mem_of_getElem? (i := 625) (by decide +kernel), List.mem_of_getElem? (i := 626) (by decide +kernel)⟩
theorem lw_p21 : lw_okq (⟨"ConfigDeskModel", "copies", "(II)V"⟩, 18) := ⟨⟨by decide +kernel, by decide +kernel⟩, List.mem_of_getElem? (i := 678) (by decide +kernel), List.mem_of_getElem? (i := 753) (by decide +kernel), List.mem_of_getElem? (i := 754) (by decide +kernel)⟩
theorem lw_p22 : lw_okq (⟨"ConfigDeskModel", "find", "(III)I"⟩, 18) := ⟨⟨by decide +kernel, by decide +kernel⟩, List.mem_of_getElem? (i := 678) (by decide +kernel), List.mem_of_getElem? (i := 767) (by decide +kernel), List.mem_of_getElem? (i := 768) (by decide +kernel)⟩
theorem lw_p23 : lw_okq (⟨"ConfigDeskModel", "many", "(II)I"⟩, 18) := ⟨⟨by decide +kernel, by decide +kernel⟩, List.mem_of_getElem? (i := 678) (by decide +kernel), List.mem_of_getElem? (i := 771) (by decide +kernel), List.mem_of_getElem? (i := 772) (by decide +kernel)⟩
theorem lw_p24 : lw_okq (⟨"ConfigDeskModel", "fails", "(I)I"⟩, 18) := ⟨⟨by decide +kernel, by decide +kernel⟩, List.mem_of_getElem? (i := 678) (by decide +kernel), List.mem_of_getElem? (i := 781) (by decide +kernel), List.mem_of_getElem? (i := 782) (by decide +kernel)⟩
theorem lw_p25 : lw_okq (⟨"ConfigDeskModel", "puts", "(IIII)V"⟩, 18) := ⟨⟨by decide +kernel, by decide +kernel⟩, List.mem_of_getElem? (i := 678) (by decide +kernel), List.mem_of_getElem? (i := 785) (by decide +kernel), List.mem_of_getElem? (i := 786) (by decide +kernel)⟩
theorem lw_p26 : lw_okq (⟨"ConfigDeskModel", "entry", "(IIII)I"⟩, 18) := ⟨⟨by decide +kernel, by decide +kernel⟩, List.mem_of_getElem? (i := 678) (by decide +kernel), List.mem_of_getElem? (i := 793) (by decide +kernel), List.mem_of_getElem? (i := 794) (by decide +kernel)⟩
theorem lw_p27 : lw_okq (⟨"ConfigDeskModel", "takes", "(III)V"⟩, 18) := ⟨⟨by decide +kernel, by decide +kernel⟩, List.mem_of_getElem? (i := 678) (by decide +kernel), List.mem_of_getElem? (i := 797) (by decide +kernel), List.mem_of_getElem? (i := 798) (by decide +kernel)⟩
theorem lw_p28 : lw_okq (⟨"ConfigDeskModel", "shifts", "(IIII)V"⟩, 18) := ⟨⟨by decide +kernel, by decide +kernel⟩, List.mem_of_getElem? (i := 678) (by decide +kernel), List.mem_of_getElem? (i := 805) (by decide +kernel), List.mem_of_getElem? (i := 806) (by decide +kernel)⟩
theorem lw_p29 : lw_okq (⟨"ConfigDeskModel", "slot", "(I)I"⟩, 18) := ⟨⟨by decide +kernel, by decide +kernel⟩, List.mem_of_getElem? (i := 678) (by decide +kernel), List.mem_of_getElem? (i := 848) (by decide +kernel), List.mem_of_getElem? (i := 849) (by decide +kernel)⟩
theorem lw_p30 : lw_okq (⟨"ConfigDeskModel", "lists", "(II)V"⟩, 18) := ⟨⟨by decide +kernel, by decide +kernel⟩, List.mem_of_getElem? (i := 678) (by decide +kernel), List.mem_of_getElem? (i := 852) (by decide +kernel), List.mem_of_getElem? (i := 853) (by decide +kernel)⟩
theorem lw_p31 : lw_okq (⟨"ConfigDeskModel", "notes", "(IIIIII)V"⟩, 18) := ⟨⟨by decide +kernel, by decide +kernel⟩, List.mem_of_getElem? (i := 678) (by decide +kernel), List.mem_of_getElem? (i := 856) (by decide +kernel), List.mem_of_getElem? (i := 857) (by decide +kernel)⟩
def lw_privs_2 : List (MethodName × Nat) := [(⟨"ConfigDesk$Rule", "shownAt", "(LConfigDesk$Configuration;I)I"⟩, 4), (⟨"ConfigDesk$Rule", "isShownAhead", "(LConfigDesk$Configuration;II)Z"⟩, 4), (⟨"ConfigDesk", "addVersion", "(LConfigDesk$Configuration;)V"⟩, 10), (⟨"ConfigDesk", "sectionOf", "(II)LConfigDesk$Section;"⟩, 10), (⟨"ConfigDesk", "entryOf", "(III)LConfigDesk$Entry;"⟩, 10), (⟨"ConfigDeskModel", "copies", "(II)V"⟩, 18), (⟨"ConfigDeskModel", "find", "(III)I"⟩, 18), (⟨"ConfigDeskModel", "many", "(II)I"⟩, 18), (⟨"ConfigDeskModel", "fails", "(I)I"⟩, 18), (⟨"ConfigDeskModel", "puts", "(IIII)V"⟩, 18), (⟨"ConfigDeskModel", "entry", "(IIII)I"⟩, 18), (⟨"ConfigDeskModel", "takes", "(III)V"⟩, 18), (⟨"ConfigDeskModel", "shifts", "(IIII)V"⟩, 18), (⟨"ConfigDeskModel", "slot", "(I)I"⟩, 18), (⟨"ConfigDeskModel", "lists", "(II)V"⟩, 18), (⟨"ConfigDeskModel", "notes", "(IIIIII)V"⟩, 18)]
theorem lw_r2 : ∀ q ∈ lw_privs_2, lw_okq q := List.forall_mem_cons.mpr ⟨lw_p16, List.forall_mem_cons.mpr ⟨lw_p17, List.forall_mem_cons.mpr ⟨lw_p18, List.forall_mem_cons.mpr ⟨lw_p19, List.forall_mem_cons.mpr ⟨lw_p20, List.forall_mem_cons.mpr ⟨lw_p21, List.forall_mem_cons.mpr ⟨lw_p22, List.forall_mem_cons.mpr ⟨lw_p23, List.forall_mem_cons.mpr ⟨lw_p24, List.forall_mem_cons.mpr ⟨lw_p25, List.forall_mem_cons.mpr ⟨lw_p26, List.forall_mem_cons.mpr ⟨lw_p27, List.forall_mem_cons.mpr ⟨lw_p28, List.forall_mem_cons.mpr ⟨lw_p29, List.forall_mem_cons.mpr ⟨lw_p30, List.forall_mem_cons.mpr ⟨lw_p31, fun _ h => absurd h List.not_mem_nil⟩⟩⟩⟩⟩⟩⟩⟩⟩⟩⟩⟩⟩⟩⟩⟩
theorem lw_p32 : lw_okq (⟨"ConfigDeskModel", "settles", "(III)V"⟩, 18) := ⟨⟨by decide +kernel, by decide +kernel⟩, List.mem_of_getElem? (i := 678) (by decide +kernel), List.mem_of_getElem? (i := 860) (by decide +kernel), List.mem_of_getElem? (i := 861) (by decide +kernel)⟩
theorem lw_p33 : lw_okq (⟨"ConfigDeskModel", "doesAll", "(ZZ)Z"⟩, 18) := ⟨⟨by decide +kernel, by decide +kernel⟩, List.mem_of_getElem? (i := 678) (by decide +kernel), List.mem_of_getElem? (i := 864) (by decide +kernel), List.mem_of_getElem? (i := 865) (by decide +kernel)⟩
theorem lw_p34 : lw_okq (⟨"ConfigDeskModel", "does", "(IIZZ)Z"⟩, 18) := ⟨⟨by decide +kernel, by decide +kernel⟩, List.mem_of_getElem? (i := 678) (by decide +kernel), List.mem_of_getElem? (i := 868) (by decide +kernel), List.mem_of_getElem? (i := 869) (by decide +kernel)⟩
theorem lw_p35 : lw_okq (⟨"ConfigDeskModel", "isThere", "(I)Z"⟩, 18) := ⟨⟨by decide +kernel, by decide +kernel⟩, List.mem_of_getElem? (i := 678) (by decide +kernel), List.mem_of_getElem? (i := 880) (by decide +kernel), List.mem_of_getElem? (i := 881) (by decide +kernel)⟩
theorem lw_p36 : lw_okq (⟨"ConfigDeskModel", "faultsOf", "(I)I"⟩, 18) := ⟨⟨by decide +kernel, by decide +kernel⟩, List.mem_of_getElem? (i := 678) (by decide +kernel), List.mem_of_getElem? (i := 884) (by decide +kernel), List.mem_of_getElem? (i := 885) (by decide +kernel)⟩
theorem lw_p37 : lw_okq (⟨"ConfigDeskModel", "isKept", "(II)Z"⟩, 18) := ⟨⟨by decide +kernel, by decide +kernel⟩, List.mem_of_getElem? (i := 678) (by decide +kernel), List.mem_of_getElem? (i := 888) (by decide +kernel), List.mem_of_getElem? (i := 889) (by decide +kernel)⟩
theorem lw_p38 : lw_okq (⟨"ConfigDeskModel", "shows", "(IIII)I"⟩, 18) := ⟨⟨by decide +kernel, by decide +kernel⟩, List.mem_of_getElem? (i := 678) (by decide +kernel), List.mem_of_getElem? (i := 892) (by decide +kernel), List.mem_of_getElem? (i := 893) (by decide +kernel)⟩
theorem lw_p39 : lw_okq (⟨"ConfigDeskModel", "isEntry", "(III)Z"⟩, 18) := ⟨⟨by decide +kernel, by decide +kernel⟩, List.mem_of_getElem? (i := 678) (by decide +kernel), List.mem_of_getElem? (i := 924) (by decide +kernel), List.mem_of_getElem? (i := 925) (by decide +kernel)⟩
theorem lw_p40 : lw_okq (⟨"ConfigDeskModel", "areThere", "(II)Z"⟩, 18) := ⟨⟨by decide +kernel, by decide +kernel⟩, List.mem_of_getElem? (i := 678) (by decide +kernel), List.mem_of_getElem? (i := 940) (by decide +kernel), List.mem_of_getElem? (i := 941) (by decide +kernel)⟩
def lw_privs_3 : List (MethodName × Nat) := [(⟨"ConfigDeskModel", "settles", "(III)V"⟩, 18), (⟨"ConfigDeskModel", "doesAll", "(ZZ)Z"⟩, 18), (⟨"ConfigDeskModel", "does", "(IIZZ)Z"⟩, 18), (⟨"ConfigDeskModel", "isThere", "(I)Z"⟩, 18), (⟨"ConfigDeskModel", "faultsOf", "(I)I"⟩, 18), (⟨"ConfigDeskModel", "isKept", "(II)Z"⟩, 18), (⟨"ConfigDeskModel", "shows", "(IIII)I"⟩, 18), (⟨"ConfigDeskModel", "isEntry", "(III)Z"⟩, 18), (⟨"ConfigDeskModel", "areThere", "(II)Z"⟩, 18)]
theorem lw_r3 : ∀ q ∈ lw_privs_3, lw_okq q := List.forall_mem_cons.mpr ⟨lw_p32, List.forall_mem_cons.mpr ⟨lw_p33, List.forall_mem_cons.mpr ⟨lw_p34, List.forall_mem_cons.mpr ⟨lw_p35, List.forall_mem_cons.mpr ⟨lw_p36, List.forall_mem_cons.mpr ⟨lw_p37, List.forall_mem_cons.mpr ⟨lw_p38, List.forall_mem_cons.mpr ⟨lw_p39, List.forall_mem_cons.mpr ⟨lw_p40, fun _ h => absurd h List.not_mem_nil⟩⟩⟩⟩⟩⟩⟩⟩⟩
def lw_privs : List (MethodName × Nat) := lw_privs_1 ++ (lw_privs_2 ++ (lw_privs_3))
def lw_tbl : List Cond := k2_sels lw_privs ++ tables_1
theorem lw_privs_ok : ∀ q ∈ lw_privs, lw_okq q := by
  show ∀ q ∈ lw_privs_1 ++ (lw_privs_2 ++ (lw_privs_3)), lw_okq q
  exact List.forall_mem_append.mpr ⟨lw_r1, List.forall_mem_append.mpr ⟨lw_r2, lw_r3⟩⟩
-- ===== end of PART A; then your names; then what follows =====
/-! ===== BEGIN words of one list among another's, by their places ===== -/
theorem goodIn_r {big : List Cond} (ws : List Cond) (ps : List Nat) (hp : ws = ps.filterMap (fun i => big[i]?)) (h : ws.all goodWord = true) : GoodIn big ws := by
  intro w hw
  have h1 := List.all_eq_true.mp h w hw
  rw [hp] at hw
  obtain ⟨i, -, hi⟩ := List.mem_filterMap.mp hw
  have hm : w ∈ big := by first | exact List.mem_of_getElem? hi | exact List.getElem?_mem hi
  exact ⟨hm, good_of_word h1⟩
theorem goodIn_app {big a b : List Cond} (ha : GoodIn big a) (hb : GoodIn big b) : GoodIn big (a ++ b) := fun w h => (List.mem_append.mp h).elim (ha w) (hb w)
theorem goodIn_ca {big a b : List Cond} {c : Cond} (ha : GoodIn big (c :: a)) (hb : GoodIn big b) : GoodIn big (c :: (a ++ b)) := fun w h => (List.mem_cons.mp h).elim (fun e => ha w (List.mem_cons.mpr (Or.inl e))) (fun h => (List.mem_append.mp h).elim (fun h => ha w (List.mem_cons.mpr (Or.inr h))) (hb w))
theorem goodIn_sub {big ws : List Cond} (hm : ∀ w ∈ ws, w ∈ big) (h : ws.all goodWord = true) : GoodIn big ws := fun w hw => ⟨hm w hw, good_of_word (List.all_eq_true.mp h w hw)⟩
/-! ===== END ===== -/

/-! ===== BEGIN new T[n][m]: the outer array a place, the inner ones among the pooled ===== -/
/-- f, but v at every address of l -/
def vr_up {α : Type} (f : Nat → α) (l : List Nat) (v : α) : Nat → α := fun a => if a ∈ l then v else f a
theorem vr_up_in {α : Type} {f : Nat → α} {l : List Nat} {v : α} {a : Nat} (h : a ∈ l) : vr_up f l v a = v := if_pos h
theorem vr_up_ne {α : Type} {f : Nat → α} {l : List Nat} {v : α} {a : Nat} (h : a ∉ l) : vr_up f l v a = f a := if_neg h
theorem vr_rows {L l : List Nat} {f : Nat → va_E} {e : va_E} (h : ∀ a, a ∈ l → a ∉ L) : va_pl L f ++ l.map (fun a => (a, e)) = va_pl (L ++ l) (vr_up f l e) := by
  unfold va_pl
  rw [List.map_append]
  congr 1
  · apply List.map_congr_left
    intro a ha
    rw [vr_up_ne (fun q => h a q ha)]
  · apply List.map_congr_left
    intro a ha
    rw [vr_up_in ha]
theorem vr_lay {X rows : va_W} {x : Nat × va_E} {pl : va_W} {D : va_G} {cl : List vw_C} {H : Heap} (hP : va_P D cl (((X ++ pl) ++ [x]) ++ rows) H) : va_P D cl ((X ++ [x]) ++ (pl ++ rows)) H := by
  rw [List.append_assoc (X ++ pl)] at hP
  have h := va_P.swap hP
  rw [← List.append_assoc X] at h
  have h2 := va_P.swap h
  rw [List.append_assoc (X ++ [x])] at h2
  exact h2
theorem vr_layD {X rows : va_W} {x : Nat × va_E} {pl : va_W} {A : Nat → Prop} (hD : va_D A (((X ++ pl) ++ [x]) ++ rows)) : va_D A ((X ++ [x]) ++ (pl ++ rows)) := by
  rw [List.append_assoc (X ++ pl)] at hD
  have h := va_D.swap hD
  rw [← List.append_assoc X] at h
  have h2 := va_D.swap h
  rw [List.append_assoc (X ++ [x])] at h2
  exact h2
theorem vr_outer (c : ClassId) (N h0 : Nat) : ∀ i : Nat, Jvm.Free.Multi.outerC c N h0 i = arrV c N (fun j => va_rf (if j < i then some (h0 + 1 + j) else none))
  | 0 => by
    show ({ cls := c, slots := Array.replicate N .null, vm := .none } : Cell) = _
    rw [arrV_new]
    refine congrArg (arrV c N) (funext fun j => ?_)
    simp [va_rf]
  | i + 1 => by
    show (Jvm.Free.Multi.outerC c N h0 i).setSlot i (.ref (h0 + 1 + i)) = _
    rw [vr_outer c N h0 i, arrV_store]
    refine congrArg (arrV c N) (funext fun j => ?_)
    by_cases e : j = i
    · subst e
      simp [updV, va_rf]
    · by_cases h : j < i
      · simp [updV, e, h, Nat.lt_succ_of_lt h]
      · simp [updV, e, h, show ¬ j < i + 1 by omega]
/-- the tables' word of arrays of arrays (the printed names use it and don't define it) -/
def va_AOA (t : FieldType) (U : State) : Prop := (Cond.arrayOver (.array t)).before #[] U = true
theorem va_AOA.use {t : FieldType} {A : Array Value} {U : State} (h : va_AOA t U) : (Cond.arrayOver (.array t)).before A U = true := h
section VGM
variable {p : Program} {l : Launch} {e : Env} {R : Room} {s : State} {m : MethodId} {args : Array Value} {below : List Frame} {meth : Method} {c : Code} {H : Heap} {locs : List Loc} {cells slots : Nat} {Q : State → Prop}
variable {cc : ByteArray} {pc : Nat} {ls : Array Slot} {rest : List Value} {D : va_G} {cl : List vw_C} {A : Nat → Prop} {a : Nat} {tys : List (ClassId × FieldType)} {ws : va_W} {H0 : Heap}
theorem va_mna {X : va_W} {L : List Nat} {f : Nat → va_E} {cc : ByteArray} (hexec : p.tables.exec = Jvm.exec) (hb : c.code = cc) {own : String} {index : Nat} {ty : FieldType} {cy : ClassId} (hown : s.vm.findClass own = some m.cls) (hclink : (Cond.classLink own index ("[" ++ (FieldType.array ty).toString)).before args s = true) (hover : va_AOA ty s) (harr : (Cond.arrayClass ty).before args s = true) (hcy : s.vm.findClass (FieldType.array ty).toString = some cy)
    (hK : va_K D cl tys s) (hP : va_P D cl (X ++ va_pl L f) H) (hD : va_D A (X ++ va_pl L f)) (hS : va_S A H0 H locs) (hA : ∀ q, H0.size ≤ q → A q) {n k : Int32} {N' K' : Nat} {z : vp_A} (hn : ¬ n < 0) (hk : ¬ k < 0) (hN : n.toNatClampNeg = N') (hM : k.toNatClampNeg = K')
    (hb1 : N' * 4 ≤ 536870912) (hb2 : K' * componentBytes ty ≤ 536870912) (hb3 : K' ≤ 536870912) (hdf : fits ty (defaultValue ty) = true) (hdd : (defaultValue ty).isDefault = true) (hcells : cells + (1 + N') ≤ R.cells) (hslots : slots + (N' + N' * K') ≤ R.slots) (hz : ∀ c : ClassId, Jvm.Free.Multi.innerC c K' (defaultValue ty) = vp_cell c z) (hdg : decode cc pc = .ok (.multianewarray index 2, 4))
    (kk : ∀ (q : Nat) (r : Nat → Nat) (cA : ClassId) (H1 : Heap), (∀ i j : Nat, i < N' → j < N' → r i = r j → i = j) → (∀ i : Nat, i < N' → r i ∉ L) → va_K D cl (tys ++ [(cA, .array ty)]) s →
      va_P D cl ((X ++ [(q, .inl (cA, N', .inr (.inr (.inr (.inr (fun i => if i < N' then some (r i) else none))))))]) ++ va_pl (L ++ (List.range N').map r) (vr_up f ((List.range N').map r) (.inl (cy, z)))) H1 → va_D A ((X ++ [(q, .inl (cA, N', .inr (.inr (.inr (.inr (fun i => if i < N' then some (r i) else none))))))]) ++ va_pl (L ++ (List.range N').map r) (vr_up f ((List.range N').map r) (.inl (cy, z)))) → va_S A H0 H1 locs →
      W p l e R s m args below meth c H1 locs (cells + 1 + N') (slots + N' + N' * K') Q (F0 m (pc + 4) ls (.ref q :: rest))) : W p l e R s m args below meth c H locs cells slots Q (F0 m pc ls (.int k :: .int n :: rest)) := by
  subst hN
  subst hM
  intro T hT Xs
  obtain ⟨vm₁, cA, comp, -, fA, fC, hO, -, X', step⟩ := Xs.multianewarray2F hexec hown hclink (va_AOA.use hover) harr (g := F0 m pc ls (.int k :: .int n :: rest)) rfl (by rw [hb]; exact hdg) rfl hn hk hb1 hb2 hb3 hdf hdd hcells hslots
  have ec : some cy = some comp := hcy.symm.trans fC
  cases ec
  generalize hF : Jvm.Free.Multi.fill (T.setVm vm₁) cA cy n.toNatClampNeg k.toNatClampNeg (defaultValue ty) n.toNatClampNeg = F at X' step
  have hTh : (T.setVm vm₁).heap = H := hT
  obtain ⟨f1, f2, -, -⟩ := Jvm.Free.Multi.fill_facts (T.setVm vm₁) cA cy n.toNatClampNeg k.toNatClampNeg (defaultValue ty) n.toNatClampNeg
  rw [hF, hTh] at f1 f2
  have hold : ∀ x : Nat, x < H.size → F.heap[x]? = H[x]? := fun x hx => by
    have := Jvm.Free.Multi.fill_old (T.setVm vm₁) cA cy n.toNatClampNeg k.toNatClampNeg (defaultValue ty) (a := x) (by rw [hTh]; exact hx) n.toNatClampNeg
    rw [hF, hTh] at this
    exact this
  have hrow : ∀ j : Nat, j < n.toNatClampNeg → F.heap[H.size + 1 + j]? = some (vp_cell cy z) := fun j hj => by
    have := Jvm.Free.Multi.fill_inner (T.setVm vm₁) cA cy n.toNatClampNeg k.toNatClampNeg (defaultValue ty) n.toNatClampNeg j hj
    rw [hF, hTh, hz] at this
    exact this
  have hout : Jvm.Free.Multi.outerC cA n.toNatClampNeg H.size n.toNatClampNeg = vp_cell cA (n.toNatClampNeg, .inr (.inr (.inr (.inr (fun i => if i < n.toNatClampNeg then some (H.size + 1 + i) else none))))) := by
    rw [vp_cell_q]
    exact vr_outer cA n.toNatClampNeg H.size n.toNatClampNeg
  rw [hout] at f2
  have hlt : ∀ a, a ∈ L → a < H.size := fun a ha => by
    obtain ⟨k9, hk9⟩ := va_pl_get (X := X) (f := f) ha
    exact (hP k9 _ hk9).lt
  have hnl : ∀ i : Nat, i < n.toNatClampNeg → H.size + 1 + i ∉ L := fun i _ h => by
    have := hlt _ h
    omega
  have hnm : ∀ a, a ∈ (List.range n.toNatClampNeg).map (fun i => H.size + 1 + i) → a ∉ L := fun a ha h => by
    obtain ⟨i, -, rfl⟩ := List.mem_map.mp ha
    have := hlt _ h
    omega
  have hP0 : va_P D cl (X ++ va_pl L f) F.heap := hP.kept (fun k9 x hx => hold x.1 ((hP k9 x hx).lt))
  have hP1 : va_P D cl ((X ++ va_pl L f) ++ [(H.size, .inl (cA, n.toNatClampNeg, .inr (.inr (.inr (.inr (fun i => if i < n.toNatClampNeg then some (H.size + 1 + i) else none))))))]) F.heap := hP0.app (fun k9 x hx => by
    have h0 : k9 < 1 := (List.getElem?_eq_some_iff.mp hx).1
    rw [show k9 = 0 by omega] at hx
    cases hx
    exact f2)
  have hP2 : va_P D cl (((X ++ va_pl L f) ++ [(H.size, .inl (cA, n.toNatClampNeg, .inr (.inr (.inr (.inr (fun i => if i < n.toNatClampNeg then some (H.size + 1 + i) else none))))))]) ++ ((List.range n.toNatClampNeg).map (fun i => H.size + 1 + i)).map (fun a => (a, .inl (cy, z)))) F.heap := hP1.app (fun k9 x hx => by
    obtain ⟨a, ha, rfl⟩ := List.mem_map.mp (List.mem_of_getElem? hx)
    obtain ⟨i, hi, rfl⟩ := List.mem_map.mp ha
    exact hrow i (List.mem_range.mp hi))
  have hD2 : va_D A (((X ++ va_pl L f) ++ [(H.size, .inl (cA, n.toNatClampNeg, .inr (.inr (.inr (.inr (fun i => if i < n.toNatClampNeg then some (H.size + 1 + i) else none))))))]) ++ ((List.range n.toNatClampNeg).map (fun i => H.size + 1 + i)).map (fun a => (a, .inl (cy, z)))) := by
    have hD1 := hD.push (e := .inl (cA, n.toNatClampNeg, .inr (.inr (.inr (.inr (fun i => if i < n.toNatClampNeg then some (H.size + 1 + i) else none)))))) hP rfl (hA _ hS.1)
    generalize hW1 : (X ++ va_pl L f) ++ [(H.size, .inl (cA, n.toNatClampNeg, .inr (.inr (.inr (.inr (fun i => if i < n.toNatClampNeg then some (H.size + 1 + i) else none))))))] = W1 at hD1 hP1 ⊢
    have hle : ∀ (k9 : Nat) (x : Nat × va_E), W1[k9]? = some x → x.1 ≤ H.size := fun k9 x hx => by
      rw [← hW1] at hx
      by_cases hl : k9 < (X ++ va_pl L f).length
      · rw [List.getElem?_append_left hl] at hx
        exact Nat.le_of_lt ((hP k9 x hx).lt)
      · rw [List.getElem?_append_right (by omega)] at hx
        have h0 : k9 - (X ++ va_pl L f).length < 1 := (List.getElem?_eq_some_iff.mp hx).1
        rw [show k9 - (X ++ va_pl L f).length = 0 by omega] at hx
        cases hx
        exact Nat.le_refl _
    have hr : ∀ (k9 : Nat) (x : Nat × va_E), (((List.range n.toNatClampNeg).map (fun i => H.size + 1 + i)).map (fun a => ((a, .inl (cy, z)) : Nat × va_E)))[k9]? = some x → x.1 = H.size + 1 + k9 := fun k9 x hx => by
      rw [List.getElem?_map, List.getElem?_map] at hx
      by_cases h9 : k9 < n.toNatClampNeg
      · rw [List.getElem?_range h9] at hx
        cases hx
        rfl
      · have hn0 : (List.range n.toNatClampNeg)[k9]? = none := List.getElem?_eq_none (by rw [List.length_range]; omega)
        rw [hn0] at hx
        cases hx
    refine ⟨fun i j x y hi hj hxy => ?_, fun k9 x hx => ?_⟩
    · by_cases h1 : i < W1.length <;> by_cases h2 : j < W1.length
      · rw [List.getElem?_append_left h1] at hi
        rw [List.getElem?_append_left h2] at hj
        exact hD1.1 i j x y hi hj hxy
      · rw [List.getElem?_append_left h1] at hi
        rw [List.getElem?_append_right (by omega)] at hj
        have := hle _ _ hi
        have := hr _ _ hj
        omega
      · rw [List.getElem?_append_right (by omega)] at hi
        rw [List.getElem?_append_left h2] at hj
        have := hle _ _ hj
        have := hr _ _ hi
        omega
      · rw [List.getElem?_append_right (by omega)] at hi hj
        have := hr _ _ hi
        have := hr _ _ hj
        omega
    · by_cases h1 : k9 < W1.length
      · rw [List.getElem?_append_left h1] at hx
        exact hD1.2 k9 x hx
      · rw [List.getElem?_append_right (by omega)] at hx
        have := hr _ _ hx
        exact hA _ (by have := hS.1; omega)
  have hAr : ArrOfT s cA (.array ty) := fun N9 z9 => by
    obtain ⟨-, k9, hk9, cm9, hkk9⟩ := (hO 0 0 0).1
    exact ⟨(fun q hq => by cases hq), k9, hk9, cm9, hkk9⟩
  have hK2 : va_K D cl (tys ++ [(cA, .array ty)]) s := ⟨hK.1, fun k9 x hx => by
    by_cases hl : k9 < tys.length
    · rw [List.getElem?_append_left hl] at hx
      exact hK.2 k9 x hx
    · rw [List.getElem?_append_right (by omega)] at hx
      have h0 : k9 - tys.length < 1 := (List.getElem?_eq_some_iff.mp hx).1
      rw [show k9 - tys.length = 0 by omega] at hx
      cases hx
      exact ⟨hAr, fA⟩⟩
  obtain ⟨t, a1, b1⟩ := kk H.size (fun i => H.size + 1 + i) cA F.heap (fun i j _ _ h => by have h9 : H.size + 1 + i = H.size + 1 + j := h; omega) hnl hK2 (by rw [← vr_rows hnm]; exact vr_lay hP2) (by rw [← vr_rows hnm]; exact vr_layD hD2) ⟨by rw [f1]; have := hS.1; omega, fun x h1 h2 => (hold x (Nat.lt_of_lt_of_le h1 hS.1)).trans (hS.2.1 x h1 h2), hS.2.2⟩ F rfl X'
  refine ⟨t, step t ?_, b1⟩
  have e : T.heap.size = H.size := by rw [hT]
  rw [e]
  exact a1
end VGM
/-! ===== END ===== -/

/-! ===== BEGIN exceptions that leave a method, and their catching by the caller (launches without stack traces) ===== -/
section VXA
/-! The laws vx_back, vx_callV, vx_callS, vx_callSW, vx_throw0, vx_throwS follow proofs of the library, with one case more: JvmDerived/Free/Laws.lean (Back.of_free), Shelf42/LK1.lean (callV, callS), Shelf/KitTraced.lean (throwNew0V, throwNewS). -/
/-- where a method has thrown q: the class by its name, the cell, what was written, the world -/
def vx_T (XC : String → State → State → Prop) (st : State) (q : Addr) (t : State) (mc ms : Nat) (free : Addr → Prop) : Prop :=
  ∃ (E : String) (ce : Cell) (L : List Loc), XC E st t ∧ t.heap[q]? = some ce ∧ ce.vm = .none ∧ st.vm.findClass E = some ce.cls ∧ st.WarmedH t.vm ∧ st.sameButNew ({ t with vm := st.vm } : State) L mc ms ∧ ∀ z ∈ L, free z.base
def vx_Q (Qc : Array Value → State → Outcome → State → Prop) (XC : String → State → State → Prop) (mc ms : Nat) (free : Addr → Prop) : Array Value → State → Outcome → State → Prop := fun a st o t =>
  (Qc a st o t ∧ ∃ L, FrameEnd st o t L mc ms ∧ ∀ q ∈ L, free q.base) ∨ ∃ q, o = .threw q ∧ vx_T XC st q t mc ms free
/-- a callee that returns or throws -/
def vx_Met (l : Launch) (y : MethodName) (ws : List Cond) (rm : Room) (Pc : Array Value → State → Prop) (Qc : Array Value → State → Outcome → State → Prop) (XC : String → State → State → Prop) (mc ms : Nat) (free : Addr → Prop) : Prop :=
  MetFree l y (headSpec ws rm) Pc (fun _ _ _ _ _ => True) (vx_Q Qc XC mc ms free)
def vx_Post (XC : String → State → State → Prop) (mc ms : Nat) (free : Addr → Prop) : Pt → Array Value → Addr → Pt → Prop := fun A a q B =>
  ∃ (g : JFrame) (mk : MethodId) (t : State) (L : List Loc) (E : String) (ce : Cell), B.U.heap = t.heap ∧ B.U.vm = t.vm ∧ XC E (A.U.calling g mk a) t ∧ t.heap[q]? = some ce ∧ ce.vm = .none ∧ A.U.vm.findClass E = some ce.cls ∧ B.locs = A.locs ++ L ∧ (∀ z ∈ L, free z.base) ∧ B.cells = A.cells + mc ∧ B.slots = A.slots + ms
def vx_Back (l : Launch) (R : Room) (p : Program) (e : Env) (below : List Frame) (s : State) (sargs : Array Value) (y : MethodName) (len W9 : Nat)
    (Pre : Pt → Array Value → Prop) (Post : Pt → Array Value → Option Value → Pt → Prop) (PostX : Pt → Array Value → Addr → Pt → Prop) : Prop :=
  ∀ (m : MethodId) (meth : Method) (c : Code) (A : Pt) (g : JFrame) (ig : Instr) (mk : MethodId) (a : Array Value),
    Stand p l e R s m sargs below meth c A.U A.locs A.cells A.slots → g.method = m → g.locals.size = c.maxLocals → decode c.code g.pc = .ok (ig, len) →
    2 * g.monitorRoom + (g.stack.map fun v => v.category).sum ≤ W9 → A.U.methodNamed? y = some mk → Pre A a →
    (∃ (v : Option Value) (B : Pt), Stand p l e R s m sargs below meth c B.U B.locs B.cells B.slots ∧ Post A a v B ∧
      Steps p.tables e below (doInvoke e (A.U.setTop g) [] mk a).1 (B.U.setTop { g with pc := g.pc + len, stack := v.toList ++ g.stack })) ∨
    (∃ (q : Addr) (B : Pt), Stand p l e R s m sargs below meth c B.U B.locs B.cells B.slots ∧ PostX A a q B ∧
      Steps p.tables e below (doInvoke e (A.U.setTop g) [] mk a).1 ((B.U.setTop g).pushFrame (.throwing q)))
section Payer
variable {l : Launch} {R : Room} {p : Program} {e : Env} {below : List Frame} {s : State} {sargs : Array Value} {y : MethodName} {len W9 : Nat}
theorem vx_back {ws : List Cond} {rm : Room} {Pc : Array Value → State → Prop} {Qc : Array Value → State → Outcome → State → Prop} {XC : String → State → State → Prop} {mc ms : Nat} {free : Addr → Prop} {bytes : ByteArray} {maxL : Nat} {ret : Option FieldType}
    (hM : vx_Met l y ws rm Pc Qc XC mc ms free) (hblind : FrameBlind Pc) (hrc : rm.cells = mc) (hrs : rm.slots = ms)
    (hframes : rm.frames + 1 ≤ R.frames) (hlocals : W9 + (maxL + 11) + rm.locals ≤ R.locals)
    (hws : ∀ w ∈ ws, ∀ a' U, s.WarmedH U.vm → w.before a' U = true) (hcode : Cond.code y bytes maxL ret ∈ ws) (hinit : ∀ a' U, s.WarmedH U.vm → (Cond.initialized y.cls).before a' U = true) :
    vx_Back l R p e below s sargs y len W9 (PreOf R mc ms Pc) (PostOf Qc mc ms free) (vx_Post XC mc ms free) := by
  intro m meth c A g ig mk a X hg hsize hdg hW hn hp
  have h1 : (headSpec ws rm).pre.before a A.U = true := atoms_intro fun w hw => hws w hw _ _ X.warmed
  have h2 : (Cond.code y bytes maxL ret).before a A.U = true := hws _ hcode _ _ X.warmed
  have h3 : (Cond.initialized y.cls).before a A.U = true := hinit _ _ X.warmed
  have h4 : A.cells + (headSpec ws rm).room.cells ≤ R.cells := by rw [show (headSpec ws rm).room.cells = mc from hrc]; exact hp.1
  have h5 : A.slots + (headSpec ws rm).room.slots ≤ R.slots := by rw [show (headSpec ws rm).room.slots = ms from hrs]; exact hp.2.1
  have hPc : Pc a (A.U.calling g mk a) := hblind _ _ _ _ hp.2.2
  obtain ⟨U, Ls, c0, s0⟩ := A
  dsimp only [Pt.U, Pt.locs, Pt.cells, Pt.slots] at h1 h2 h3 h4 h5 X hn hPc ⊢
  obtain ⟨methY, cY, hmY, hcY, -, hlY, -, -, -, -⟩ := Cond.code_spec hn h2
  obtain ⟨kY, hkY, -⟩ := className_of_methodNamed hn
  have hinitY : kY.init = .initialized := Cond.initialized_spec (findClass_of_methodNamed hn) hkY h3
  have h : At U g.method c below := by rw [hg]; exact X.here
  have hlocals9 : W9 + (maxL + 11) + (headSpec ws rm).room.locals ≤ R.locals := hlocals
  have happ : (headSpec ws rm).appliesLoose y e.platform (U.calling g mk a) = true :=
    Spec.appliesLoose_calling (g := g) h hdg hn hkY hinitY
      (X.room_calling (g := g) (R' := (headSpec ws rm).room) hsize hmY hcY hframes (by rw [hlY]; omega) h4 h5) h1
  obtain ⟨mid, hmid⟩ := h.above
  have hfr : (U.setTop g).frames = (.java g :: mid) ++ below := by rw [State.frames_setTop' g h.top, hmid]; rfl
  obtain ⟨o, s₂, hsteps, -, hend, hq⟩ := Steps.callFree hM p X.admits X.cas X.clock (acts := []) hfr happ hPc trivial
  have hq' : vx_Q Qc XC mc ms free a (U.calling g mk a) o s₂ := hq
  rw [State.frames_setTop' g h.top] at hend
  obtain ⟨g₀, hg0⟩ := Option.isSome_iff_exists.mp h.top
  obtain ⟨r, hr⟩ := State.topJava?_eq_some.mp hg0
  have hr' : (({ U with heap := s₂.heap, slotsUsed := s₂.slotsUsed } : State).setVm s₂.vm).frames = .java g₀ :: r := hr
  rcases hq' with ⟨hqc, L, hfe, hL⟩ | ⟨q, rfl, E, ce, L, hx, hce, hcv, hcl, hW₂, hsm, hL⟩
  · obtain ⟨⟨v, rfl⟩, hW₂, e2, q2, q3, q4, q5, q6⟩ := id hfe
    have e3 : s₂ = ({ (U.calling g mk a).setFrames s₂.frames with heap := s₂.heap, slotsUsed := s₂.slotsUsed } : State).setVm s₂.vm := by
      have : s₂ = ({ s₂ with vm := (U.calling g mk a).vm } : State).setVm s₂.vm := rfl
      rw [e2] at this
      exact this
    obtain ⟨c₂, i₂, len₂, hc₂, hd₂, hf₂⟩ := hend
    have hW' : U.WarmedH s₂.vm := hW₂
    have hcc : c₂ = c := by
      have h1 : s₂.code? g.method = U.code? g.method := by
        rw [State.code?_eq, State.code?_eq, hW'.alike.method?]
      exact Option.some.inj (hc₂.symm.trans (h1.trans h.code))
    subst hcc
    have hlen : len₂ = len := by rw [hdg] at hd₂; cases hd₂; rfl
    subst hlen
    have hs₂ : s₂ = (({ U with heap := s₂.heap, slotsUsed := s₂.slotsUsed } : State).setVm s₂.vm).setTop { g with pc := g.pc + len₂, stack := v.toList ++ g.stack } := by
      refine e3.trans ?_
      rw [hf₂, State.calling_eq h.top, State.setFrames_setFrames, State.setTop_of_frames _ hr', hr]
      rfl
    have hsame : U.sameButNew ({ U with heap := s₂.heap, slotsUsed := s₂.slotsUsed } : State) L mc ms := by
      refine ⟨?_, q2, q3, q4, q5, q6⟩
      obtain ⟨t, ht, -⟩ := State.frames_cons hr
      show ({ U with heap := s₂.heap, slotsUsed := s₂.slotsUsed } : State) = { U.setFrames U.frames with heap := s₂.heap, slotsUsed := s₂.slotsUsed }
      rw [State.setFrames_self ht]
    subst hg
    refine Or.inl ⟨v, ⟨(({ U with heap := s₂.heap, slotsUsed := s₂.slotsUsed } : State).setVm s₂.vm), Ls ++ L, c0 + mc, s0 + ms⟩,
      ⟨X.admits, X.cas, X.clock, X.frames, X.room, X.hears, X.method, X.code, (X.here.setHeapUsed s₂.heap s₂.slotsUsed).setVm hW'.alike, X.tail, State.WarmedH.trans X.warmed hW', X.limits, X.bytes, X.same.trans (hsame.setVm s.vm)⟩,
      ⟨g, mk, s₂, L, rfl, rfl, hqc, rfl, hL, rfl, rfl⟩, ?_⟩
    show Steps p.tables e below _ ((({ U with heap := s₂.heap, slotsUsed := s₂.slotsUsed } : State).setVm s₂.vm).setTop { g with pc := g.pc + len₂, stack := v.toList ++ g.stack })
    rw [← hs₂]
    exact hsteps
  · obtain ⟨e2, q2, q3, q4, q5, q6⟩ := id hsm
    have e3 : s₂ = ({ (U.calling g mk a).setFrames s₂.frames with heap := s₂.heap, slotsUsed := s₂.slotsUsed } : State).setVm s₂.vm := by
      have : s₂ = ({ s₂ with vm := (U.calling g mk a).vm } : State).setVm s₂.vm := rfl
      rw [e2] at this
      exact this
    have hf₂ : s₂.frames = .throwing q :: .java g :: U.frames.tail := hend
    have hW' : U.WarmedH s₂.vm := hW₂
    have hs₂ : s₂ = ((({ U with heap := s₂.heap, slotsUsed := s₂.slotsUsed } : State).setVm s₂.vm).setTop g).pushFrame (.throwing q) := by
      refine e3.trans ?_
      rw [hf₂, State.calling_eq h.top, State.setFrames_setFrames, State.pushFrame, State.frames_setTop _ hr', State.setTop_of_frames _ hr', State.setFrames_setFrames, hr]
      rfl
    have hsame : U.sameButNew ({ U with heap := s₂.heap, slotsUsed := s₂.slotsUsed } : State) L mc ms := by
      refine ⟨?_, q2, q3, q4, q5, q6⟩
      obtain ⟨t, ht, -⟩ := State.frames_cons hr
      show ({ U with heap := s₂.heap, slotsUsed := s₂.slotsUsed } : State) = { U.setFrames U.frames with heap := s₂.heap, slotsUsed := s₂.slotsUsed }
      rw [State.setFrames_self ht]
    subst hg
    refine Or.inr ⟨q, ⟨(({ U with heap := s₂.heap, slotsUsed := s₂.slotsUsed } : State).setVm s₂.vm), Ls ++ L, c0 + mc, s0 + ms⟩,
      ⟨X.admits, X.cas, X.clock, X.frames, X.room, X.hears, X.method, X.code, (X.here.setHeapUsed s₂.heap s₂.slotsUsed).setVm hW'.alike, X.tail, State.WarmedH.trans X.warmed hW', X.limits, X.bytes, X.same.trans (hsame.setVm s.vm)⟩,
      ⟨g, mk, s₂, L, E, ce, rfl, rfl, hx, hce, hcv, hcl, rfl, hL, rfl, rfl⟩, ?_⟩
    show Steps p.tables e below _ (((({ U with heap := s₂.heap, slotsUsed := s₂.slotsUsed } : State).setVm s₂.vm).setTop g).pushFrame (.throwing q))
    rw [← hs₂]
    exact hsteps
end Payer
section Calls
variable {p : Program} {l : Launch} {e : Env} {R : Room} {s : State} {m : MethodId} {args : Array Value} {below : List Frame} {meth : Method} {c : Code} {T : State} {locs : List Loc} {cells slots : Nat}
theorem vx_callV (X : Stand p l e R s m args below meth c T locs cells slots) (hexec : p.tables.exec = Jvm.exec) {own C : String} {index : Nat} {y : MethodName} {bytes : ByteArray} {maxL : Nat} {ret : Option FieldType}
    (hown : s.vm.findClass own = some m.cls) (hlink : (Cond.methodLink own index y).before args s = true) (hinst : (Cond.instanceMethod y).before args s = true) (hsel : (Cond.selects C y y).before args s = true)
    (hcode : (Cond.code y bytes maxL ret).before args s = true) (hy : y.cls ≠ "java/lang/invoke/MethodHandle" ∧ y.cls ≠ "java/lang/invoke/VarHandle")
    {W9 : Nat} {Pre : Pt → Array Value → Prop} {Post : Pt → Array Value → Option Value → Pt → Prop} {PostX : Pt → Array Value → Addr → Pt → Prop} (hK : vx_Back l R p e below s args y 3 W9 Pre Post PostX)
    {b : Addr} {cellB : Cell} (hcell : T.heap[b]? = some cellB) (hobj : cellB.vm.isStatics = false) (hcls : s.vm.findClass C = some cellB.cls)
    {g : JFrame} (hg : g.method = m) (hsize : g.locals.size = c.maxLocals) {argsL rest : List Value} (hlen : ∀ sig, parseMethodDescriptor y.desc = some sig → argsL.length = sig.parameters.length)
    (hstack : g.stack = argsL.reverse ++ .ref b :: rest) (hW : 2 * g.monitorRoom + (rest.map fun v => v.category).sum ≤ W9) (hdg : decode c.code g.pc = .ok (.invokevirtual index, 3))
    (hpre : ∀ vm₁, s.WarmedH vm₁ → Pre ⟨T.setVm vm₁, locs, cells, slots⟩ (Value.ref b :: argsL).toArray) :
    (∃ (v : Option Value) (vm₁ : Vm) (B : Pt), s.WarmedH vm₁ ∧ Stand p l e R s m args below meth c B.U B.locs B.cells B.slots ∧ Post ⟨T.setVm vm₁, locs, cells, slots⟩ (Value.ref b :: argsL).toArray v B ∧
      ∀ target, Steps p.tables e below (B.U.setTop { g with pc := g.pc + 3, stack := v.toList ++ rest }) target → Steps p.tables e below (T.setTop g) target) ∨
    (∃ (q : Addr) (vm₁ : Vm) (B : Pt), s.WarmedH vm₁ ∧ Stand p l e R s m args below meth c B.U B.locs B.cells B.slots ∧ PostX ⟨T.setVm vm₁, locs, cells, slots⟩ (Value.ref b :: argsL).toArray q B ∧
      Steps p.tables e below (T.setTop g) ((B.U.setTop { g with stack := rest }).pushFrame (.throwing q))) := by
  obtain ⟨mk, methM, hnamed, hmethM, hstM, habM⟩ := Cond.instanceMethod_spec hinst
  obtain ⟨methM', cM, hmethM', -, -, -, -, -, -, hsigM⟩ := Cond.code_spec hnamed hcode
  cases hmethM.symm.trans hmethM'
  obtain ⟨c2, r2, m2, q1, q2, q3, q4, kP, hkP, hkPi⟩ := Cond.selects_spec hsel
  cases hcls.symm.trans q1
  cases (State.methodFound?_of_named hnamed hy).symm.trans q2
  cases hnamed.symm.trans q3
  have hselP : selectMethod e.platform s.vm cellB.cls mk = .method mk := by rw [Launch.admits_selectMethod X.admits]; exact q4
  obtain ⟨vm₁, X₁, hstep₁⟩ := X.invokevirtual hexec hown hlink hnamed hmethM hstM hkP hkPi hy (a := b) (cell := cellB) hcell
    (fun z h => by rw [h] at hobj; cases hobj) hselP hmethM habM hkP hkPi (g := g) hg (argsL := argsL) (rest := rest) (hlen _ hsigM) hstack hdg
  rcases hK m meth c ⟨T.setVm vm₁, locs, cells, slots⟩ { g with stack := rest } (.invokevirtual index) mk (Value.ref b :: argsL).toArray X₁ hg hsize hdg hW (X₁.named hnamed) (hpre vm₁ X₁.warmed) with ⟨v, B, X', hpost, hsteps⟩ | ⟨q, B, X', hpost, hsteps⟩
  · exact Or.inl ⟨v, vm₁, B, X₁.warmed, X', hpost, fun target h => hstep₁ _ fun acts => by rw [doInvoke_state]; exact hsteps.trans h⟩
  · exact Or.inr ⟨q, vm₁, B, X₁.warmed, X', hpost, hstep₁ _ fun acts => by rw [doInvoke_state]; exact hsteps⟩
theorem vx_callS (X : Stand p l e R s m args below meth c T locs cells slots) (hexec : p.tables.exec = Jvm.exec) {own : String} {index : Nat} {y : MethodName} {bytes : ByteArray} {maxL : Nat} {ret : Option FieldType}
    (hown : s.vm.findClass own = some m.cls) (hlink : (Cond.methodLink own index y).before args s = true) (hstat : (Cond.static y).before args s = true) (hinit : (Cond.initialized y.cls).before args s = true)
    (hcode : (Cond.code y bytes maxL ret).before args s = true) (hy : y.cls ≠ "java/lang/invoke/MethodHandle" ∧ y.cls ≠ "java/lang/invoke/VarHandle")
    {W9 : Nat} {Pre : Pt → Array Value → Prop} {Post : Pt → Array Value → Option Value → Pt → Prop} {PostX : Pt → Array Value → Addr → Pt → Prop} (hK : vx_Back l R p e below s args y 3 W9 Pre Post PostX)
    {g : JFrame} (hg : g.method = m) (hsize : g.locals.size = c.maxLocals) {argsL rest : List Value} (hlen : ∀ sig, parseMethodDescriptor y.desc = some sig → argsL.length = sig.parameters.length)
    (hstack : g.stack = argsL.reverse ++ rest) (hW : 2 * g.monitorRoom + (rest.map fun v => v.category).sum ≤ W9) (hdg : decode c.code g.pc = .ok (.invokestatic index, 3))
    (hpre : ∀ vm₁, s.WarmedH vm₁ → Pre ⟨T.setVm vm₁, locs, cells, slots⟩ argsL.toArray) :
    (∃ (v : Option Value) (vm₁ : Vm) (B : Pt), s.WarmedH vm₁ ∧ Stand p l e R s m args below meth c B.U B.locs B.cells B.slots ∧ Post ⟨T.setVm vm₁, locs, cells, slots⟩ argsL.toArray v B ∧
      ∀ target, Steps p.tables e below (B.U.setTop { g with pc := g.pc + 3, stack := v.toList ++ rest }) target → Steps p.tables e below (T.setTop g) target) ∨
    (∃ (q : Addr) (vm₁ : Vm) (B : Pt), s.WarmedH vm₁ ∧ Stand p l e R s m args below meth c B.U B.locs B.cells B.slots ∧ PostX ⟨T.setVm vm₁, locs, cells, slots⟩ argsL.toArray q B ∧
      Steps p.tables e below (T.setTop g) ((B.U.setTop { g with stack := rest }).pushFrame (.throwing q))) := by
  obtain ⟨mk, hnamed⟩ := Cond.code_named hcode
  obtain ⟨methM, cM, hmethM, -, -, -, -, -, -, hsigM⟩ := Cond.code_spec hnamed hcode
  have hstatic : methM.isStatic = true := Cond.static_spec hnamed hmethM hstat
  obtain ⟨kP, hkP, -⟩ := className_of_methodNamed hnamed
  have hinitP : kP.init = .initialized := Cond.initialized_spec (findClass_of_methodNamed hnamed) hkP hinit
  obtain ⟨vm₁, X₁, hstep₁⟩ := X.invokestatic hexec hown hlink hnamed hmethM hstatic hkP hinitP hy (g := g) hg (argsL := argsL) (rest := rest) (hlen _ hsigM) hstack hdg
  rcases hK m meth c ⟨T.setVm vm₁, locs, cells, slots⟩ { g with stack := rest } (.invokestatic index) mk argsL.toArray X₁ hg hsize hdg hW (X₁.named hnamed) (hpre vm₁ X₁.warmed) with ⟨v, B, X', hpost, hsteps⟩ | ⟨q, B, X', hpost, hsteps⟩
  · exact Or.inl ⟨v, vm₁, B, X₁.warmed, X', hpost, fun target h => hstep₁ _ fun acts => by rw [doInvoke_state]; exact hsteps.trans h⟩
  · exact Or.inr ⟨q, vm₁, B, X₁.warmed, X', hpost, hstep₁ _ fun acts => by rw [doInvoke_state]; exact hsteps⟩
end Calls
theorem vx_cls {s : State} {T : State} {vm₁ : Vm} {E : String} {k : ClassId} (hW : s.WarmedH vm₁) (h : (T.setVm vm₁).vm.findClass E = some k) : s.vm.findClass E = some k := by
  have h1 : vm₁.findClass E = some k := h
  rw [hW.alike.findClass] at h1
  exact h1
/-- the method's frame g, with q thrown over it -/
def vx_W (p : Program) (l : Launch) (e : Env) (R : Room) (s : State) (m : MethodId) (args : Array Value) (below : List Frame) (meth : Method) (c : Code) (H : Heap) (locs : List Loc) (cells slots : Nat) (Q : State → Prop) (g : JFrame) (q : Addr) : Prop :=
  ∀ T : State, T.heap = H → Stand p l e R s m args below meth c T locs cells slots → ∃ t, Steps p.tables e below ((T.setTop g).pushFrame (.throwing q)) t ∧ Q t
def vx_Run (p : Program) (l : Launch) (e : Env) (R : Room) (s : State) (m : MethodId) (args : Array Value) (below : List Frame) (meth : Method) (c : Code) (H : Heap) (locs : List Loc) (cells slots mc ms : Nat) (g : JFrame) (rest : List Value) (Qa : State → Outcome → State → Prop) (XC : String → State → State → Prop) (free : Addr → Prop) : Prop :=
  ∀ T : State, T.heap = H → Stand p l e R s m args below meth c T locs cells slots →
    (∃ (v : Option Value) (st₀ t T' : State) (L : List Loc), st₀.heap = H ∧ Stand p l e R s m args below meth c T' (locs ++ L) (cells + mc) (slots + ms) ∧ (∀ q ∈ L, free q.base) ∧ T'.heap = t.heap ∧ T'.vm = t.vm ∧ Qa st₀ (.returned v) t ∧
      Goes p e below T g T' { g with pc := g.pc + 3, stack := v.toList ++ rest }) ∨
    (∃ (q : Addr) (st₀ t T' : State) (L : List Loc) (E : String) (ce : Cell), st₀.heap = H ∧ Stand p l e R s m args below meth c T' (locs ++ L) (cells + mc) (slots + ms) ∧ (∀ z ∈ L, free z.base) ∧ T'.heap = t.heap ∧ T'.vm = t.vm ∧ XC E st₀ t ∧ t.heap[q]? = some ce ∧ ce.vm = .none ∧ s.vm.findClass E = some ce.cls ∧
      Steps p.tables e below (T.setTop g) ((T'.setTop { g with stack := rest }).pushFrame (.throwing q)))
def vx_X {S : Type} (px : S → Prop) (B : String → S → State → Prop) (A : Nat → Prop) : String → State → State → Prop := fun E st t => ∃ u : S, px u ∧ B E u t ∧ va_F A st t
section Runs
variable {p : Program} {l : Launch} {e : Env} {R : Room} {s : State} {m : MethodId} {args : Array Value} {below : List Frame} {meth : Method} {c : Code} {H : Heap} {locs : List Loc} {cells slots : Nat}
variable {y : MethodName} {bytes cc : ByteArray} {maxL nL mc ms n index : Nat} {ret : Option FieldType} {ws : List Cond} {rm : Room} {Pc : Array Value → State → Prop} {Qc : Array Value → State → Outcome → State → Prop} {XC : String → State → State → Prop} {free : Addr → Prop} {Ts : List Cond} {own C : String} {b : Addr} {As rest : List Value} {g : JFrame}
theorem vx_callBack (cb : CallB R s args own index y bytes maxL ret ws rm mc ms n) (hM : vx_Met l y ws rm Pc Qc XC mc ms free) (hbl : FrameBlind Pc) : vx_Back l R p e below s args y 3 8 (PreOf R mc ms Pc) (PostOf Qc mc ms free) (vx_Post XC mc ms free) := by
  obtain ⟨hrc, hrs, hfr, hlo, hws, hcw, -, hini, -⟩ := cb
  exact vx_back (bytes := bytes) (maxL := maxL) (ret := ret) hM hbl hrc hrs hfr hlo hws hcw (fun a' U hW => word_at hW (Or.inl (by first | rfl | simp [Cond.onTables, Cond.keeps, Cond.steady])) hini)
theorem vx_runV (S : CallFix p m c cc nL s args Ts own) (hM : vx_Met l y ws rm Pc Qc XC mc ms free) (cw : CallW R s args own C index y bytes maxL ret ws rm mc ms n) (hp : PreV s H C b Pc As)
    (hg : g.method = m) (hn : As.length = n) (hsize : g.locals.size = nL) (hstack : g.stack = As.reverse ++ .ref b :: rest) (hW : 2 * g.monitorRoom + (rest.map fun v => v.category).sum ≤ 8) (hdg : decode cc g.pc = .ok (.invokevirtual index, 3)) (hf : cells + mc ≤ R.cells ∧ slots + ms ≤ R.slots) :
    vx_Run p l e R s m args below meth c H locs cells slots mc ms g rest (Qc (Value.ref b :: As).toArray) XC free := by
  have hK : vx_Back l R p e below s args y 3 8 (PreOf R mc ms Pc) (PostOf Qc mc ms free) (vx_Post XC mc ms free) := vx_callBack cw.1 hM hp.1
  obtain ⟨⟨-, -, -, -, -, -, hcode, -, hy, hlen, hl⟩, hin, hse⟩ := cw
  obtain ⟨hx, hb, hml, ho, -⟩ := S
  obtain ⟨-, ⟨cellB, hcB, hoB, hclB⟩, hPc⟩ := hp
  intro T hT X
  rcases vx_callV X hx (C := C) (bytes := bytes) (maxL := maxL) (ret := ret) ho hl hin hse hcode hy hK (by rw [hT]; exact hcB) hoB hclB hg (hsize.trans hml.symm) (argsL := As) (rest := rest) (fun sig h => hn.trans (hlen sig h)) hstack hW (by rw [hb]; exact hdg)
    (fun vm₁ hW₁ => ⟨hf.1, hf.2, hPc (T.setVm vm₁) hT hW₁⟩) with ⟨v, vm₁, ⟨U', l2, c2, s2⟩, hW₁, X', ⟨g', mk, t, L, e1, e2, hq, h1, hL, h2, h3⟩, st⟩ | ⟨q, vm₁, ⟨U', l2, c2, s2⟩, hW₁, X', ⟨g', mk, t, L, E, ce, e1, e2, hq, hce, hcv, hcl, h1, hL, h2, h3⟩, st⟩
  · dsimp only [Pt.U, Pt.locs, Pt.cells, Pt.slots] at X' e1 e2 h1 h2 h3 st
    subst h1; subst h2; subst h3
    exact Or.inl ⟨v, (T.setVm vm₁).calling g' mk (Value.ref b :: As).toArray, t, U', L, hT, X', hL, e1, e2, hq, st⟩
  · dsimp only [Pt.U, Pt.locs, Pt.cells, Pt.slots] at X' e1 e2 h1 h2 h3 st hcl
    subst h1; subst h2; subst h3
    exact Or.inr ⟨q, (T.setVm vm₁).calling g' mk (Value.ref b :: As).toArray, t, U', L, E, ce, hT, X', hL, e1, e2, hq, hce, hcv, vx_cls hW₁ hcl, st⟩
theorem vx_runS (S : CallFix p m c cc nL s args Ts own) (hM : vx_Met l y ws rm Pc Qc XC mc ms free) (cw : CallB R s args own index y bytes maxL ret ws rm mc ms n ∧ (Cond.static y).before args s = true) (hp : PreS s H Pc As)
    (hg : g.method = m) (hn : As.length = n) (hsize : g.locals.size = nL) (hstack : g.stack = As.reverse ++ rest) (hW : 2 * g.monitorRoom + (rest.map fun v => v.category).sum ≤ 8) (hdg : decode cc g.pc = .ok (.invokestatic index, 3)) (hf : cells + mc ≤ R.cells ∧ slots + ms ≤ R.slots) :
    vx_Run p l e R s m args below meth c H locs cells slots mc ms g rest (Qc As.toArray) XC free := by
  have hK : vx_Back l R p e below s args y 3 8 (PreOf R mc ms Pc) (PostOf Qc mc ms free) (vx_Post XC mc ms free) := vx_callBack cw.1 hM hp.1
  obtain ⟨⟨-, -, -, -, -, -, hcode, hini, hy, hlen, hl⟩, hstt⟩ := cw
  obtain ⟨hx, hb, hml, ho, -⟩ := S
  intro T hT X
  rcases vx_callS X hx (bytes := bytes) (maxL := maxL) (ret := ret) ho hl hstt hini hcode hy hK hg (hsize.trans hml.symm) (argsL := As) (rest := rest) (fun sig h => hn.trans (hlen sig h)) hstack hW (by rw [hb]; exact hdg)
    (fun vm₁ hW₁ => ⟨hf.1, hf.2, hp.2 (T.setVm vm₁) hT hW₁⟩) with ⟨v, vm₁, ⟨U', l2, c2, s2⟩, hW₁, X', ⟨g', mk, t, L, e1, e2, hq, h1, hL, h2, h3⟩, st⟩ | ⟨q, vm₁, ⟨U', l2, c2, s2⟩, hW₁, X', ⟨g', mk, t, L, E, ce, e1, e2, hq, hce, hcv, hcl, h1, hL, h2, h3⟩, st⟩
  · dsimp only [Pt.U, Pt.locs, Pt.cells, Pt.slots] at X' e1 e2 h1 h2 h3 st
    subst h1; subst h2; subst h3
    exact Or.inl ⟨v, (T.setVm vm₁).calling g' mk As.toArray, t, U', L, hT, X', hL, e1, e2, hq, st⟩
  · dsimp only [Pt.U, Pt.locs, Pt.cells, Pt.slots] at X' e1 e2 h1 h2 h3 st hcl
    subst h1; subst h2; subst h3
    exact Or.inr ⟨q, (T.setVm vm₁).calling g' mk As.toArray, t, U', L, E, ce, hT, X', hL, e1, e2, hq, hce, hcv, vx_cls hW₁ hcl, st⟩
end Runs
section Rows
variable {p : Program} {l : Launch} {e : Env} {R : Room} {s : State} {m : MethodId} {args : Array Value} {below : List Frame} {meth : Method} {c : Code} {H : Heap} {locs : List Loc} {cells slots : Nat} {Q : State → Prop}
variable {mc ms : Nat} {free : Addr → Prop} {A0 A1 : Nat → Prop} {H0 : Heap} {a : Array Value} {pc : Nat} {ls : Array Slot} {st0 rest : List Value}
theorem vx_keep {st₀ t T' : State} {L : List Loc} (h0 : st₀.heap = H) (e1 : T'.heap = t.heap) (hS : va_S A0 H0 H locs) (hA : ∀ q, q < H.size → A1 q → A0 q) (hf : ∀ q, free q → A0 q) (hL : ∀ q ∈ L, free q.base) (hF : va_F A1 st₀ t) :
    H.size ≤ T'.heap.size ∧ (∀ q : Nat, q < H.size → ¬ A1 q → T'.heap[q]? = H[q]?) ∧ va_S A0 H0 T'.heap (locs ++ L) := by
  obtain ⟨hz, hk⟩ := hF
  rw [h0] at hz hk
  exact ⟨by rw [e1]; exact hz, fun q h1 h2 => by rw [e1]; exact hk q h1 h2,
    ⟨Nat.le_trans hS.1 (by rw [e1]; exact hz), fun q h1 h2 => by rw [e1, hk q (Nat.lt_of_lt_of_le h1 hS.1) (fun z => h2 (hA q (Nat.lt_of_lt_of_le h1 hS.1) z))]; exact hS.2.1 q h1 h2, fun q hq => by
      rcases List.mem_append.mp hq with h | h
      · exact hS.2.2 q h
      · exact hf _ (hL q h)⟩⟩
theorem vx_calli {S SX : Type} {post : Int32 → S → Prop} {px : SX → Prop} {B : S → State → Prop} {BX : String → SX → State → Prop} {AX : Nat → Prop} (hr : vx_Run p l e R s m args below meth c H locs cells slots mc ms (F0 m pc ls st0) rest (va_Qi post B A1 a) (vx_X px BX AX) free) (hS : va_S A0 H0 H locs) (hA : ∀ q, q < H.size → A1 q → A0 q) (hf : ∀ q, free q → A0 q) (hAX : ∀ q, q < H.size → AX q → A0 q)
    (kx : ∀ (E : String) (ce : Cell) (q9 : Addr) (u : SX) (t : State) (H1 : Heap) (locs1 : List Loc), t.heap = H1 → s.vm.Alike t.vm → px u → BX E u t → H.size ≤ H1.size → (∀ q : Nat, q < H.size → ¬ AX q → H1[q]? = H[q]?) → va_S A0 H0 H1 locs1 → H1[q9]? = some ce → ce.vm = .none → s.vm.findClass E = some ce.cls → vx_W p l e R s m args below meth c H1 locs1 (cells + mc) (slots + ms) Q (F0 m pc ls rest) q9)
    (kk : ∀ (r : Int32) (u : S) (t : State) (H1 : Heap) (locs1 : List Loc), t.heap = H1 → s.vm.Alike t.vm → post r u → B u t → H.size ≤ H1.size → (∀ q : Nat, q < H.size → ¬ A1 q → H1[q]? = H[q]?) → va_S A0 H0 H1 locs1 → W p l e R s m args below meth c H1 locs1 (cells + mc) (slots + ms) Q (F0 m (pc + 3) ls (.int r :: rest))) : W p l e R s m args below meth c H locs cells slots Q (F0 m pc ls st0) := by
  intro T hT X
  rcases hr T hT X with ⟨v, st₀, t, T', L, h0, X', hL, e1, e2, ⟨⟨r, u, hv, hp, hb⟩, hF⟩, st⟩ | ⟨q, st₀, t, T', L, E, ce, h0, X', hL, e1, e2, ⟨u, hp, hb, hF⟩, hce, hcv, hcl, st⟩
  · cases hv
    obtain ⟨k1, k2, k3⟩ := vx_keep h0 e1 hS hA hf hL hF
    obtain ⟨t2, a1, b1⟩ := kk r u t T'.heap (locs ++ L) e1.symm (by rw [← e2]; exact X'.warmed.alike) hp hb k1 k2 k3 T' rfl X'
    exact ⟨t2, st t2 a1, b1⟩
  · obtain ⟨k1, k2, k3⟩ := vx_keep h0 e1 hS hAX hf hL hF
    obtain ⟨t2, a1, b1⟩ := kx E ce q u t T'.heap (locs ++ L) e1.symm (by rw [← e2]; exact X'.warmed.alike) hp hb k1 k2 k3 (by rw [e1]; exact hce) hcv hcl T' rfl X'
    exact ⟨t2, st.trans a1, b1⟩
theorem vx_calll {S SX : Type} {post : Int64 → S → Prop} {px : SX → Prop} {B : S → State → Prop} {BX : String → SX → State → Prop} {AX : Nat → Prop} (hr : vx_Run p l e R s m args below meth c H locs cells slots mc ms (F0 m pc ls st0) rest (va_Ql post B A1 a) (vx_X px BX AX) free) (hS : va_S A0 H0 H locs) (hA : ∀ q, q < H.size → A1 q → A0 q) (hf : ∀ q, free q → A0 q) (hAX : ∀ q, q < H.size → AX q → A0 q)
    (kx : ∀ (E : String) (ce : Cell) (q9 : Addr) (u : SX) (t : State) (H1 : Heap) (locs1 : List Loc), t.heap = H1 → s.vm.Alike t.vm → px u → BX E u t → H.size ≤ H1.size → (∀ q : Nat, q < H.size → ¬ AX q → H1[q]? = H[q]?) → va_S A0 H0 H1 locs1 → H1[q9]? = some ce → ce.vm = .none → s.vm.findClass E = some ce.cls → vx_W p l e R s m args below meth c H1 locs1 (cells + mc) (slots + ms) Q (F0 m pc ls rest) q9)
    (kk : ∀ (r : Int64) (u : S) (t : State) (H1 : Heap) (locs1 : List Loc), t.heap = H1 → s.vm.Alike t.vm → post r u → B u t → H.size ≤ H1.size → (∀ q : Nat, q < H.size → ¬ A1 q → H1[q]? = H[q]?) → va_S A0 H0 H1 locs1 → W p l e R s m args below meth c H1 locs1 (cells + mc) (slots + ms) Q (F0 m (pc + 3) ls (.long r :: rest))) : W p l e R s m args below meth c H locs cells slots Q (F0 m pc ls st0) := by
  intro T hT X
  rcases hr T hT X with ⟨v, st₀, t, T', L, h0, X', hL, e1, e2, ⟨⟨r, u, hv, hp, hb⟩, hF⟩, st⟩ | ⟨q, st₀, t, T', L, E, ce, h0, X', hL, e1, e2, ⟨u, hp, hb, hF⟩, hce, hcv, hcl, st⟩
  · cases hv
    obtain ⟨k1, k2, k3⟩ := vx_keep h0 e1 hS hA hf hL hF
    obtain ⟨t2, a1, b1⟩ := kk r u t T'.heap (locs ++ L) e1.symm (by rw [← e2]; exact X'.warmed.alike) hp hb k1 k2 k3 T' rfl X'
    exact ⟨t2, st t2 a1, b1⟩
  · obtain ⟨k1, k2, k3⟩ := vx_keep h0 e1 hS hAX hf hL hF
    obtain ⟨t2, a1, b1⟩ := kx E ce q u t T'.heap (locs ++ L) e1.symm (by rw [← e2]; exact X'.warmed.alike) hp hb k1 k2 k3 (by rw [e1]; exact hce) hcv hcl T' rfl X'
    exact ⟨t2, st.trans a1, b1⟩
theorem vx_callf {S SX : Type} {post : UInt32 → S → Prop} {px : SX → Prop} {B : S → State → Prop} {BX : String → SX → State → Prop} {AX : Nat → Prop} (hr : vx_Run p l e R s m args below meth c H locs cells slots mc ms (F0 m pc ls st0) rest (va_Qf post B A1 a) (vx_X px BX AX) free) (hS : va_S A0 H0 H locs) (hA : ∀ q, q < H.size → A1 q → A0 q) (hf : ∀ q, free q → A0 q) (hAX : ∀ q, q < H.size → AX q → A0 q)
    (kx : ∀ (E : String) (ce : Cell) (q9 : Addr) (u : SX) (t : State) (H1 : Heap) (locs1 : List Loc), t.heap = H1 → s.vm.Alike t.vm → px u → BX E u t → H.size ≤ H1.size → (∀ q : Nat, q < H.size → ¬ AX q → H1[q]? = H[q]?) → va_S A0 H0 H1 locs1 → H1[q9]? = some ce → ce.vm = .none → s.vm.findClass E = some ce.cls → vx_W p l e R s m args below meth c H1 locs1 (cells + mc) (slots + ms) Q (F0 m pc ls rest) q9)
    (kk : ∀ (r : UInt32) (u : S) (t : State) (H1 : Heap) (locs1 : List Loc), t.heap = H1 → s.vm.Alike t.vm → post r u → B u t → H.size ≤ H1.size → (∀ q : Nat, q < H.size → ¬ A1 q → H1[q]? = H[q]?) → va_S A0 H0 H1 locs1 → W p l e R s m args below meth c H1 locs1 (cells + mc) (slots + ms) Q (F0 m (pc + 3) ls (.float r :: rest))) : W p l e R s m args below meth c H locs cells slots Q (F0 m pc ls st0) := by
  intro T hT X
  rcases hr T hT X with ⟨v, st₀, t, T', L, h0, X', hL, e1, e2, ⟨⟨r, u, hv, hp, hb⟩, hF⟩, st⟩ | ⟨q, st₀, t, T', L, E, ce, h0, X', hL, e1, e2, ⟨u, hp, hb, hF⟩, hce, hcv, hcl, st⟩
  · cases hv
    obtain ⟨k1, k2, k3⟩ := vx_keep h0 e1 hS hA hf hL hF
    obtain ⟨t2, a1, b1⟩ := kk r u t T'.heap (locs ++ L) e1.symm (by rw [← e2]; exact X'.warmed.alike) hp hb k1 k2 k3 T' rfl X'
    exact ⟨t2, st t2 a1, b1⟩
  · obtain ⟨k1, k2, k3⟩ := vx_keep h0 e1 hS hAX hf hL hF
    obtain ⟨t2, a1, b1⟩ := kx E ce q u t T'.heap (locs ++ L) e1.symm (by rw [← e2]; exact X'.warmed.alike) hp hb k1 k2 k3 (by rw [e1]; exact hce) hcv hcl T' rfl X'
    exact ⟨t2, st.trans a1, b1⟩
theorem vx_calld {S SX : Type} {post : UInt64 → S → Prop} {px : SX → Prop} {B : S → State → Prop} {BX : String → SX → State → Prop} {AX : Nat → Prop} (hr : vx_Run p l e R s m args below meth c H locs cells slots mc ms (F0 m pc ls st0) rest (va_Qd post B A1 a) (vx_X px BX AX) free) (hS : va_S A0 H0 H locs) (hA : ∀ q, q < H.size → A1 q → A0 q) (hf : ∀ q, free q → A0 q) (hAX : ∀ q, q < H.size → AX q → A0 q)
    (kx : ∀ (E : String) (ce : Cell) (q9 : Addr) (u : SX) (t : State) (H1 : Heap) (locs1 : List Loc), t.heap = H1 → s.vm.Alike t.vm → px u → BX E u t → H.size ≤ H1.size → (∀ q : Nat, q < H.size → ¬ AX q → H1[q]? = H[q]?) → va_S A0 H0 H1 locs1 → H1[q9]? = some ce → ce.vm = .none → s.vm.findClass E = some ce.cls → vx_W p l e R s m args below meth c H1 locs1 (cells + mc) (slots + ms) Q (F0 m pc ls rest) q9)
    (kk : ∀ (r : UInt64) (u : S) (t : State) (H1 : Heap) (locs1 : List Loc), t.heap = H1 → s.vm.Alike t.vm → post r u → B u t → H.size ≤ H1.size → (∀ q : Nat, q < H.size → ¬ A1 q → H1[q]? = H[q]?) → va_S A0 H0 H1 locs1 → W p l e R s m args below meth c H1 locs1 (cells + mc) (slots + ms) Q (F0 m (pc + 3) ls (.double r :: rest))) : W p l e R s m args below meth c H locs cells slots Q (F0 m pc ls st0) := by
  intro T hT X
  rcases hr T hT X with ⟨v, st₀, t, T', L, h0, X', hL, e1, e2, ⟨⟨r, u, hv, hp, hb⟩, hF⟩, st⟩ | ⟨q, st₀, t, T', L, E, ce, h0, X', hL, e1, e2, ⟨u, hp, hb, hF⟩, hce, hcv, hcl, st⟩
  · cases hv
    obtain ⟨k1, k2, k3⟩ := vx_keep h0 e1 hS hA hf hL hF
    obtain ⟨t2, a1, b1⟩ := kk r u t T'.heap (locs ++ L) e1.symm (by rw [← e2]; exact X'.warmed.alike) hp hb k1 k2 k3 T' rfl X'
    exact ⟨t2, st t2 a1, b1⟩
  · obtain ⟨k1, k2, k3⟩ := vx_keep h0 e1 hS hAX hf hL hF
    obtain ⟨t2, a1, b1⟩ := kx E ce q u t T'.heap (locs ++ L) e1.symm (by rw [← e2]; exact X'.warmed.alike) hp hb k1 k2 k3 (by rw [e1]; exact hce) hcv hcl T' rfl X'
    exact ⟨t2, st.trans a1, b1⟩
theorem vx_callv {S SX : Type} {post : S → Prop} {px : SX → Prop} {B : S → State → Prop} {BX : String → SX → State → Prop} {AX : Nat → Prop} (hr : vx_Run p l e R s m args below meth c H locs cells slots mc ms (F0 m pc ls st0) rest (va_Qv post B A1 a) (vx_X px BX AX) free) (hS : va_S A0 H0 H locs) (hA : ∀ q, q < H.size → A1 q → A0 q) (hf : ∀ q, free q → A0 q) (hAX : ∀ q, q < H.size → AX q → A0 q)
    (kx : ∀ (E : String) (ce : Cell) (q9 : Addr) (u : SX) (t : State) (H1 : Heap) (locs1 : List Loc), t.heap = H1 → s.vm.Alike t.vm → px u → BX E u t → H.size ≤ H1.size → (∀ q : Nat, q < H.size → ¬ AX q → H1[q]? = H[q]?) → va_S A0 H0 H1 locs1 → H1[q9]? = some ce → ce.vm = .none → s.vm.findClass E = some ce.cls → vx_W p l e R s m args below meth c H1 locs1 (cells + mc) (slots + ms) Q (F0 m pc ls rest) q9)
    (kk : ∀ (u : S) (t : State) (H1 : Heap) (locs1 : List Loc), t.heap = H1 → s.vm.Alike t.vm → post u → B u t → H.size ≤ H1.size → (∀ q : Nat, q < H.size → ¬ A1 q → H1[q]? = H[q]?) → va_S A0 H0 H1 locs1 → W p l e R s m args below meth c H1 locs1 (cells + mc) (slots + ms) Q (F0 m (pc + 3) ls (rest))) : W p l e R s m args below meth c H locs cells slots Q (F0 m pc ls st0) := by
  intro T hT X
  rcases hr T hT X with ⟨v, st₀, t, T', L, h0, X', hL, e1, e2, ⟨⟨u, hv, hp, hb⟩, hF⟩, st⟩ | ⟨q, st₀, t, T', L, E, ce, h0, X', hL, e1, e2, ⟨u, hp, hb, hF⟩, hce, hcv, hcl, st⟩
  · cases hv
    obtain ⟨k1, k2, k3⟩ := vx_keep h0 e1 hS hA hf hL hF
    obtain ⟨t2, a1, b1⟩ := kk u t T'.heap (locs ++ L) e1.symm (by rw [← e2]; exact X'.warmed.alike) hp hb k1 k2 k3 T' rfl X'
    exact ⟨t2, st t2 a1, b1⟩
  · obtain ⟨k1, k2, k3⟩ := vx_keep h0 e1 hS hAX hf hL hF
    obtain ⟨t2, a1, b1⟩ := kx E ce q u t T'.heap (locs ++ L) e1.symm (by rw [← e2]; exact X'.warmed.alike) hp hb k1 k2 k3 (by rw [e1]; exact hce) hcv hcl T' rfl X'
    exact ⟨t2, st.trans a1, b1⟩
/-- caught by the row x of this method's table; the rows ahead don't take it -/
theorem vx_catch {own name : String} {E : String} {ce : Cell} {q : Addr} (hown : s.vm.findClass own = some m.cls) (pre : List ExceptionTableEntry) (x : ExceptionTableEntry) (suf : List ExceptionTableEntry) (hsplit : c.exceptionTable.toList = pre ++ x :: suf)
    (hpass : ∀ z ∈ pre, covers z pc = false ∨ (z.catchType ≠ 0 ∧ ∃ nm : String, (Cond.classLink own z.catchType nm).before args s = true ∧ va_Nc E nm s)) (hx : covers x pc = true) (h0 : x.catchType ≠ 0)
    (hlink : (Cond.classLink own x.catchType name).before args s = true) (hcast : (Cond.castable E name).before args s = true) (hcell : H[q]? = some ce) (hv : ce.vm = .none) (hcl : s.vm.findClass E = some ce.cls)
    (kk : W p l e R s m args below meth c H locs cells slots Q (F0 m x.handlerPc ls [.ref q])) : vx_W p l e R s m args below meth c H locs cells slots Q (F0 m pc ls rest) q := by
  intro T hT X
  have hpl : e.platform.magicAccessors = ({} : Platform).magicAccessors := by rw [X.admits.platform]
  obtain ⟨c3, c4, hc3, hc4, hasg⟩ := Cond.castable_spec hcast
  cases Option.some.inj (hc3.symm.trans hcl)
  obtain ⟨c5, hc5, hcl5⟩ := Cond.classLink_spec hown hlink e.platform hpl
  cases Option.some.inj (hc4.symm.trans hc5)
  obtain ⟨vm', X', st⟩ := X.thenCaughtThrough q (g := F0 m pc ls rest) rfl (Steps.refl _) (by rw [hT]; exact hcell) (by rw [hv]; rfl) (by obtain ⟨k9, h9, -⟩ := Vm.findClass_spec hcl; exact ⟨k9, h9⟩) pre x suf hsplit
    (fun z hz => by
      rcases hpass z hz with h | ⟨hz0, nm, hl1, hn1⟩
      · exact Or.inl h
      · obtain ⟨c6, hc6, hcl6⟩ := Cond.classLink_spec hown hl1 e.platform hpl
        obtain ⟨a8, b8, h1, h2, h3⟩ := hn1
        cases Option.some.inj (h1.symm.trans hcl)
        cases Option.some.inj (h2.symm.trans hc6)
        exact Or.inr ⟨hz0, _, hcl6, h3⟩) hx (Or.inr ⟨h0, c4, hcl5, hasg⟩)
  obtain ⟨t, a1, b1⟩ := kk (T.setVm vm') hT X'
  exact ⟨t, st.trans a1, b1⟩
end Rows
section Ends
variable {p : Program} {l : Launch} {e : Env} {R : Room} {s : State} {m : MethodId} {args : Array Value} {below : List Frame} {meth : Method} {c : Code} {H : Heap} {locs : List Loc} {cells slots : Nat} {Q : State → Prop}
variable {mc ms : Nat} {free : Addr → Prop} {A0 A1 : Nat → Prop} {H0 : Heap} {a : Array Value} {ls : Array Slot} {st0 rest : List Value}
variable {Qc : Array Value → State → Outcome → State → Prop} {XC : String → State → State → Prop}
/-- what a body that may throw owes at its end -/
def vx_MQ (below : List Frame) (Qc : Array Value → State → Outcome → State → Prop) (XC : String → State → State → Prop) (a : Array Value) (s : State) (mc ms : Nat) (free : Addr → Prop) : State → Prop := fun t =>
  ∃ o, t.status = .running ∧ Ended t below o ∧ vx_Q Qc XC mc ms free a s o t
theorem vx_ret {g : JFrame} {mc ms : Nat} (k : W p l e R s m args below meth c H locs cells slots (MQ below Qc args s mc ms free) g) : W p l e R s m args below meth c H locs cells slots (vx_MQ below Qc XC args s mc ms free) g := by
  intro T hT X
  obtain ⟨t, a1, o, b1, b2, b3, b4⟩ := k T hT X
  exact ⟨t, a1, o, b1, b2, Or.inl ⟨b3, b4⟩⟩
/-- not caught here: it goes on to the caller -/
theorem vx_widen {g : JFrame} {q : Addr} {k n : Nat} (h1 : cells ≤ k) (h2 : slots ≤ n) (kk : vx_W p l e R s m args below meth c H locs k n Q g q) : vx_W p l e R s m args below meth c H locs cells slots Q g q := fun T hT X => kk T hT (stand_widen X h1 h2)
theorem vx_out {pc : Nat} {E : String} {ce : Cell} {q : Addr} {mc ms : Nat} (hout : ∀ x ∈ c.exceptionTable.toList, covers x pc = false) (hlocks : meth.locks = false) (hcell : H[q]? = some ce) (hv : ce.vm = .none) (hcl : s.vm.findClass E = some ce.cls)
    (hx : ∀ t : State, t.heap = H → s.vm.Alike t.vm → XC E s t) (hf : ∀ z ∈ locs, free z.base) (hc : cells ≤ mc) (hs : slots ≤ ms) :
    vx_W p l e R s m args below meth c H locs cells slots (vx_MQ below Qc XC args s mc ms free) (F0 m pc ls rest) q := by
  intro T hT X
  obtain ⟨st1, hrun, hend, hW, hsm⟩ := X.leaveThrown q (g := F0 m pc ls rest) rfl rfl rfl hout hlocks
  have hcell9 : (T.setFrames (.throwing q :: below)).heap[q]? = some ce := by
    show T.heap[q]? = some ce
    rw [hT]; exact hcell
  exact ⟨_, st1, .threw q, hrun, hend, Or.inr ⟨q, rfl, E, ce, locs, hx _ hT hW.alike, hcell9, hv, hcl, hW, hsm.mono hc hs, hf⟩⟩
theorem vx_frame {U : State} {k n : Nat} (h : s.sameButNew ({ U with vm := s.vm } : State) locs k n) : s.heap.size ≤ U.heap.size ∧ ∀ q : Nat, q < s.heap.size → (∀ z ∈ locs, z.base ≠ q) → U.heap[q]? = s.heap[q]? := by
  obtain ⟨-, h2, -, -, -, h6⟩ := h
  refine ⟨h2, fun q hq hz => ?_⟩
  obtain ⟨c9, e1, e2, e3, e4⟩ := h6 q _ (Array.getElem?_eq_getElem hq)
  have hs : c9.slots = (s.heap[q]).slots := Array.ext_getElem? fun i => e4 i fun hm => hz _ hm rfl
  have h9 : c9 = s.heap[q] := by
    rw [hs] at e2
    exact e2
  have e5 : U.heap[q]? = some c9 := e1
  rw [e5, h9, Array.getElem?_eq_getElem hq]
/-- the words of a throw but the four that speak of the heap -/
def vx_no (w : Cond) : Bool := decide (w ≠ .isRef (.static Bundle.tN "UNASSIGNED_STACK" Bundle.steD)) && decide (w ≠ .isRef (.static Bundle.tN "SUPPRESSED_SENTINEL" Bundle.listD)) && decide (w ≠ .laysStatic Bundle.tN "UNASSIGNED_STACK" Bundle.steD) && decide (w ≠ .laysStatic Bundle.tN "SUPPRESSED_SENTINEL" Bundle.listD)
def vx_at0 (own : String) (ic : Nat) (X : String) (names : List String) : List Cond := (Bundle.ownAtoms0 own ic X names).filter vx_no
def vx_atS (own : String) (ic : Nat) (X : String) (names : List String) : List Cond := (Bundle.ownAtoms own ic X names).filter vx_no
/-- a word that the tables alone decide, or a good one -/
def vx_ot (w : Cond) : Bool := w.onTables || goodWord w
theorem vx_ot_at {args a' : Array Value} {s U : State} {w : Cond} (hW : s.WarmedH U.vm) (hvm : s.vm = U.vm) (hg : vx_ot w = true) (h : w.before args s = true) : w.before a' U = true := by
  simp only [vx_ot, Bool.or_eq_true] at hg
  rcases hg with hg | hg
  · exact va_tabs hg hvm h
  · exact word_at hW (good_of_word hg) h
/-- a list's words: the good ones out of the method's own list, the others by premises of their own -/
theorem vx_hat {args : Array Value} {s : State} {L B : List Cond} (h1 : ∀ w ∈ L.filter goodWord, w.before args s = true) (h2 : ∀ w ∈ L.filter (fun w => !goodWord w), w ∈ B) (h3 : ∀ w ∈ B, w.before args s = true) : ∀ w ∈ L, w.before args s = true := by
  intro w hw
  by_cases g : goodWord w = true
  · exact h1 w (List.mem_filter.mpr ⟨hw, g⟩)
  · refine h3 w (h2 w (List.mem_filter.mpr ⟨hw, ?_⟩))
    show (!goodWord w) = true
    cases hgw : goodWord w
    · rfl
    · exact absurd hgw g
theorem vx_c {args : Array Value} {s : State} {w : Cond} {B : List Cond} (h : w.before args s = true) (t : ∀ w ∈ B, w.before args s = true) : ∀ w' ∈ w :: B, w'.before args s = true := fun w' h' => (List.mem_cons.mp h').elim (fun e => by rw [e]; exact h) (t w')
theorem vx_n {args : Array Value} {s : State} : ∀ w ∈ ([] : List Cond), w.before args s = true := fun _ h => nomatch h
theorem vx_own {args : Array Value} {s : State} {L : List Cond} (h1 : ∀ w ∈ L.filter vx_no, w.before args s = true)
    (hU : (Cond.isRef (.static Bundle.tN "UNASSIGNED_STACK" Bundle.steD)).before args s = true) (hN : (Cond.isRef (.static Bundle.tN "SUPPRESSED_SENTINEL" Bundle.listD)).before args s = true)
    (lU : (Cond.laysStatic Bundle.tN "UNASSIGNED_STACK" Bundle.steD).before args s = true) (lN : (Cond.laysStatic Bundle.tN "SUPPRESSED_SENTINEL" Bundle.listD).before args s = true) : ∀ w ∈ L, w.before args s = true := by
  intro w hw
  by_cases e1 : w = .isRef (.static Bundle.tN "UNASSIGNED_STACK" Bundle.steD)
  · rw [e1]; exact hU
  · by_cases e2 : w = .isRef (.static Bundle.tN "SUPPRESSED_SENTINEL" Bundle.listD)
    · rw [e2]; exact hN
    · by_cases e3 : w = .laysStatic Bundle.tN "UNASSIGNED_STACK" Bundle.steD
      · rw [e3]; exact lU
      · by_cases e4 : w = .laysStatic Bundle.tN "SUPPRESSED_SENTINEL" Bundle.listD
        · rw [e4]; exact lN
        · exact h1 w (List.mem_filter.mpr ⟨hw, by unfold vx_no; rw [decide_eq_true e1, decide_eq_true e2, decide_eq_true e3, decide_eq_true e4]; rfl⟩)
/-- where a static field lies, its class's statics cell in H -/
def vx_L (C n d : String) (A : Nat → Prop) (U : State) (H : Heap) : Prop := ∃ (c : ClassId) (k : Class) (i : Nat) (f : Field) (a : Nat) (cell : Cell), U.vm.findClass C = some c ∧ U.fieldFound? C n d = some (c, k, i, f) ∧ f.isStatic = true ∧ k.statics = some a ∧ H[a]? = some cell ∧ cell.vm.isStatics = true ∧ cell.cls = c ∧ f.slot < cell.slots.size ∧ k.staticTypes[f.slot]? = some f.type ∧ ¬ A a
theorem vx_L.moved {C n d : String} {A : Nat → Prop} {u U : State} {H : Heap} (hvm : u.vm.Alike U.vm) (h : vx_L C n d A u H) : vx_L C n d A U H := by
  obtain ⟨c, k, i, f, a, cell, h1, h2, h3, h4, h5, h6, h7, h8, h9, h10⟩ := h
  obtain ⟨k', hi', he⟩ := State.fieldFound?_setVm hvm h2
  exact ⟨c, k', i, f, a, cell, by rw [hvm.findClass]; exact h1, hi', h3, by rw [he]; exact h4, h5, h6, h7, h8, by rw [he]; exact h9, h10⟩
theorem vx_L.kept {C n d : String} {A : Nat → Prop} {U : State} {H H1 : Heap} (h : vx_L C n d A U H) (hq : ∀ a : Nat, a < H.size → ¬ A a → H1[a]? = H[a]?) : vx_L C n d A U H1 := by
  obtain ⟨c, k, i, f, a, cell, h1, h2, h3, h4, h5, h6, h7, h8, h9, h10⟩ := h
  exact ⟨c, k, i, f, a, cell, h1, h2, h3, h4, by rw [hq a (Array.getElem?_eq_some_iff.mp h5).1 h10]; exact h5, h6, h7, h8, h9, h10⟩
theorem vx_L.narrow {C n d : String} {A B : Nat → Prop} {U : State} {H : Heap} (h : vx_L C n d A U H) (hAB : ∀ q, B q → A q) : vx_L C n d B U H := by
  obtain ⟨c, k, i, f, a, cell, h1, h2, h3, h4, h5, h6, h7, h8, h9, h10⟩ := h
  exact ⟨c, k, i, f, a, cell, h1, h2, h3, h4, h5, h6, h7, h8, h9, fun z => h10 (hAB _ z)⟩
theorem vx_L.word {C n d : String} {A : Nat → Prop} {s : State} {args : Array Value} (h : vx_L C n d A s s.heap) : (Cond.laysStatic C n d).before args s = true := by
  obtain ⟨c, k, i, f, a, cell, h1, h2, h3, h4, h5, h6, h7, h8, h9, -⟩ := h
  show (Cond.laysStatic C n d).holds args s none s [] = true
  exact Cond.laysStatic_of h1 h2 h3 h4 h5 h6 h7 h8 h9
/-- .. and what it holds: null or some reference -/
def vx_Zq (C n d : String) (A : Nat → Prop) (U : State) (H : Heap) : Prop := va_Zq C n d A U H ∧ vx_L C n d A U H
theorem vx_Zq.moved {C n d : String} {A : Nat → Prop} {u U : State} {H : Heap} (hvm : u.vm.Alike U.vm) (h : vx_Zq C n d A u H) : vx_Zq C n d A U H := ⟨va_Zq.moved hvm h.1, vx_L.moved hvm h.2⟩
theorem vx_Zq.kept {C n d : String} {A : Nat → Prop} {U : State} {H H1 : Heap} (h : vx_Zq C n d A U H) (hq : ∀ a : Nat, a < H.size → ¬ A a → H1[a]? = H[a]?) : vx_Zq C n d A U H1 := ⟨va_Zq.kept h.1 hq, vx_L.kept h.2 hq⟩
theorem vx_Zq.narrow {C n d : String} {A B : Nat → Prop} {U : State} {H : Heap} (h : vx_Zq C n d A U H) (hAB : ∀ q, B q → A q) : vx_Zq C n d B U H := ⟨va_Zq.narrow h.1 hAB, vx_L.narrow h.2 hAB⟩
theorem vx_Zqof {args : Array Value} {s : State} {C n d : String} {A : Nat → Prop} (hl : (Cond.laysStatic C n d).before args s = true) (hini : (Cond.initialized C).before args s = true) (h : (Cond.isRef (.static C n d)).before args s = true) (hA : ∀ a : Nat, a < s.heap.size → ¬ A a) : vx_Zq C n d A s s.heap := by
  refine ⟨va_Zqof hl hini h hA, ?_⟩
  obtain ⟨c, k, i, f, a, cell, h1, h2, h3, h4, h5, h6, h7, h8, h9⟩ := Cond.laysStatic_spec hl
  exact ⟨c, k, i, f, a, cell, h1, h2, h3, h4, h5, h6, h7, h8, h9, hA a (Array.getElem?_eq_some_iff.mp h5).1⟩
theorem vx_isRef {C n d : String} {v : Value} {A : Nat → Prop} {s : State} {args : Array Value} (h : va_Z C n d v A s s.heap) (hv : v.isRef = true) : (Cond.isRef (.static C n d)).before args s = true := by
  obtain ⟨cf, kf, fi, f, a, cell, h1, h2, h3, h4, h5, h6, h7, -⟩ := h
  have he : (Term.static C n d).eval args s none [] s = some v := by
    simp [Term.eval, State.fieldNamed?, h1, h2, h4, h5, h6, h7]
  simp only [Cond.before, Cond.holds, Cond.value, he]
  cases v <;> simp_all [Value.isRef]
theorem vx_isRefq {C n d : String} {A : Nat → Prop} {s : State} {args : Array Value} (h : va_Zq C n d A s s.heap) : (Cond.isRef (.static C n d)).before args s = true := by
  rcases h with h | ⟨t, h⟩
  · exact vx_isRef h rfl
  · exact vx_isRef h rfl
/-- the same frame, seen from here: as if the method were called anew in this heap -/
theorem vx_rebase {T : State} (X : Stand p l e R s m args below meth c T locs cells slots) {R' : Room} (hf : R'.frames ≤ R.frames) (hl : R'.locals ≤ R.locals) (hc : cells + R'.cells ≤ R.cells) (hs : slots + R'.slots ≤ R.slots) :
    Stand p l e R' ((T.setVm s.vm).setFrames (.invoking m args :: below)) m args below meth c T [] 0 0 := by
  have htop : (T.setVm s.vm).topJava?.isSome := X.here.top
  have hF : ((T.setVm s.vm).setFrames (.invoking m args :: below)).frames = .invoking m args :: below := State.frames_setFrames _ (State.cur_lt_of_top htop)
  obtain ⟨g₀, hg0⟩ := Option.isSome_iff_exists.mp htop
  obtain ⟨r, hr⟩ := State.topJava?_eq_some.mp hg0
  have hl9 : e.platform.stackLimits (T.setVm s.vm).me = e.platform.stackLimits s.me := X.limits
  have hb9 : (T.setVm s.vm).me.stackBytes = s.me.stackBytes := X.bytes
  refine ⟨X.admits, X.cas, X.clock, hF, ?_, X.hears, X.method, X.code, X.here, X.tail, X.warmed, ?_, ?_, ?_⟩
  · have h := X.room
    have hU : ((T.setVm s.vm).setFrames (.invoking m args :: below)).localsInUse = s.localsInUse := by
      rw [State.localsInUse_invoking hF (meth := meth) (c := c) X.method X.code, State.localsInUse_invoking X.frames X.method X.code]
    simp only [State.hasRoom, Bool.and_eq_true, decide_eq_true_eq] at h ⊢
    obtain ⟨⟨⟨⟨h1, h2, h3, h4, h5, h6⟩, h7⟩, h8⟩, h9⟩ := h
    rw [X.frames, List.length_cons] at h2 h3
    have q1 := X.heapSize
    have q2 := X.used
    simp only [hF, hU, List.length_cons, State.stackLimits_setFrames, State.stackBytes_setFrames, hl9, hb9]
    refine ⟨⟨⟨⟨by omega, by omega, by omega, by omega, by omega, h6⟩, ?_⟩, ?_⟩, X.book⟩
    · show T.heap.size + R'.cells ≤ e.platform.maxCells
      omega
    · show T.slotsUsed + R'.slots ≤ e.platform.maxSlots
      omega
  · rw [State.stackLimits_setFrames]; rfl
  · rw [State.stackBytes_setFrames]; rfl
  · refine ⟨?_, Nat.le_refl _, Nat.le_refl _, ?_, ?_, fun a c9 h9 => ⟨c9, h9, rfl, rfl, fun _ _ => rfl⟩⟩
    · obtain ⟨t, ht, -⟩ := State.frames_cons hr
      show T.setVm s.vm = { ((T.setVm s.vm).setFrames (.invoking m args :: below)).setFrames (T.setVm s.vm).frames with heap := T.heap, slotsUsed := T.slotsUsed }
      rw [State.setFrames_setFrames, State.setFrames_self ht]
      rfl
    · show T.slotsUsed = T.slotsUsed + ((T.heap.toList.drop T.heap.size).map (·.slots.size)).sum
      rw [List.drop_eq_nil_of_le (Nat.le_of_eq Array.length_toList)]
      rfl
    · show ((T.heap.toList.drop T.heap.size).map (·.slots.size)).sum ≤ 0
      rw [List.drop_eq_nil_of_le (Nat.le_of_eq Array.length_toList)]
      exact Nat.le_refl _
/-- 'throw new E()': new; dup; invokespecial; athrow -/
theorem vx_throw0 {cc : ByteArray} {pc : Nat} (hexec : p.tables.exec = Jvm.exec) (hb : c.code = cc) (hl : l.stackTraces = false) {own cls : String} {names : List String} {ik ic mc ms : Nat} {A : Nat → Prop}
    (hown : s.vm.findClass own = some m.cls) (hcls : Bundle.fit cls = true) (hnames : ∀ n ∈ names, Bundle.fit n = true)
    (hk : (Cond.classLink own ik cls).before args s = true) (hini : (Cond.initialized cls).before args s = true) (hat : ∀ w ∈ vx_at0 own ic cls names, w.before args s = true)
    (hgood : ∀ w ∈ Cond.classLink own ik cls :: Cond.initialized cls :: vx_at0 own ic cls names, vx_ot w = true)
    (hU : vx_Zq Bundle.tN "UNASSIGNED_STACK" Bundle.steD A s s.heap) (hN : vx_Zq Bundle.tN "SUPPRESSED_SENTINEL" Bundle.listD A s s.heap) (hS : va_S A s.heap H locs) (hsize : ls.size = c.maxLocals)
    (d0 : decode cc pc = .ok (.new ik, 3)) (d3 : decode cc (pc + 3) = .ok (.dup, 1)) (d4 : decode cc (pc + 4) = .ok (.invokespecial ic, 3)) (d7 : decode cc (pc + 7) = .ok (.athrow, 1))
    (hout : ∀ x ∈ c.exceptionTable.toList, covers x (pc + 7) = false)
    (hRframes : names.length + 3 < R.frames) (hRlocals : (rest.map fun v => v.category).sum + (13 * (names.length + 1) + 42) ≤ R.locals) (hRcells : cells + 1 ≤ R.cells) (hRslots : slots + 6 ≤ R.slots) (hlocks : meth.locks = false)
    (hx : ∀ t : State, s.vm.Alike t.vm → H.size ≤ t.heap.size → (∀ q : Nat, q < H.size → t.heap[q]? = H[q]?) → XC cls s t)
    (hf : ∀ z ∈ locs, free z.base) (hc : cells + 1 ≤ mc) (hs : slots + 6 ≤ ms) :
    W p l e R s m args below meth c H locs cells slots (vx_MQ below Qc XC args s mc ms free) (F0 m pc ls rest) := by
  intro T hT X
  have htr : e.platform.stackTraces = false := (show e.platform.stackTraces = l.stackTraces by rw [X.admits.platform]).trans hl
  have Y := vx_rebase X (R' := { frames := R.frames, locals := R.locals, cells := 1, slots := 6 }) (Nat.le_refl _) (Nat.le_refl _) hRcells hRslots
  obtain ⟨s', hA⟩ : ∃ z, z = (T.setVm s.vm).setFrames (.invoking m args :: below) := ⟨_, rfl⟩
  rw [← hA] at Y
  have hvm : s'.vm = s.vm := by rw [hA]; rfl
  have hhp : s'.heap = H := by rw [hA]; exact hT
  have hW0 : s.WarmedH s'.vm := by rw [hvm]; exact State.WarmedH.refl s
  have hat' : ∀ w ∈ vx_at0 own ic cls names, w.before args s' = true := fun w hw => vx_ot_at hW0 hvm.symm (hgood w (List.mem_cons_of_mem _ (List.mem_cons_of_mem _ hw))) (hat w hw)
  have hk' : (Cond.classLink own ik cls).before args s' = true := vx_ot_at hW0 hvm.symm (hgood _ List.mem_cons_self) hk
  have hini' : (Cond.initialized cls).before args s' = true := vx_ot_at hW0 hvm.symm (hgood _ (List.mem_cons_of_mem _ List.mem_cons_self)) hini
  have hU' : vx_Zq Bundle.tN "UNASSIGNED_STACK" Bundle.steD A s' s'.heap := by rw [hhp]; exact vx_Zq.moved hW0.alike (hU.kept hS.2.1)
  have hN' : vx_Zq Bundle.tN "SUPPRESSED_SENTINEL" Bundle.listD A s' s'.heap := by rw [hhp]; exact vx_Zq.moved hW0.alike (hN.kept hS.2.1)
  have h : ∀ w ∈ Bundle.ownAtoms0 own ic cls names, w.before args s' = true := vx_own hat' (vx_isRefq hU'.1) (vx_isRefq hN'.1) hU'.2.word hN'.2.word
  have hown' : s'.vm.findClass own = some m.cls := by rw [hvm]; exact hown
  have hins : (Cond.instantiable cls 6).before args s' = true := h _ (by simp [Bundle.ownAtoms0])
  obtain ⟨vm₁, cX, kX, hfX, hkX, -, -, X₁, st1⟩ := Y.newCold hexec (own := own) (C := cls) (index := ik) (n := 6) hown' hk' hins hini'
    (g := F0 m pc ls rest) rfl (by rw [hb]; exact d0) (Nat.le_refl _) (Nat.le_refl _)
  generalize hT1 : (T.setVm vm₁).pushCell { cls := cX, slots := kX.instanceTypes.map defaultValue, vm := .none } = T1 at X₁ st1
  have hcat : (Value.ref T.heap.size).category = 1 := rfl
  have hcellA : T1.heap[T.heap.size]? = some (freshCell cX kX) := by rw [← hT1]; exact State.heap_pushCell_size _ _
  have d3' : decode c.code (pc + 3) = .ok (.dup, 1) := by rw [hb]; exact d3
  obtain ⟨U, hsteps, hrun, hend, hW, hsame, ce, hce, hO⟩ := X₁.ctorThrow0 hexec htr (own := own) (cls := cls) (names := names) (ic := ic) hown' hcls hnames h (fun x hx => nomatch hx) hfX hkX hcellA (by rw [hhp, hT]; exact Nat.le_refl _)
    (g := { method := m, pc := pc + 4, locals := ls, stack := .ref T.heap.size :: .ref T.heap.size :: rest, locked := none }) rfl hsize rfl rfl (rest := rest) rfl
    (by rw [hb]; exact d4) (by rw [hb]; exact d7) hout hRframes (by simp only [List.map_cons, List.sum_cons, hcat]; omega) hlocks
  obtain ⟨f1, f2⟩ := vx_frame hsame
  rw [hhp] at f1 f2
  have hWs : s.WarmedH U.vm := State.WarmedH.trans hW0 hW
  have hcl : s.vm.findClass cls = some ce.cls := by
    have h9 := hO.cls
    rw [hvm] at h9
    exact h9
  have hall : s.sameButNew ({ U with vm := s.vm } : State) locs mc ms := by
    subst hA
    obtain ⟨e1, e2⟩ := hsame
    rw [State.setFrames_setFrames] at e1
    have h2 : (T.setVm s.vm).sameButNew ({ U with vm := s.vm } : State) [] (0 + 1) (0 + 6) := ⟨e1, e2⟩
    have h3 := X.same.trans h2
    rw [List.append_nil] at h3
    exact h3.mono hc hs
  refine ⟨U, ?_, .threw T.heap.size, hrun, hend, Or.inr ⟨T.heap.size, rfl, cls, ce, locs, hx U hWs.alike f1 (fun q hq => f2 q hq (fun z hz => nomatch hz)), hce, hO.vm, hcl, hWs, hall, hf⟩⟩
  refine st1 _ ?_
  show Steps p.tables e below (T1.setTop { method := m, pc := pc + 3, locals := ls, stack := .ref T.heap.size :: rest, locked := none }) _
  jvm_step X₁.here [X₁.here.top, hexec, d3', Value.category]
  exact hsteps
/-- 'throw new E("text")': new; dup; ldc; invokespecial; athrow -/
theorem vx_throwS {cc : ByteArray} {pc : Nat} (hexec : p.tables.exec = Jvm.exec) (hb : c.code = cc) (hl : l.stackTraces = false) {own cls text : String} {names : List String} {ik is ic mc ms sa : Nat} {A : Nat → Prop}
    (hown : s.vm.findClass own = some m.cls) (hcls : Bundle.fit cls = true) (hnames : ∀ n ∈ names, Bundle.fit n = true)
    (hk : (Cond.classLink own ik cls).before args s = true) (hini : (Cond.initialized cls).before args s = true) (hstr : vk_R own is text sa s) (hat : ∀ w ∈ vx_atS own ic cls names, w.before args s = true)
    (hgood : ∀ w ∈ Cond.classLink own ik cls :: Cond.initialized cls :: vx_atS own ic cls names, vx_ot w = true)
    (hU : vx_Zq Bundle.tN "UNASSIGNED_STACK" Bundle.steD A s s.heap) (hN : vx_Zq Bundle.tN "SUPPRESSED_SENTINEL" Bundle.listD A s s.heap) (hS : va_S A s.heap H locs) (hsize : ls.size = c.maxLocals)
    (d0 : decode cc pc = .ok (.new ik, 3)) (d3 : decode cc (pc + 3) = .ok (.dup, 1)) (d4 : decode cc (pc + 4) = .ok (.ldc is, 2)) (d6 : decode cc (pc + 6) = .ok (.invokespecial ic, 3)) (d9 : decode cc (pc + 9) = .ok (.athrow, 1))
    (hout : ∀ x ∈ c.exceptionTable.toList, covers x (pc + 9) = false)
    (hRframes : names.length + 3 < R.frames) (hRlocals : (rest.map fun v => v.category).sum + (13 * (names.length + 1) + 43) ≤ R.locals) (hRcells : cells + 1 ≤ R.cells) (hRslots : slots + 6 ≤ R.slots) (hlocks : meth.locks = false)
    (hx : ∀ t : State, s.vm.Alike t.vm → H.size ≤ t.heap.size → (∀ q : Nat, q < H.size → t.heap[q]? = H[q]?) → XC cls s t)
    (hf : ∀ z ∈ locs, free z.base) (hc : cells + 1 ≤ mc) (hs : slots + 6 ≤ ms) :
    W p l e R s m args below meth c H locs cells slots (vx_MQ below Qc XC args s mc ms free) (F0 m pc ls rest) := by
  intro T hT X
  have htr : e.platform.stackTraces = false := (show e.platform.stackTraces = l.stackTraces by rw [X.admits.platform]).trans hl
  have Y := vx_rebase X (R' := { frames := R.frames, locals := R.locals, cells := 1, slots := 6 }) (Nat.le_refl _) (Nat.le_refl _) hRcells hRslots
  obtain ⟨s', hA⟩ : ∃ z, z = (T.setVm s.vm).setFrames (.invoking m args :: below) := ⟨_, rfl⟩
  rw [← hA] at Y
  have hvm : s'.vm = s.vm := by rw [hA]; rfl
  have hhp : s'.heap = H := by rw [hA]; exact hT
  have hW0 : s.WarmedH s'.vm := by rw [hvm]; exact State.WarmedH.refl s
  have hat' : ∀ w ∈ vx_atS own ic cls names, w.before args s' = true := fun w hw => vx_ot_at hW0 hvm.symm (hgood w (List.mem_cons_of_mem _ (List.mem_cons_of_mem _ hw))) (hat w hw)
  have hk' : (Cond.classLink own ik cls).before args s' = true := vx_ot_at hW0 hvm.symm (hgood _ List.mem_cons_self) hk
  have hini' : (Cond.initialized cls).before args s' = true := vx_ot_at hW0 hvm.symm (hgood _ (List.mem_cons_of_mem _ List.mem_cons_self)) hini
  have hU' : vx_Zq Bundle.tN "UNASSIGNED_STACK" Bundle.steD A s' s'.heap := by rw [hhp]; exact vx_Zq.moved hW0.alike (hU.kept hS.2.1)
  have hN' : vx_Zq Bundle.tN "SUPPRESSED_SENTINEL" Bundle.listD A s' s'.heap := by rw [hhp]; exact vx_Zq.moved hW0.alike (hN.kept hS.2.1)
  have h : ∀ w ∈ Bundle.ownAtoms own ic cls names, w.before args s' = true := vx_own hat' (vx_isRefq hU'.1) (vx_isRefq hN'.1) hU'.2.word hN'.2.word
  have hown' : s'.vm.findClass own = some m.cls := by rw [hvm]; exact hown
  have hins : (Cond.instantiable cls 6).before args s' = true := h _ (by simp [Bundle.ownAtoms])
  obtain ⟨vm₁, cX, kX, hfX, hkX, -, -, X₁, st1⟩ := Y.newCold hexec (own := own) (C := cls) (index := ik) (n := 6) hown' hk' hins hini'
    (g := F0 m pc ls rest) rfl (by rw [hb]; exact d0) (Nat.le_refl _) (Nat.le_refl _)
  generalize hT1 : (T.setVm vm₁).pushCell { cls := cX, slots := kX.instanceTypes.map defaultValue, vm := .none } = T1 at X₁ st1
  have hcat : (Value.ref T.heap.size).category = 1 := rfl
  have hcellA : T1.heap[T.heap.size]? = some (freshCell cX kX) := by rw [← hT1]; exact State.heap_pushCell_size _ _
  have d3' : decode c.code (pc + 3) = .ok (.dup, 1) := by rw [hb]; exact d3
  have d4' : decode c.code (pc + 4) = .ok (.ldc is, 2) := by rw [hb]; exact d4
  have hstr' : vk_R own is text sa s' := vk_R.warm hW0 hstr
  obtain ⟨U, hsteps, hrun, hend, hW, hsame, ce, hce, hO⟩ := X₁.ctorThrowS hexec htr (own := own) (cls := cls) (names := names) (ic := ic) hown' hcls hnames h (fun x hx => nomatch hx) hfX hkX hcellA (by rw [hhp, hT]; exact Nat.le_refl _) (msg := .ref sa) rfl
    (g := { method := m, pc := pc + 6, locals := ls, stack := .ref sa :: .ref T.heap.size :: .ref T.heap.size :: rest, locked := none }) rfl hsize rfl rfl (rest := rest) rfl
    (by rw [hb]; exact d6) (by rw [hb]; exact d9) hout hRframes (by simp only [List.map_cons, List.sum_cons, hcat]; omega) hlocks
  obtain ⟨f1, f2⟩ := vx_frame hsame
  rw [hhp] at f1 f2
  have hWs : s.WarmedH U.vm := State.WarmedH.trans hW0 hW
  have hcl : s.vm.findClass cls = some ce.cls := by
    have h9 := hO.cls
    rw [hvm] at h9
    exact h9
  have hall : s.sameButNew ({ U with vm := s.vm } : State) locs mc ms := by
    subst hA
    obtain ⟨e1, e2⟩ := hsame
    rw [State.setFrames_setFrames] at e1
    have h2 : (T.setVm s.vm).sameButNew ({ U with vm := s.vm } : State) [] (0 + 1) (0 + 6) := ⟨e1, e2⟩
    have h3 := X.same.trans h2
    rw [List.append_nil] at h3
    exact h3.mono hc hs
  refine ⟨U, ?_, .threw T.heap.size, hrun, hend, Or.inr ⟨T.heap.size, rfl, cls, ce, locs, hx U hWs.alike f1 (fun q hq => f2 q hq (fun z hz => nomatch hz)), hce, hO.vm, hcl, hWs, hall, hf⟩⟩
  refine st1 _ ?_
  show Steps p.tables e below (T1.setTop { method := m, pc := pc + 3, locals := ls, stack := .ref T.heap.size :: rest, locked := none }) _
  jvm_step X₁.here [X₁.here.top, hexec, d3', Value.category]
  exact X₁.ldcString hexec (own := own) (text := text) (index := is) (a := sa) hown' hstr'.1 hstr'.2
    (g := { method := m, pc := pc + 4, locals := ls, stack := .ref T.heap.size :: .ref T.heap.size :: rest, locked := none }) rfl d4' _ hsteps
/-- 'throw new E("text")', the text by a wide index -/
theorem vx_throwSW {cc : ByteArray} {pc : Nat} (hexec : p.tables.exec = Jvm.exec) (hb : c.code = cc) (hl : l.stackTraces = false) {own cls text : String} {names : List String} {ik is ic mc ms sa : Nat} {A : Nat → Prop}
    (hown : s.vm.findClass own = some m.cls) (hcls : Bundle.fit cls = true) (hnames : ∀ n ∈ names, Bundle.fit n = true)
    (hk : (Cond.classLink own ik cls).before args s = true) (hini : (Cond.initialized cls).before args s = true) (hstr : vk_R own is text sa s) (hat : ∀ w ∈ vx_atS own ic cls names, w.before args s = true)
    (hgood : ∀ w ∈ Cond.classLink own ik cls :: Cond.initialized cls :: vx_atS own ic cls names, vx_ot w = true)
    (hU : vx_Zq Bundle.tN "UNASSIGNED_STACK" Bundle.steD A s s.heap) (hN : vx_Zq Bundle.tN "SUPPRESSED_SENTINEL" Bundle.listD A s s.heap) (hS : va_S A s.heap H locs) (hsize : ls.size = c.maxLocals)
    (d0 : decode cc pc = .ok (.new ik, 3)) (d3 : decode cc (pc + 3) = .ok (.dup, 1)) (d4 : decode cc (pc + 4) = .ok (.ldc_w is, 3)) (d7 : decode cc (pc + 7) = .ok (.invokespecial ic, 3)) (d10 : decode cc (pc + 10) = .ok (.athrow, 1))
    (hout : ∀ x ∈ c.exceptionTable.toList, covers x (pc + 10) = false)
    (hRframes : names.length + 3 < R.frames) (hRlocals : (rest.map fun v => v.category).sum + (13 * (names.length + 1) + 43) ≤ R.locals) (hRcells : cells + 1 ≤ R.cells) (hRslots : slots + 6 ≤ R.slots) (hlocks : meth.locks = false)
    (hx : ∀ t : State, s.vm.Alike t.vm → H.size ≤ t.heap.size → (∀ q : Nat, q < H.size → t.heap[q]? = H[q]?) → XC cls s t)
    (hf : ∀ z ∈ locs, free z.base) (hc : cells + 1 ≤ mc) (hs : slots + 6 ≤ ms) :
    W p l e R s m args below meth c H locs cells slots (vx_MQ below Qc XC args s mc ms free) (F0 m pc ls rest) := by
  intro T hT X
  have htr : e.platform.stackTraces = false := (show e.platform.stackTraces = l.stackTraces by rw [X.admits.platform]).trans hl
  have Y := vx_rebase X (R' := { frames := R.frames, locals := R.locals, cells := 1, slots := 6 }) (Nat.le_refl _) (Nat.le_refl _) hRcells hRslots
  obtain ⟨s', hA⟩ : ∃ z, z = (T.setVm s.vm).setFrames (.invoking m args :: below) := ⟨_, rfl⟩
  rw [← hA] at Y
  have hvm : s'.vm = s.vm := by rw [hA]; rfl
  have hhp : s'.heap = H := by rw [hA]; exact hT
  have hW0 : s.WarmedH s'.vm := by rw [hvm]; exact State.WarmedH.refl s
  have hat' : ∀ w ∈ vx_atS own ic cls names, w.before args s' = true := fun w hw => vx_ot_at hW0 hvm.symm (hgood w (List.mem_cons_of_mem _ (List.mem_cons_of_mem _ hw))) (hat w hw)
  have hk' : (Cond.classLink own ik cls).before args s' = true := vx_ot_at hW0 hvm.symm (hgood _ List.mem_cons_self) hk
  have hini' : (Cond.initialized cls).before args s' = true := vx_ot_at hW0 hvm.symm (hgood _ (List.mem_cons_of_mem _ List.mem_cons_self)) hini
  have hU' : vx_Zq Bundle.tN "UNASSIGNED_STACK" Bundle.steD A s' s'.heap := by rw [hhp]; exact vx_Zq.moved hW0.alike (hU.kept hS.2.1)
  have hN' : vx_Zq Bundle.tN "SUPPRESSED_SENTINEL" Bundle.listD A s' s'.heap := by rw [hhp]; exact vx_Zq.moved hW0.alike (hN.kept hS.2.1)
  have h : ∀ w ∈ Bundle.ownAtoms own ic cls names, w.before args s' = true := vx_own hat' (vx_isRefq hU'.1) (vx_isRefq hN'.1) hU'.2.word hN'.2.word
  have hown' : s'.vm.findClass own = some m.cls := by rw [hvm]; exact hown
  have hins : (Cond.instantiable cls 6).before args s' = true := h _ (by simp [Bundle.ownAtoms])
  obtain ⟨vm₁, cX, kX, hfX, hkX, -, -, X₁, st1⟩ := Y.newCold hexec (own := own) (C := cls) (index := ik) (n := 6) hown' hk' hins hini'
    (g := F0 m pc ls rest) rfl (by rw [hb]; exact d0) (Nat.le_refl _) (Nat.le_refl _)
  generalize hT1 : (T.setVm vm₁).pushCell { cls := cX, slots := kX.instanceTypes.map defaultValue, vm := .none } = T1 at X₁ st1
  have hcat : (Value.ref T.heap.size).category = 1 := rfl
  have hcellA : T1.heap[T.heap.size]? = some (freshCell cX kX) := by rw [← hT1]; exact State.heap_pushCell_size _ _
  have d3' : decode c.code (pc + 3) = .ok (.dup, 1) := by rw [hb]; exact d3
  have d4' : decode c.code (pc + 4) = .ok (.ldc_w is, 3) := by rw [hb]; exact d4
  have hstr' : vk_R own is text sa s' := vk_R.warm hW0 hstr
  obtain ⟨U, hsteps, hrun, hend, hW, hsame, ce, hce, hO⟩ := X₁.ctorThrowS hexec htr (own := own) (cls := cls) (names := names) (ic := ic) hown' hcls hnames h (fun x hx => nomatch hx) hfX hkX hcellA (by rw [hhp, hT]; exact Nat.le_refl _) (msg := .ref sa) rfl
    (g := { method := m, pc := pc + 7, locals := ls, stack := .ref sa :: .ref T.heap.size :: .ref T.heap.size :: rest, locked := none }) rfl hsize rfl rfl (rest := rest) rfl
    (by rw [hb]; exact d7) (by rw [hb]; exact d10) hout hRframes (by simp only [List.map_cons, List.sum_cons, hcat]; omega) hlocks
  obtain ⟨f1, f2⟩ := vx_frame hsame
  rw [hhp] at f1 f2
  have hWs : s.WarmedH U.vm := State.WarmedH.trans hW0 hW
  have hcl : s.vm.findClass cls = some ce.cls := by
    have h9 := hO.cls
    rw [hvm] at h9
    exact h9
  have hall : s.sameButNew ({ U with vm := s.vm } : State) locs mc ms := by
    subst hA
    obtain ⟨e1, e2⟩ := hsame
    rw [State.setFrames_setFrames] at e1
    have h2 : (T.setVm s.vm).sameButNew ({ U with vm := s.vm } : State) [] (0 + 1) (0 + 6) := ⟨e1, e2⟩
    have h3 := X.same.trans h2
    rw [List.append_nil] at h3
    exact h3.mono hc hs
  refine ⟨U, ?_, .threw T.heap.size, hrun, hend, Or.inr ⟨T.heap.size, rfl, cls, ce, locs, hx U hWs.alike f1 (fun q hq => f2 q hq (fun z hz => nomatch hz)), hce, hO.vm, hcl, hWs, hall, hf⟩⟩
  refine st1 _ ?_
  show Steps p.tables e below (T1.setTop { method := m, pc := pc + 3, locals := ls, stack := .ref T.heap.size :: rest, locked := none }) _
  jvm_step X₁.here [X₁.here.top, hexec, d3', Value.category]
  exact X₁.ldcStringW hexec (own := own) (text := text) (index := is) (a := sa) hown' hstr'.1 hstr'.2
    (g := { method := m, pc := pc + 4, locals := ls, stack := .ref T.heap.size :: .ref T.heap.size :: rest, locked := none }) rfl d4' _ hsteps
end Ends
section Bodies
variable {l : Launch}
theorem vx_ofW {y : MethodName} {ws ws' : List Cond} {rm : Room} {Pc : Array Value → State → Prop} {Qc : Array Value → State → Outcome → State → Prop} {XC : String → State → State → Prop} {mc ms : Nat} {free : Addr → Prop} {cc : ByteArray} {maxL : Nat} {ret : Option FieldType}
    (hy : plainName y.cls = true) (hw : ws = Cond.code y cc maxL ret :: ws')
    (body : ∀ p e s m args below meth c s₁, BodyLoose p l y (headSpec ws rm) cc maxL ret e s m args below meth c s₁ → c.maxLocals = maxL → (∀ x ∈ c.exceptionTable.toList, False) → Pc args s →
      W p l e (headSpec ws rm).room s m args below meth c s.heap [] 0 0 (vx_MQ below Qc XC args s mc ms free) (entryFrame m args maxL)) : vx_Met l y ws rm Pc Qc XC mc ms free := by
  refine MetFree.of_bodyS (code := cc) (maxLocals := maxL) (ret := ret) hy ?_ ?_
  · intro args s m h hn
    obtain ⟨meth, c, h1, h2, h3, h4, h5, h6, -, -⟩ := Cond.code_spec hn (atoms_spec (ws := ws) h _ (by rw [hw]; exact List.mem_cons_self))
    exact ⟨meth, c, h1, h2, h3, h4, h5, h6⟩
  · intro p e s m args below meth c s₁ B hml hP _
    have hh0 : s₁.heap = s.heap := by rw [B.state]; rfl
    have ht : ∀ x ∈ c.exceptionTable.toList, False := by
      obtain ⟨meth9, c9, h1, h2, -, -, -, -, h7, -⟩ := Cond.code_spec B.named (atoms_spec (ws := ws) B.pre _ (by rw [hw]; exact List.mem_cons_self))
      cases Option.some.inj (h1.symm.trans B.method)
      cases Option.some.inj (h2.symm.trans (Stand.of_body B).code)
      intro x hx
      rw [Array.isEmpty_iff.mp h7] at hx
      cases hx
    obtain ⟨t, a1, o, b1, b2, b3⟩ := body p e s m args below meth c s₁ B hml ht hP s₁ hh0 (Stand.of_body B)
    exact ⟨t, o, a1, b1, b2, b3⟩
/-- the table of a body with handlers -/
theorem vx_table {p : Program} {x y : MethodName} {S : Spec} {cc bytes : ByteArray} {maxL maxL' : Nat} {ret ret' : Option FieldType} {e : Env} {s s₁ : State} {m : MethodId} {args : Array Value} {below : List Frame} {meth : Method} {c : Code} {hh : List (Nat × Nat × Nat × Nat)}
    (B : BodyLoose p l y S cc maxL ret e s m args below meth c s₁) (h : (Cond.codeWith y bytes maxL' ret' hh).before args s = true) : c.exceptionTable.toList = tableOf hh := by
  obtain ⟨m9, meth9, c9, hn9, h1, h2, -, -, h6, -⟩ := Cond.codeWith_spec h
  cases Option.some.inj (hn9.symm.trans B.named)
  cases Option.some.inj (h1.symm.trans B.method)
  cases Option.some.inj (h2.symm.trans (Stand.of_body B).code)
  rw [← h6, table_eq]
end Bodies
end VXA
/-! ===== END ===== -/
/-! ===== BEGIN a static call of a method with an exception table ===== -/
section VXS
variable {p : Program} {l : Launch} {e : Env} {R : Room} {s : State} {m : MethodId} {args : Array Value} {below : List Frame} {meth : Method} {c : Code} {T : State} {H : Heap} {locs : List Loc} {cells slots : Nat}
abbrev vx_CSW (R : Room) (s : State) (args : Array Value) (own : String) (index : Nat) (y : MethodName) (bytes : ByteArray) (maxL : Nat) (ret : Option FieldType) (hh : List (Nat × Nat × Nat × Nat)) (ws : List Cond) (rm : Room) (mc ms n : Nat) : Prop :=
  (rm.cells = mc ∧ rm.slots = ms ∧ rm.frames + 1 ≤ R.frames ∧ 8 + (maxL + 11) + rm.locals ≤ R.locals ∧ (∀ w ∈ ws, ∀ (a' : Array Value) (U : State), s.WarmedH U.vm → w.before a' U = true) ∧ Cond.codeWith y bytes maxL ret hh ∈ ws) ∧
  (Cond.codeWith y bytes maxL ret hh).before args s = true ∧ (Cond.initialized y.cls).before args s = true ∧ (y.cls ≠ "java/lang/invoke/MethodHandle" ∧ y.cls ≠ "java/lang/invoke/VarHandle") ∧
  (∀ sig, parseMethodDescriptor y.desc = some sig → n = sig.parameters.length) ∧ (Cond.methodLink own index y).before args s = true ∧ (Cond.static y).before args s = true
theorem vx_cwSW {own : String} {index maxL mc ms : Nat} {y : MethodName} {bytes : ByteArray} {ret : Option FieldType} {hh : List (Nat × Nat × Nat × Nat)} {Ts ws ws' : List Cond} {rm : Room} (n : Nat) (ht : ∀ w ∈ Ts, w.before args s = true) (hT : GoodIn Ts (va_wsS own index y ws)) (hw : ws = Cond.codeWith y bytes maxL ret hh :: ws') (hrc : rm.cells = mc) (hrs : rm.slots = ms)
    (hd : y.cls ≠ "java/lang/invoke/MethodHandle" ∧ y.cls ≠ "java/lang/invoke/VarHandle" ∧ (parseMethodDescriptor y.desc).map (fun d => d.parameters.length) = some n) (hR : rm.frames + 1 ≤ R.frames ∧ 8 + (maxL + 11) + rm.locals ≤ R.locals) :
    vx_CSW R s args own index y bytes maxL ret hh ws rm mc ms n := by
  have ok : ∀ w ∈ va_wsS own index y ws, w.before args s = true := fun w h => ht w (hT w h).1
  have hG : GoodIn Ts ws := fun w h => hT w (by unfold va_wsS; exact List.mem_append_right _ h)
  have hc : Cond.codeWith y bytes maxL ret hh ∈ ws := by rw [hw]; exact List.mem_cons_self
  refine ⟨⟨hrc, hrs, hR.1, hR.2, pay_in ht hG, hc⟩, ht _ (hG _ hc).1, ok _ (by simp [va_wsS]), ⟨hd.1, hd.2.1⟩, fun sig h => ?_, ok _ (by simp [va_wsS]), ok _ (by simp [va_wsS])⟩
  have h2 := hd.2.2
  rw [h] at h2
  exact (Option.some.inj h2).symm
theorem vx_callSW (X : Stand p l e R s m args below meth c T locs cells slots) (hexec : p.tables.exec = Jvm.exec) {own : String} {index : Nat} {y : MethodName} {bytes : ByteArray} {maxL : Nat} {ret : Option FieldType} {hh : List (Nat × Nat × Nat × Nat)}
    (hown : s.vm.findClass own = some m.cls) (hlink : (Cond.methodLink own index y).before args s = true) (hstat : (Cond.static y).before args s = true) (hinit : (Cond.initialized y.cls).before args s = true)
    (hcode : (Cond.codeWith y bytes maxL ret hh).before args s = true) (hy : y.cls ≠ "java/lang/invoke/MethodHandle" ∧ y.cls ≠ "java/lang/invoke/VarHandle")
    {W9 : Nat} {Pre : Pt → Array Value → Prop} {Post : Pt → Array Value → Option Value → Pt → Prop} (hK : Back l R p e below s args y 3 W9 Pre Post)
    {g : JFrame} (hg : g.method = m) (hsize : g.locals.size = c.maxLocals) {argsL rest : List Value} (hlen : ∀ sig, parseMethodDescriptor y.desc = some sig → argsL.length = sig.parameters.length)
    (hstack : g.stack = argsL.reverse ++ rest) (hW : 2 * g.monitorRoom + (rest.map fun v => v.category).sum ≤ W9) (hdg : decode c.code g.pc = .ok (.invokestatic index, 3))
    (hpre : ∀ vm₁, s.WarmedH vm₁ → Pre ⟨T.setVm vm₁, locs, cells, slots⟩ argsL.toArray) :
    ∃ (v : Option Value) (vm₁ : Vm) (B : Pt), s.WarmedH vm₁ ∧ Stand p l e R s m args below meth c B.U B.locs B.cells B.slots ∧ Post ⟨T.setVm vm₁, locs, cells, slots⟩ argsL.toArray v B ∧
      ∀ target, Steps p.tables e below (B.U.setTop { g with pc := g.pc + 3, stack := v.toList ++ rest }) target → Steps p.tables e below (T.setTop g) target := by
  obtain ⟨mk, methM, cM, hnamed, hmethM, -, -, -, -, -, -, hsigM⟩ := Cond.codeWith_spec hcode
  have hstatic : methM.isStatic = true := Cond.static_spec hnamed hmethM hstat
  obtain ⟨kP, hkP, -⟩ := className_of_methodNamed hnamed
  have hinitP : kP.init = .initialized := Cond.initialized_spec (findClass_of_methodNamed hnamed) hkP hinit
  obtain ⟨vm₁, X₁, hstep₁⟩ := X.invokestatic hexec hown hlink hnamed hmethM hstatic hkP hinitP hy (g := g) hg (argsL := argsL) (rest := rest) (hlen _ hsigM) hstack hdg
  obtain ⟨v, B, X', hpost, hsteps⟩ := hK m meth c ⟨T.setVm vm₁, locs, cells, slots⟩ { g with stack := rest } (.invokestatic index) mk argsL.toArray X₁ hg hsize hdg hW (X₁.named hnamed) (hpre vm₁ X₁.warmed)
  exact ⟨v, vm₁, B, X₁.warmed, X', hpost, fun target h => hstep₁ _ fun acts => by rw [doInvoke_state]; exact hsteps.trans h⟩
theorem vx_runSW {y : MethodName} {bytes cc : ByteArray} {maxL nL mc ms n index : Nat} {ret : Option FieldType} {hh : List (Nat × Nat × Nat × Nat)} {ws : List Cond} {rm : Room} {Pc : Array Value → State → Prop} {Qc : Array Value → State → Outcome → State → Prop} {free : Addr → Prop} {Ts : List Cond} {own : String} {As rest : List Value} {g : JFrame}
    (S : CallFix p m c cc nL s args Ts own) (hM : Met l y ws rm Pc Qc mc ms free) (cw : vx_CSW R s args own index y bytes maxL ret hh ws rm mc ms n) (hp : PreS s H Pc As)
    (hg : g.method = m) (hn : As.length = n) (hsize : g.locals.size = nL) (hstack : g.stack = As.reverse ++ rest) (hW : 2 * g.monitorRoom + (rest.map fun v => v.category).sum ≤ 8) (hdg : decode cc g.pc = .ok (.invokestatic index, 3)) (hf : cells + mc ≤ R.cells ∧ slots + ms ≤ R.slots) :
    va_Run p l e R s m args below meth c H locs cells slots mc ms g rest (Qc As.toArray) (free) := by
  obtain ⟨⟨hrc, hrs, hfr, hlo, hws, hcw⟩, hcode, hini, hy, hlen, hl, hstt⟩ := cw
  have hK : Back l R p e below s args y 3 8 (PreOf R mc ms Pc) (PostOf Qc mc ms free) := va_backW (hh := hh) (bytes := bytes) (maxL := maxL) (ret := ret) hM hp.1 hrc hrs hfr hlo hws hcw (fun a' U hW => word_at hW (Or.inl (by first | rfl | simp [Cond.onTables, Cond.keeps, Cond.steady])) hini)
  obtain ⟨hx, hb, hml, ho, -⟩ := S
  intro T hT X
  obtain ⟨v, vm₁, ⟨U', l2, c2, s2⟩, hW₁, X', ⟨g', mk, t, L, e1, e2, hq, h1, hL, h2, h3⟩, st⟩ := vx_callSW X hx (hh := hh) (bytes := bytes) (maxL := maxL) (ret := ret) ho hl hstt hini hcode hy hK hg (hsize.trans hml.symm) (argsL := As) (rest := rest) (fun sig h => hn.trans (hlen sig h)) hstack hW (by rw [hb]; exact hdg)
    (fun vm₁ hW₁ => ⟨hf.1, hf.2, hp.2 (T.setVm vm₁) hT hW₁⟩)
  dsimp only [Pt.U, Pt.locs, Pt.cells, Pt.slots] at X' e1 e2 h1 h2 h3 st
  subst h1; subst h2; subst h3
  exact ⟨v, (T.setVm vm₁).calling g' mk As.toArray, t, U', L, hT, X', hL, e1, e2, hq, st⟩
/-- not caught here, past rows that name other classes: it goes on to the caller -/
theorem vx_outP {p : Program} {l : Launch} {e : Env} {R : Room} {s : State} {m : MethodId} {args : Array Value} {below : List Frame} {meth : Method} {c : Code} {H : Heap} {locs : List Loc} {cells slots : Nat} {free : Addr → Prop} {ls : Array Slot} {rest : List Value} {Qc : Array Value → State → Outcome → State → Prop} {XC : String → State → State → Prop}
    {pc : Nat} {own E : String} {ce : Cell} {q : Addr} {mc ms : Nat} (hown : s.vm.findClass own = some m.cls) (hlocks : meth.locks = false)
    (hpass : ∀ z ∈ c.exceptionTable.toList, covers z pc = false ∨ (z.catchType ≠ 0 ∧ ∃ nm : String, (Cond.classLink own z.catchType nm).before args s = true ∧ va_Nc E nm s)) (hcell : H[q]? = some ce) (hv : ce.vm = .none) (hcl : s.vm.findClass E = some ce.cls)
    (hx : ∀ t : State, t.heap = H → s.vm.Alike t.vm → XC E s t) (hf : ∀ z ∈ locs, free z.base) (hc : cells ≤ mc) (hs : slots ≤ ms) :
    vx_W p l e R s m args below meth c H locs cells slots (vx_MQ below Qc XC args s mc ms free) (F0 m pc ls rest) q := by
  intro T hT X
  have hpl : e.platform.magicAccessors = ({} : Platform).magicAccessors := by rw [X.admits.platform]
  obtain ⟨vm', hW', X', st⟩ := X.outThrough hlocks q (g := F0 m pc ls rest) rfl rfl rfl (cell := ce) (by rw [hT]; exact hcell) (by rw [hv]; rfl)
    (by obtain ⟨k9, h9, -⟩ := Vm.findClass_spec hcl; exact ⟨k9, h9⟩) (fun z hz => by
      rcases hpass z hz with h | ⟨hz0, nm, hl1, hn1⟩
      · exact Or.inl h
      · obtain ⟨c6, hc6, hcl6⟩ := Cond.classLink_spec hown hl1 e.platform hpl
        obtain ⟨a8, b8, h1, h2, h3⟩ := hn1
        cases Option.some.inj (h1.symm.trans hcl)
        cases Option.some.inj (h2.symm.trans hc6)
        exact Or.inr ⟨hz0, _, hcl6, h3⟩)
  obtain ⟨g₀, hfr⟩ := X'.frames_eq
  have hcell9 : ((T.setVm vm').setFrames (.throwing q :: below)).heap[q]? = some ce := by
    show T.heap[q]? = some ce
    rw [hT]; exact hcell
  have hend : Ended ((T.setVm vm').setFrames (.throwing q :: below)) below (.threw q) := State.frames_setFrames _ (State.cur_lt_of_frames hfr)
  refine ⟨(T.setVm vm').setFrames (.throwing q :: below), ?_, .threw q, X'.here.running, hend, Or.inr ⟨q, rfl, E, ce, locs, hx _ hT (X'.ends _).1.alike, hcell9, hv, hcl, (X'.ends _).1, (X'.ends _).2.mono hc hs, hf⟩⟩
  rw [X.pushThrowing_eq]
  exact st
/-- a thing of a world lies in the heap -/
theorem vx_lt {D : va_G} {cl : List vw_C} {ws : va_W} {H1 : Heap} (h : va_P D cl ws H1) {k : Nat} {q : Nat × va_E} (hk : ws[k]? = some q) : q.1 < H1.size := (h k q hk).lt
end VXS
/-! ===== END ===== -/
/-! ===== BEGIN methods with a table of their own: called by a name, returning or throwing ===== -/
section VXH
/-! vx_backW, vx_callVX, vx_callSX, vx_callVW, vx_runVW, vx_runVX, vx_runSX, vx_ofWH follow the same proofs as their sisters above (Free/Laws.lean, Shelf42/LK1.lean); vx_outP calls Shelf42/NT130.lean (outThrough). -/
section
variable {l : Launch} {R : Room} {p : Program} {e : Env} {below : List Frame} {s : State} {sargs : Array Value} {y : MethodName} {len W9 : Nat}
theorem vx_backW {ws : List Cond} {rm : Room} {Pc : Array Value → State → Prop} {Qc : Array Value → State → Outcome → State → Prop} {XC : String → State → State → Prop} {mc ms : Nat} {free : Addr → Prop} {bytes : ByteArray} {maxL : Nat} {ret : Option FieldType} {hh : List (Nat × Nat × Nat × Nat)}
    (hM : vx_Met l y ws rm Pc Qc XC mc ms free) (hblind : FrameBlind Pc) (hrc : rm.cells = mc) (hrs : rm.slots = ms)
    (hframes : rm.frames + 1 ≤ R.frames) (hlocals : W9 + (maxL + 11) + rm.locals ≤ R.locals)
    (hws : ∀ w ∈ ws, ∀ a' U, s.WarmedH U.vm → w.before a' U = true) (hcode : Cond.codeWith y bytes maxL ret hh ∈ ws) (hinit : ∀ a' U, s.WarmedH U.vm → (Cond.initialized y.cls).before a' U = true) :
    vx_Back l R p e below s sargs y len W9 (PreOf R mc ms Pc) (PostOf Qc mc ms free) (vx_Post XC mc ms free) := by
  intro m meth c A g ig mk a X hg hsize hdg hW hn hp
  have h1 : (headSpec ws rm).pre.before a A.U = true := atoms_intro fun w hw => hws w hw _ _ X.warmed
  have h2 : (Cond.codeWith y bytes maxL ret hh).before a A.U = true := hws _ hcode _ _ X.warmed
  have h3 : (Cond.initialized y.cls).before a A.U = true := hinit _ _ X.warmed
  have h4 : A.cells + (headSpec ws rm).room.cells ≤ R.cells := by rw [show (headSpec ws rm).room.cells = mc from hrc]; exact hp.1
  have h5 : A.slots + (headSpec ws rm).room.slots ≤ R.slots := by rw [show (headSpec ws rm).room.slots = ms from hrs]; exact hp.2.1
  have hPc : Pc a (A.U.calling g mk a) := hblind _ _ _ _ hp.2.2
  obtain ⟨U, Ls, c0, s0⟩ := A
  dsimp only [Pt.U, Pt.locs, Pt.cells, Pt.slots] at h1 h2 h3 h4 h5 X hn hPc ⊢
  obtain ⟨m9, methY, cY, hn9, hmY, hcY, -, hlY, -⟩ := Cond.codeWith_spec h2
  cases Option.some.inj (hn9.symm.trans hn)
  obtain ⟨kY, hkY, -⟩ := className_of_methodNamed hn
  have hinitY : kY.init = .initialized := Cond.initialized_spec (findClass_of_methodNamed hn) hkY h3
  have h : At U g.method c below := by rw [hg]; exact X.here
  have hlocals9 : W9 + (maxL + 11) + (headSpec ws rm).room.locals ≤ R.locals := hlocals
  have happ : (headSpec ws rm).appliesLoose y e.platform (U.calling g mk a) = true :=
    Spec.appliesLoose_calling (g := g) h hdg hn hkY hinitY
      (X.room_calling (g := g) (R' := (headSpec ws rm).room) hsize hmY hcY hframes (by rw [hlY]; omega) h4 h5) h1
  obtain ⟨mid, hmid⟩ := h.above
  have hfr : (U.setTop g).frames = (.java g :: mid) ++ below := by rw [State.frames_setTop' g h.top, hmid]; rfl
  obtain ⟨o, s₂, hsteps, -, hend, hq⟩ := Steps.callFree hM p X.admits X.cas X.clock (acts := []) hfr happ hPc trivial
  have hq' : vx_Q Qc XC mc ms free a (U.calling g mk a) o s₂ := hq
  rw [State.frames_setTop' g h.top] at hend
  obtain ⟨g₀, hg0⟩ := Option.isSome_iff_exists.mp h.top
  obtain ⟨r, hr⟩ := State.topJava?_eq_some.mp hg0
  have hr' : (({ U with heap := s₂.heap, slotsUsed := s₂.slotsUsed } : State).setVm s₂.vm).frames = .java g₀ :: r := hr
  rcases hq' with ⟨hqc, L, hfe, hL⟩ | ⟨q, rfl, E, ce, L, hx, hce, hcv, hcl, hW₂, hsm, hL⟩
  · obtain ⟨⟨v, rfl⟩, hW₂, e2, q2, q3, q4, q5, q6⟩ := id hfe
    have e3 : s₂ = ({ (U.calling g mk a).setFrames s₂.frames with heap := s₂.heap, slotsUsed := s₂.slotsUsed } : State).setVm s₂.vm := by
      have : s₂ = ({ s₂ with vm := (U.calling g mk a).vm } : State).setVm s₂.vm := rfl
      rw [e2] at this
      exact this
    obtain ⟨c₂, i₂, len₂, hc₂, hd₂, hf₂⟩ := hend
    have hW' : U.WarmedH s₂.vm := hW₂
    have hcc : c₂ = c := by
      have h1 : s₂.code? g.method = U.code? g.method := by
        rw [State.code?_eq, State.code?_eq, hW'.alike.method?]
      exact Option.some.inj (hc₂.symm.trans (h1.trans h.code))
    subst hcc
    have hlen : len₂ = len := by rw [hdg] at hd₂; cases hd₂; rfl
    subst hlen
    have hs₂ : s₂ = (({ U with heap := s₂.heap, slotsUsed := s₂.slotsUsed } : State).setVm s₂.vm).setTop { g with pc := g.pc + len₂, stack := v.toList ++ g.stack } := by
      refine e3.trans ?_
      rw [hf₂, State.calling_eq h.top, State.setFrames_setFrames, State.setTop_of_frames _ hr', hr]
      rfl
    have hsame : U.sameButNew ({ U with heap := s₂.heap, slotsUsed := s₂.slotsUsed } : State) L mc ms := by
      refine ⟨?_, q2, q3, q4, q5, q6⟩
      obtain ⟨t, ht, -⟩ := State.frames_cons hr
      show ({ U with heap := s₂.heap, slotsUsed := s₂.slotsUsed } : State) = { U.setFrames U.frames with heap := s₂.heap, slotsUsed := s₂.slotsUsed }
      rw [State.setFrames_self ht]
    subst hg
    refine Or.inl ⟨v, ⟨(({ U with heap := s₂.heap, slotsUsed := s₂.slotsUsed } : State).setVm s₂.vm), Ls ++ L, c0 + mc, s0 + ms⟩,
      ⟨X.admits, X.cas, X.clock, X.frames, X.room, X.hears, X.method, X.code, (X.here.setHeapUsed s₂.heap s₂.slotsUsed).setVm hW'.alike, X.tail, State.WarmedH.trans X.warmed hW', X.limits, X.bytes, X.same.trans (hsame.setVm s.vm)⟩,
      ⟨g, mk, s₂, L, rfl, rfl, hqc, rfl, hL, rfl, rfl⟩, ?_⟩
    show Steps p.tables e below _ ((({ U with heap := s₂.heap, slotsUsed := s₂.slotsUsed } : State).setVm s₂.vm).setTop { g with pc := g.pc + len₂, stack := v.toList ++ g.stack })
    rw [← hs₂]
    exact hsteps
  · obtain ⟨e2, q2, q3, q4, q5, q6⟩ := id hsm
    have e3 : s₂ = ({ (U.calling g mk a).setFrames s₂.frames with heap := s₂.heap, slotsUsed := s₂.slotsUsed } : State).setVm s₂.vm := by
      have : s₂ = ({ s₂ with vm := (U.calling g mk a).vm } : State).setVm s₂.vm := rfl
      rw [e2] at this
      exact this
    have hf₂ : s₂.frames = .throwing q :: .java g :: U.frames.tail := hend
    have hW' : U.WarmedH s₂.vm := hW₂
    have hs₂ : s₂ = ((({ U with heap := s₂.heap, slotsUsed := s₂.slotsUsed } : State).setVm s₂.vm).setTop g).pushFrame (.throwing q) := by
      refine e3.trans ?_
      rw [hf₂, State.calling_eq h.top, State.setFrames_setFrames, State.pushFrame, State.frames_setTop _ hr', State.setTop_of_frames _ hr', State.setFrames_setFrames, hr]
      rfl
    have hsame : U.sameButNew ({ U with heap := s₂.heap, slotsUsed := s₂.slotsUsed } : State) L mc ms := by
      refine ⟨?_, q2, q3, q4, q5, q6⟩
      obtain ⟨t, ht, -⟩ := State.frames_cons hr
      show ({ U with heap := s₂.heap, slotsUsed := s₂.slotsUsed } : State) = { U.setFrames U.frames with heap := s₂.heap, slotsUsed := s₂.slotsUsed }
      rw [State.setFrames_self ht]
    subst hg
    refine Or.inr ⟨q, ⟨(({ U with heap := s₂.heap, slotsUsed := s₂.slotsUsed } : State).setVm s₂.vm), Ls ++ L, c0 + mc, s0 + ms⟩,
      ⟨X.admits, X.cas, X.clock, X.frames, X.room, X.hears, X.method, X.code, (X.here.setHeapUsed s₂.heap s₂.slotsUsed).setVm hW'.alike, X.tail, State.WarmedH.trans X.warmed hW', X.limits, X.bytes, X.same.trans (hsame.setVm s.vm)⟩,
      ⟨g, mk, s₂, L, E, ce, rfl, rfl, hx, hce, hcv, hcl, rfl, hL, rfl, rfl⟩, ?_⟩
    show Steps p.tables e below _ (((({ U with heap := s₂.heap, slotsUsed := s₂.slotsUsed } : State).setVm s₂.vm).setTop g).pushFrame (.throwing q))
    rw [← hs₂]
    exact hsteps
end
variable {p : Program} {l : Launch} {e : Env} {R : Room} {s : State} {m : MethodId} {args : Array Value} {below : List Frame} {meth : Method} {c : Code} {T : State} {H : Heap} {locs : List Loc} {cells slots : Nat}
theorem vx_callVX (X : Stand p l e R s m args below meth c T locs cells slots) (hexec : p.tables.exec = Jvm.exec) {own C : String} {index : Nat} {y : MethodName} {bytes : ByteArray} {maxL : Nat} {ret : Option FieldType} {hh : List (Nat × Nat × Nat × Nat)}
    (hown : s.vm.findClass own = some m.cls) (hlink : (Cond.methodLink own index y).before args s = true) (hinst : (Cond.instanceMethod y).before args s = true) (hsel : (Cond.selects C y y).before args s = true)
    (hcode : (Cond.codeWith y bytes maxL ret hh).before args s = true) (hy : y.cls ≠ "java/lang/invoke/MethodHandle" ∧ y.cls ≠ "java/lang/invoke/VarHandle")
    {W9 : Nat} {Pre : Pt → Array Value → Prop} {Post : Pt → Array Value → Option Value → Pt → Prop} {PostX : Pt → Array Value → Addr → Pt → Prop} (hK : vx_Back l R p e below s args y 3 W9 Pre Post PostX)
    {b : Addr} {cellB : Cell} (hcell : T.heap[b]? = some cellB) (hobj : cellB.vm.isStatics = false) (hcls : s.vm.findClass C = some cellB.cls)
    {g : JFrame} (hg : g.method = m) (hsize : g.locals.size = c.maxLocals) {argsL rest : List Value} (hlen : ∀ sig, parseMethodDescriptor y.desc = some sig → argsL.length = sig.parameters.length)
    (hstack : g.stack = argsL.reverse ++ .ref b :: rest) (hW : 2 * g.monitorRoom + (rest.map fun v => v.category).sum ≤ W9) (hdg : decode c.code g.pc = .ok (.invokevirtual index, 3))
    (hpre : ∀ vm₁, s.WarmedH vm₁ → Pre ⟨T.setVm vm₁, locs, cells, slots⟩ (Value.ref b :: argsL).toArray) :
    (∃ (v : Option Value) (vm₁ : Vm) (B : Pt), s.WarmedH vm₁ ∧ Stand p l e R s m args below meth c B.U B.locs B.cells B.slots ∧ Post ⟨T.setVm vm₁, locs, cells, slots⟩ (Value.ref b :: argsL).toArray v B ∧
      ∀ target, Steps p.tables e below (B.U.setTop { g with pc := g.pc + 3, stack := v.toList ++ rest }) target → Steps p.tables e below (T.setTop g) target) ∨
    (∃ (q : Addr) (vm₁ : Vm) (B : Pt), s.WarmedH vm₁ ∧ Stand p l e R s m args below meth c B.U B.locs B.cells B.slots ∧ PostX ⟨T.setVm vm₁, locs, cells, slots⟩ (Value.ref b :: argsL).toArray q B ∧
      Steps p.tables e below (T.setTop g) ((B.U.setTop { g with stack := rest }).pushFrame (.throwing q))) := by
  obtain ⟨mk, methM, hnamed, hmethM, hstM, habM⟩ := Cond.instanceMethod_spec hinst
  obtain ⟨m8, methM', cM, hn8, hmethM', -, -, -, -, -, -, hsigM⟩ := Cond.codeWith_spec hcode
  cases Option.some.inj (hn8.symm.trans hnamed)
  cases hmethM.symm.trans hmethM'
  obtain ⟨c2, r2, m2, q1, q2, q3, q4, kP, hkP, hkPi⟩ := Cond.selects_spec hsel
  cases hcls.symm.trans q1
  cases (State.methodFound?_of_named hnamed hy).symm.trans q2
  cases hnamed.symm.trans q3
  have hselP : selectMethod e.platform s.vm cellB.cls mk = .method mk := by rw [Launch.admits_selectMethod X.admits]; exact q4
  obtain ⟨vm₁, X₁, hstep₁⟩ := X.invokevirtual hexec hown hlink hnamed hmethM hstM hkP hkPi hy (a := b) (cell := cellB) hcell
    (fun z h => by rw [h] at hobj; cases hobj) hselP hmethM habM hkP hkPi (g := g) hg (argsL := argsL) (rest := rest) (hlen _ hsigM) hstack hdg
  rcases hK m meth c ⟨T.setVm vm₁, locs, cells, slots⟩ { g with stack := rest } (.invokevirtual index) mk (Value.ref b :: argsL).toArray X₁ hg hsize hdg hW (X₁.named hnamed) (hpre vm₁ X₁.warmed) with ⟨v, B, X', hpost, hsteps⟩ | ⟨q, B, X', hpost, hsteps⟩
  · exact Or.inl ⟨v, vm₁, B, X₁.warmed, X', hpost, fun target h => hstep₁ _ fun acts => by rw [doInvoke_state]; exact hsteps.trans h⟩
  · exact Or.inr ⟨q, vm₁, B, X₁.warmed, X', hpost, hstep₁ _ fun acts => by rw [doInvoke_state]; exact hsteps⟩
theorem vx_callSX (X : Stand p l e R s m args below meth c T locs cells slots) (hexec : p.tables.exec = Jvm.exec) {own : String} {index : Nat} {y : MethodName} {bytes : ByteArray} {maxL : Nat} {ret : Option FieldType} {hh : List (Nat × Nat × Nat × Nat)}
    (hown : s.vm.findClass own = some m.cls) (hlink : (Cond.methodLink own index y).before args s = true) (hstat : (Cond.static y).before args s = true) (hinit : (Cond.initialized y.cls).before args s = true)
    (hcode : (Cond.codeWith y bytes maxL ret hh).before args s = true) (hy : y.cls ≠ "java/lang/invoke/MethodHandle" ∧ y.cls ≠ "java/lang/invoke/VarHandle")
    {W9 : Nat} {Pre : Pt → Array Value → Prop} {Post : Pt → Array Value → Option Value → Pt → Prop} {PostX : Pt → Array Value → Addr → Pt → Prop} (hK : vx_Back l R p e below s args y 3 W9 Pre Post PostX)
    {g : JFrame} (hg : g.method = m) (hsize : g.locals.size = c.maxLocals) {argsL rest : List Value} (hlen : ∀ sig, parseMethodDescriptor y.desc = some sig → argsL.length = sig.parameters.length)
    (hstack : g.stack = argsL.reverse ++ rest) (hW : 2 * g.monitorRoom + (rest.map fun v => v.category).sum ≤ W9) (hdg : decode c.code g.pc = .ok (.invokestatic index, 3))
    (hpre : ∀ vm₁, s.WarmedH vm₁ → Pre ⟨T.setVm vm₁, locs, cells, slots⟩ argsL.toArray) :
    (∃ (v : Option Value) (vm₁ : Vm) (B : Pt), s.WarmedH vm₁ ∧ Stand p l e R s m args below meth c B.U B.locs B.cells B.slots ∧ Post ⟨T.setVm vm₁, locs, cells, slots⟩ argsL.toArray v B ∧
      ∀ target, Steps p.tables e below (B.U.setTop { g with pc := g.pc + 3, stack := v.toList ++ rest }) target → Steps p.tables e below (T.setTop g) target) ∨
    (∃ (q : Addr) (vm₁ : Vm) (B : Pt), s.WarmedH vm₁ ∧ Stand p l e R s m args below meth c B.U B.locs B.cells B.slots ∧ PostX ⟨T.setVm vm₁, locs, cells, slots⟩ argsL.toArray q B ∧
      Steps p.tables e below (T.setTop g) ((B.U.setTop { g with stack := rest }).pushFrame (.throwing q))) := by
  obtain ⟨mk, methM, cM, hnamed, hmethM, -, -, -, -, -, -, hsigM⟩ := Cond.codeWith_spec hcode
  have hstatic : methM.isStatic = true := Cond.static_spec hnamed hmethM hstat
  obtain ⟨kP, hkP, -⟩ := className_of_methodNamed hnamed
  have hinitP : kP.init = .initialized := Cond.initialized_spec (findClass_of_methodNamed hnamed) hkP hinit
  obtain ⟨vm₁, X₁, hstep₁⟩ := X.invokestatic hexec hown hlink hnamed hmethM hstatic hkP hinitP hy (g := g) hg (argsL := argsL) (rest := rest) (hlen _ hsigM) hstack hdg
  rcases hK m meth c ⟨T.setVm vm₁, locs, cells, slots⟩ { g with stack := rest } (.invokestatic index) mk argsL.toArray X₁ hg hsize hdg hW (X₁.named hnamed) (hpre vm₁ X₁.warmed) with ⟨v, B, X', hpost, hsteps⟩ | ⟨q, B, X', hpost, hsteps⟩
  · exact Or.inl ⟨v, vm₁, B, X₁.warmed, X', hpost, fun target h => hstep₁ _ fun acts => by rw [doInvoke_state]; exact hsteps.trans h⟩
  · exact Or.inr ⟨q, vm₁, B, X₁.warmed, X', hpost, hstep₁ _ fun acts => by rw [doInvoke_state]; exact hsteps⟩
theorem vx_callVW (X : Stand p l e R s m args below meth c T locs cells slots) (hexec : p.tables.exec = Jvm.exec) {own C : String} {index : Nat} {y : MethodName} {bytes : ByteArray} {maxL : Nat} {ret : Option FieldType} {hh : List (Nat × Nat × Nat × Nat)}
    (hown : s.vm.findClass own = some m.cls) (hlink : (Cond.methodLink own index y).before args s = true) (hinst : (Cond.instanceMethod y).before args s = true) (hsel : (Cond.selects C y y).before args s = true)
    (hcode : (Cond.codeWith y bytes maxL ret hh).before args s = true) (hy : y.cls ≠ "java/lang/invoke/MethodHandle" ∧ y.cls ≠ "java/lang/invoke/VarHandle")
    {W9 : Nat} {Pre : Pt → Array Value → Prop} {Post : Pt → Array Value → Option Value → Pt → Prop} (hK : Back l R p e below s args y 3 W9 Pre Post)
    {b : Addr} {cellB : Cell} (hcell : T.heap[b]? = some cellB) (hobj : cellB.vm.isStatics = false) (hcls : s.vm.findClass C = some cellB.cls)
    {g : JFrame} (hg : g.method = m) (hsize : g.locals.size = c.maxLocals) {argsL rest : List Value} (hlen : ∀ sig, parseMethodDescriptor y.desc = some sig → argsL.length = sig.parameters.length)
    (hstack : g.stack = argsL.reverse ++ .ref b :: rest) (hW : 2 * g.monitorRoom + (rest.map fun v => v.category).sum ≤ W9) (hdg : decode c.code g.pc = .ok (.invokevirtual index, 3))
    (hpre : ∀ vm₁, s.WarmedH vm₁ → Pre ⟨T.setVm vm₁, locs, cells, slots⟩ (Value.ref b :: argsL).toArray) :
    ∃ (v : Option Value) (vm₁ : Vm) (B : Pt), s.WarmedH vm₁ ∧ Stand p l e R s m args below meth c B.U B.locs B.cells B.slots ∧ Post ⟨T.setVm vm₁, locs, cells, slots⟩ (Value.ref b :: argsL).toArray v B ∧
      ∀ target, Steps p.tables e below (B.U.setTop { g with pc := g.pc + 3, stack := v.toList ++ rest }) target → Steps p.tables e below (T.setTop g) target := by
  obtain ⟨mk, methM, hnamed, hmethM, hstM, habM⟩ := Cond.instanceMethod_spec hinst
  obtain ⟨m8, methM', cM, hn8, hmethM', -, -, -, -, -, -, hsigM⟩ := Cond.codeWith_spec hcode
  cases Option.some.inj (hn8.symm.trans hnamed)
  cases hmethM.symm.trans hmethM'
  obtain ⟨c2, r2, m2, q1, q2, q3, q4, kP, hkP, hkPi⟩ := Cond.selects_spec hsel
  cases hcls.symm.trans q1
  cases (State.methodFound?_of_named hnamed hy).symm.trans q2
  cases hnamed.symm.trans q3
  have hselP : selectMethod e.platform s.vm cellB.cls mk = .method mk := by rw [Launch.admits_selectMethod X.admits]; exact q4
  obtain ⟨vm₁, X₁, hstep₁⟩ := X.invokevirtual hexec hown hlink hnamed hmethM hstM hkP hkPi hy (a := b) (cell := cellB) hcell
    (fun z h => by rw [h] at hobj; cases hobj) hselP hmethM habM hkP hkPi (g := g) hg (argsL := argsL) (rest := rest) (hlen _ hsigM) hstack hdg
  obtain ⟨v, B, X', hpost, hsteps⟩ := hK m meth c ⟨T.setVm vm₁, locs, cells, slots⟩ { g with stack := rest } (.invokevirtual index) mk (Value.ref b :: argsL).toArray X₁ hg hsize hdg hW (X₁.named hnamed) (hpre vm₁ X₁.warmed)
  exact ⟨v, vm₁, B, X₁.warmed, X', hpost, fun target h => hstep₁ _ fun acts => by rw [doInvoke_state]; exact hsteps.trans h⟩
abbrev vx_CVW (R : Room) (s : State) (args : Array Value) (own C : String) (index : Nat) (y : MethodName) (bytes : ByteArray) (maxL : Nat) (ret : Option FieldType) (hh : List (Nat × Nat × Nat × Nat)) (ws : List Cond) (rm : Room) (mc ms n : Nat) : Prop :=
  (rm.cells = mc ∧ rm.slots = ms ∧ rm.frames + 1 ≤ R.frames ∧ 8 + (maxL + 11) + rm.locals ≤ R.locals ∧ (∀ w ∈ ws, ∀ (a' : Array Value) (U : State), s.WarmedH U.vm → w.before a' U = true) ∧ Cond.codeWith y bytes maxL ret hh ∈ ws) ∧
  (Cond.codeWith y bytes maxL ret hh).before args s = true ∧ (Cond.initialized y.cls).before args s = true ∧ (y.cls ≠ "java/lang/invoke/MethodHandle" ∧ y.cls ≠ "java/lang/invoke/VarHandle") ∧
  (∀ sig, parseMethodDescriptor y.desc = some sig → n = sig.parameters.length) ∧ (Cond.methodLink own index y).before args s = true ∧ (Cond.instanceMethod y).before args s = true ∧ (Cond.selects C y y).before args s = true
theorem vx_cwVW {own C : String} {index maxL mc ms : Nat} {y : MethodName} {bytes : ByteArray} {ret : Option FieldType} {hh : List (Nat × Nat × Nat × Nat)} {Ts ws ws' : List Cond} {rm : Room} (n : Nat) (ht : ∀ w ∈ Ts, w.before args s = true) (hT : GoodIn Ts (wsV own index C y ws)) (hw : ws = Cond.codeWith y bytes maxL ret hh :: ws') (hrc : rm.cells = mc) (hrs : rm.slots = ms)
    (hd : y.cls = C ∧ y.cls ≠ "java/lang/invoke/MethodHandle" ∧ y.cls ≠ "java/lang/invoke/VarHandle" ∧ (parseMethodDescriptor y.desc).map (fun d => d.parameters.length) = some n) (hR : rm.frames + 1 ≤ R.frames ∧ 8 + (maxL + 11) + rm.locals ≤ R.locals) :
    vx_CVW R s args own C index y bytes maxL ret hh ws rm mc ms n := by
  obtain ⟨hC, hd⟩ := hd
  subst hC
  have ok : ∀ w ∈ wsV own index y.cls y ws, w.before args s = true := fun w h => ht w (hT w h).1
  have hG : GoodIn Ts ws := fun w h => hT w (by unfold wsV; exact List.mem_append_right _ h)
  have hc : Cond.codeWith y bytes maxL ret hh ∈ ws := by rw [hw]; exact List.mem_cons_self
  refine ⟨⟨hrc, hrs, hR.1, hR.2, pay_in ht hG, hc⟩, ht _ (hG _ hc).1, ok _ (by simp [wsV]), ⟨hd.1, hd.2.1⟩, fun sig h => ?_, ok _ (by simp [wsV]), ok _ (by simp [wsV]), ok _ (by simp [wsV])⟩
  have h2 := hd.2.2
  rw [h] at h2
  exact (Option.some.inj h2).symm
theorem vx_runVW {y : MethodName} {bytes cc : ByteArray} {maxL nL mc ms n index : Nat} {ret : Option FieldType} {hh : List (Nat × Nat × Nat × Nat)} {ws : List Cond} {rm : Room} {Pc : Array Value → State → Prop} {Qc : Array Value → State → Outcome → State → Prop} {free : Addr → Prop} {Ts : List Cond} {own C : String} {b : Addr} {As rest : List Value} {g : JFrame}
    (S : CallFix p m c cc nL s args Ts own) (hM : Met l y ws rm Pc Qc mc ms free) (cw : vx_CVW R s args own C index y bytes maxL ret hh ws rm mc ms n) (hp : PreV s H C b Pc As)
    (hg : g.method = m) (hn : As.length = n) (hsize : g.locals.size = nL) (hstack : g.stack = As.reverse ++ .ref b :: rest) (hW : 2 * g.monitorRoom + (rest.map fun v => v.category).sum ≤ 8) (hdg : decode cc g.pc = .ok (.invokevirtual index, 3)) (hf : cells + mc ≤ R.cells ∧ slots + ms ≤ R.slots) :
    va_Run p l e R s m args below meth c H locs cells slots mc ms g rest (Qc (Value.ref b :: As).toArray) free := by
  obtain ⟨⟨hrc, hrs, hfr, hlo, hws, hcw⟩, hcode, hini, hy, hlen, hl, hin, hse⟩ := cw
  have hK : Back l R p e below s args y 3 8 (PreOf R mc ms Pc) (PostOf Qc mc ms free) := va_backW (hh := hh) (bytes := bytes) (maxL := maxL) (ret := ret) hM hp.1 hrc hrs hfr hlo hws hcw (fun a' U hW => word_at hW (Or.inl (by first | rfl | simp [Cond.onTables, Cond.keeps, Cond.steady])) hini)
  obtain ⟨hx, hb, hml, ho, -⟩ := S
  obtain ⟨-, ⟨cellB, hcB, hoB, hclB⟩, hPc⟩ := hp
  intro T hT X
  obtain ⟨v, vm₁, ⟨U', l2, c2, s2⟩, hW₁, X', ⟨g', mk, t, L, e1, e2, hq, h1, hL, h2, h3⟩, st⟩ := vx_callVW X hx (C := C) (hh := hh) (bytes := bytes) (maxL := maxL) (ret := ret) ho hl hin hse hcode hy hK (by rw [hT]; exact hcB) hoB hclB hg (hsize.trans hml.symm) (argsL := As) (rest := rest) (fun sig h => hn.trans (hlen sig h)) hstack hW (by rw [hb]; exact hdg)
    (fun vm₁ hW₁ => ⟨hf.1, hf.2, hPc (T.setVm vm₁) hT hW₁⟩)
  dsimp only [Pt.U, Pt.locs, Pt.cells, Pt.slots] at X' e1 e2 h1 h2 h3 st
  subst h1; subst h2; subst h3
  exact ⟨v, (T.setVm vm₁).calling g' mk (Value.ref b :: As).toArray, t, U', L, hT, X', hL, e1, e2, hq, st⟩
section
variable {y : MethodName} {bytes cc : ByteArray} {maxL nL mc ms n index : Nat} {ret : Option FieldType} {ws : List Cond} {rm : Room} {Pc : Array Value → State → Prop} {Qc : Array Value → State → Outcome → State → Prop} {XC : String → State → State → Prop} {free : Addr → Prop} {Ts : List Cond} {own C : String} {b : Addr} {As rest : List Value} {g : JFrame}
theorem vx_runVX {hh : List (Nat × Nat × Nat × Nat)} (S : CallFix p m c cc nL s args Ts own) (hM : vx_Met l y ws rm Pc Qc XC mc ms free) (cw : vx_CVW R s args own C index y bytes maxL ret hh ws rm mc ms n) (hp : PreV s H C b Pc As)
    (hg : g.method = m) (hn : As.length = n) (hsize : g.locals.size = nL) (hstack : g.stack = As.reverse ++ .ref b :: rest) (hW : 2 * g.monitorRoom + (rest.map fun v => v.category).sum ≤ 8) (hdg : decode cc g.pc = .ok (.invokevirtual index, 3)) (hf : cells + mc ≤ R.cells ∧ slots + ms ≤ R.slots) :
    vx_Run p l e R s m args below meth c H locs cells slots mc ms g rest (Qc (Value.ref b :: As).toArray) XC free := by
  obtain ⟨⟨hrc, hrs, hfr, hlo, hws, hcw⟩, hcode, hini, hy, hlen, hl, hin, hse⟩ := cw
  have hK : vx_Back l R p e below s args y 3 8 (PreOf R mc ms Pc) (PostOf Qc mc ms free) (vx_Post XC mc ms free) := vx_backW (hh := hh) (bytes := bytes) (maxL := maxL) (ret := ret) hM hp.1 hrc hrs hfr hlo hws hcw (fun a' U hW => word_at hW (Or.inl (by first | rfl | simp [Cond.onTables, Cond.keeps, Cond.steady])) hini)
  obtain ⟨hx, hb, hml, ho, -⟩ := S
  obtain ⟨-, ⟨cellB, hcB, hoB, hclB⟩, hPc⟩ := hp
  intro T hT X
  rcases vx_callVX X hx (C := C) (hh := hh) (bytes := bytes) (maxL := maxL) (ret := ret) ho hl hin hse hcode hy hK (by rw [hT]; exact hcB) hoB hclB hg (hsize.trans hml.symm) (argsL := As) (rest := rest) (fun sig h => hn.trans (hlen sig h)) hstack hW (by rw [hb]; exact hdg)
    (fun vm₁ hW₁ => ⟨hf.1, hf.2, hPc (T.setVm vm₁) hT hW₁⟩) with ⟨v, vm₁, ⟨U', l2, c2, s2⟩, hW₁, X', ⟨g', mk, t, L, e1, e2, hq, h1, hL, h2, h3⟩, st⟩ | ⟨q, vm₁, ⟨U', l2, c2, s2⟩, hW₁, X', ⟨g', mk, t, L, E, ce, e1, e2, hq, hce, hcv, hcl, h1, hL, h2, h3⟩, st⟩
  · dsimp only [Pt.U, Pt.locs, Pt.cells, Pt.slots] at X' e1 e2 h1 h2 h3 st
    subst h1; subst h2; subst h3
    exact Or.inl ⟨v, (T.setVm vm₁).calling g' mk (Value.ref b :: As).toArray, t, U', L, hT, X', hL, e1, e2, hq, st⟩
  · dsimp only [Pt.U, Pt.locs, Pt.cells, Pt.slots] at X' e1 e2 h1 h2 h3 st hcl
    subst h1; subst h2; subst h3
    exact Or.inr ⟨q, (T.setVm vm₁).calling g' mk (Value.ref b :: As).toArray, t, U', L, E, ce, hT, X', hL, e1, e2, hq, hce, hcv, vx_cls hW₁ hcl, st⟩
theorem vx_runSX {hh : List (Nat × Nat × Nat × Nat)} (S : CallFix p m c cc nL s args Ts own) (hM : vx_Met l y ws rm Pc Qc XC mc ms free) (cw : vx_CSW R s args own index y bytes maxL ret hh ws rm mc ms n) (hp : PreS s H Pc As)
    (hg : g.method = m) (hn : As.length = n) (hsize : g.locals.size = nL) (hstack : g.stack = As.reverse ++ rest) (hW : 2 * g.monitorRoom + (rest.map fun v => v.category).sum ≤ 8) (hdg : decode cc g.pc = .ok (.invokestatic index, 3)) (hf : cells + mc ≤ R.cells ∧ slots + ms ≤ R.slots) :
    vx_Run p l e R s m args below meth c H locs cells slots mc ms g rest (Qc As.toArray) XC free := by
  obtain ⟨⟨hrc, hrs, hfr, hlo, hws, hcw⟩, hcode, hini, hy, hlen, hl, hstt⟩ := cw
  have hK : vx_Back l R p e below s args y 3 8 (PreOf R mc ms Pc) (PostOf Qc mc ms free) (vx_Post XC mc ms free) := vx_backW (hh := hh) (bytes := bytes) (maxL := maxL) (ret := ret) hM hp.1 hrc hrs hfr hlo hws hcw (fun a' U hW => word_at hW (Or.inl (by first | rfl | simp [Cond.onTables, Cond.keeps, Cond.steady])) hini)
  obtain ⟨hx, hb, hml, ho, -⟩ := S
  intro T hT X
  rcases vx_callSX X hx (hh := hh) (bytes := bytes) (maxL := maxL) (ret := ret) ho hl hstt hini hcode hy hK hg (hsize.trans hml.symm) (argsL := As) (rest := rest) (fun sig h => hn.trans (hlen sig h)) hstack hW (by rw [hb]; exact hdg)
    (fun vm₁ hW₁ => ⟨hf.1, hf.2, hp.2 (T.setVm vm₁) hT hW₁⟩) with ⟨v, vm₁, ⟨U', l2, c2, s2⟩, hW₁, X', ⟨g', mk, t, L, e1, e2, hq, h1, hL, h2, h3⟩, st⟩ | ⟨q, vm₁, ⟨U', l2, c2, s2⟩, hW₁, X', ⟨g', mk, t, L, E, ce, e1, e2, hq, hce, hcv, hcl, h1, hL, h2, h3⟩, st⟩
  · dsimp only [Pt.U, Pt.locs, Pt.cells, Pt.slots] at X' e1 e2 h1 h2 h3 st
    subst h1; subst h2; subst h3
    exact Or.inl ⟨v, (T.setVm vm₁).calling g' mk As.toArray, t, U', L, hT, X', hL, e1, e2, hq, st⟩
  · dsimp only [Pt.U, Pt.locs, Pt.cells, Pt.slots] at X' e1 e2 h1 h2 h3 st hcl
    subst h1; subst h2; subst h3
    exact Or.inr ⟨q, (T.setVm vm₁).calling g' mk As.toArray, t, U', L, E, ce, hT, X', hL, e1, e2, hq, hce, hcv, vx_cls hW₁ hcl, st⟩
end
end VXH
theorem vx_ofWH {l : Launch} {y : MethodName} {ws ws' : List Cond} {rm : Room} {Pc : Array Value → State → Prop} {Qc : Array Value → State → Outcome → State → Prop} {XC : String → State → State → Prop} {mc ms : Nat} {free : Addr → Prop} {cc : ByteArray} {maxL : Nat} {ret : Option FieldType} {hh : List (Nat × Nat × Nat × Nat)}
    (hy : plainName y.cls = true) (hw : ws = Cond.codeWith y cc maxL ret hh :: ws')
    (body : ∀ p e s m args below meth c s₁, BodyLoose p l y (headSpec ws rm) cc maxL ret e s m args below meth c s₁ → c.maxLocals = maxL → Pc args s →
      W p l e (headSpec ws rm).room s m args below meth c s.heap [] 0 0 (vx_MQ below Qc XC args s mc ms free) (entryFrame m args maxL)) : vx_Met l y ws rm Pc Qc XC mc ms free := by
  refine MetFree.of_bodyS (code := cc) (maxLocals := maxL) (ret := ret) hy ?_ ?_
  · intro args s m h hn
    obtain ⟨m9, meth, c, hn9, h1, h2, h3, h4, -, h5, h6, -⟩ := Cond.codeWith_spec (atoms_spec (ws := ws) h _ (by rw [hw]; exact List.mem_cons_self))
    cases hn.symm.trans hn9
    exact ⟨meth, c, h1, h2, h3, h4, h5, h6⟩
  · intro p e s m args below meth c s₁ B hml hP _
    have hh0 : s₁.heap = s.heap := by rw [B.state]; rfl
    obtain ⟨t, a1, o, b1, b2, b3⟩ := body p e s m args below meth c s₁ B hml hP s₁ hh0 (Stand.of_body B)
    exact ⟨t, o, a1, b1, b2, b3⟩
/-! ===== END ===== -/
end
section
def RX0 : String := "ConfigDesk$Candidate"
def TX0 : u_T := fun k => match k with
  | 0 => ("ConfigDesk$Candidate", "isOpen", "Z", false)
  | 1 => ("ConfigDesk$Candidate", "base", "I", false)
  | _ => ("ConfigDesk$Candidate", "configuration", "LConfigDesk$Configuration;", true)
def tyX0 : Nat → FieldType := fun k => match k with
  | 0 => .boolean
  | 1 => .int
  | _ => .object "ConfigDesk$Configuration"
abbrev wsX00 : List Cond := u_ws RX0 TX0 3
theorem nmX0 : ∀ a, a < 3 → ∀ b, b < 3 → a ≠ b → (TX0 a).2.1 ≠ (TX0 b).2.1 := by decide +kernel
theorem tyX0_ok : ∀ k, k < 3 → parseFieldDescriptor (TX0 k).2.2.1 = some (tyX0 k) := by decide +kernel
abbrev cX0_init : ByteArray := prog_2_method_1_code
def yX0_init : MethodName := ⟨RX0, "<init>", "()V"⟩
def RX1 : String := "ConfigDesk$Configuration"
def TX1 : u_T := fun k => match k with
  | 0 => ("ConfigDesk$Configuration", "sections", "[LConfigDesk$Section;", true)
  | _ => ("ConfigDesk$Configuration", "groups", "[[I", true)
def tyX1 : Nat → FieldType := fun k => match k with
  | 0 => .array (.object "ConfigDesk$Section")
  | _ => .array (.array .int)
abbrev wsX10 : List Cond := u_ws RX1 TX1 2
theorem nmX1 : ∀ a, a < 2 → ∀ b, b < 2 → a ≠ b → (TX1 a).2.1 ≠ (TX1 b).2.1 := by decide +kernel
theorem tyX1_ok : ∀ k, k < 2 → parseFieldDescriptor (TX1 k).2.2.1 = some (tyX1 k) := by decide +kernel
abbrev cX1_init : ByteArray := prog_3_method_1_code
def yX1_init : MethodName := ⟨RX1, "<init>", "()V"⟩
abbrev cX1_valueShown : ByteArray := prog_3_method_2_code
def yX1_valueShown : MethodName := ⟨RX1, "valueShown", "(LConfigDesk$Entry;I)I"⟩
abbrev cX1_copyFrom : ByteArray := prog_3_method_3_code
def yX1_copyFrom : MethodName := ⟨RX1, "copyFrom", "(LConfigDesk$Configuration;)V"⟩
abbrev cX1_isLike : ByteArray := prog_3_method_4_code
def yX1_isLike : MethodName := ⟨RX1, "isLike", "(LConfigDesk$Configuration;)Z"⟩
def RX2 : String := "ConfigDesk$Edit"
def TX2 : u_T := fun k => match k with
  | 0 => ("ConfigDesk$Edit", "kind", "I", false)
  | 1 => ("ConfigDesk$Edit", "section", "I", false)
  | 2 => ("ConfigDesk$Edit", "key", "I", false)
  | 3 => ("ConfigDesk$Edit", "from", "I", false)
  | 4 => ("ConfigDesk$Edit", "to", "I", false)
  | _ => ("ConfigDesk$Edit", "entry", "LConfigDesk$Entry;", true)
def tyX2 : Nat → FieldType := fun k => match k with
  | 0 => .int
  | 1 => .int
  | 2 => .int
  | 3 => .int
  | 4 => .int
  | _ => .object "ConfigDesk$Entry"
abbrev wsX20 : List Cond := u_ws RX2 TX2 6
theorem nmX2 : ∀ a, a < 6 → ∀ b, b < 6 → a ≠ b → (TX2 a).2.1 ≠ (TX2 b).2.1 := by decide +kernel
theorem tyX2_ok : ∀ k, k < 6 → parseFieldDescriptor (TX2 k).2.2.1 = some (tyX2 k) := by decide +kernel
abbrev cX2_init : ByteArray := prog_4_method_1_code
def yX2_init : MethodName := ⟨RX2, "<init>", "()V"⟩
abbrev cX2_become : ByteArray := prog_4_method_2_code
def yX2_become : MethodName := ⟨RX2, "become", "(IIIII)V"⟩
abbrev cX2_code : ByteArray := prog_4_method_3_code
def yX2_code : MethodName := ⟨RX2, "code", "()I"⟩
abbrev cX2_invert : ByteArray := prog_4_method_4_code
def yX2_invert : MethodName := ⟨RX2, "invert", "()V"⟩
abbrev cX2_applyTo : ByteArray := prog_4_method_5_code
def yX2_applyTo : MethodName := ⟨RX2, "applyTo", "(LConfigDesk$Configuration;Z)Z"⟩
abbrev cX2_addTo : ByteArray := prog_4_method_6_code
def yX2_addTo : MethodName := ⟨RX2, "addTo", "(LConfigDesk$Section;Z)Z"⟩
abbrev cX2_removeFrom : ByteArray := prog_4_method_7_code
def yX2_removeFrom : MethodName := ⟨RX2, "removeFrom", "(LConfigDesk$Section;IZ)Z"⟩
abbrev cX2_moveIn : ByteArray := prog_4_method_8_code
def yX2_moveIn : MethodName := ⟨RX2, "moveIn", "(LConfigDesk$Section;IZ)Z"⟩
abbrev cX2_setIn : ByteArray := prog_4_method_9_code
def yX2_setIn : MethodName := ⟨RX2, "setIn", "([II)Z"⟩
def RX3 : String := "ConfigDesk$EditList"
def TX3 : u_T := fun k => match k with
  | 0 => ("ConfigDesk$EditList", "count", "I", false)
  | 1 => ("ConfigDesk$EditList", "edits", "[LConfigDesk$Edit;", true)
  | _ => ("ConfigDesk$EditList", "left", "LConfigDesk$Section;", true)
def tyX3 : Nat → FieldType := fun k => match k with
  | 0 => .int
  | 1 => .array (.object "ConfigDesk$Edit")
  | _ => .object "ConfigDesk$Section"
abbrev wsX30 : List Cond := u_ws RX3 TX3 3
theorem nmX3 : ∀ a, a < 3 → ∀ b, b < 3 → a ≠ b → (TX3 a).2.1 ≠ (TX3 b).2.1 := by decide +kernel
theorem tyX3_ok : ∀ k, k < 3 → parseFieldDescriptor (TX3 k).2.2.1 = some (tyX3 k) := by decide +kernel
abbrev cX3_init : ByteArray := prog_5_method_1_code
def yX3_init : MethodName := ⟨RX3, "<init>", "()V"⟩
abbrev cX3_fill : ByteArray := prog_5_method_2_code
def yX3_fill : MethodName := ⟨RX3, "fill", "(LConfigDesk$Configuration;LConfigDesk$Configuration;)V"⟩
abbrev cX3_invert : ByteArray := prog_5_method_3_code
def yX3_invert : MethodName := ⟨RX3, "invert", "()V"⟩
abbrev cX3_applyTo : ByteArray := prog_5_method_4_code
def yX3_applyTo : MethodName := ⟨RX3, "applyTo", "(LConfigDesk$Configuration;Z)Z"⟩
abbrev cX3_noteRemovals : ByteArray := prog_5_method_5_code
def yX3_noteRemovals : MethodName := ⟨RX3, "noteRemovals", "(ILConfigDesk$Section;)V"⟩
abbrev cX3_notePlaces : ByteArray := prog_5_method_6_code
def yX3_notePlaces : MethodName := ⟨RX3, "notePlaces", "(ILConfigDesk$Section;)V"⟩
abbrev cX3_noteSettings : ByteArray := prog_5_method_7_code
def yX3_noteSettings : MethodName := ⟨RX3, "noteSettings", "(ILConfigDesk$Section;LConfigDesk$Section;)V"⟩
abbrev cX3_noteIfUnlike : ByteArray := prog_5_method_8_code
def yX3_noteIfUnlike : MethodName := ⟨RX3, "noteIfUnlike", "(IIIII)V"⟩
abbrev cX3_noteWhole : ByteArray := prog_5_method_9_code
def yX3_noteWhole : MethodName := ⟨RX3, "noteWhole", "(IILConfigDesk$Entry;II)V"⟩
abbrev cX3_note : ByteArray := prog_5_method_10_code
def yX3_note : MethodName := ⟨RX3, "note", "(IIIII)V"⟩
def RX4 : String := "ConfigDesk$Entry"
def TX4 : u_T := fun k => match k with
  | 0 => ("ConfigDesk$Entry", "key", "I", false)
  | _ => ("ConfigDesk$Entry", "settings", "[I", true)
def tyX4 : Nat → FieldType := fun k => match k with
  | 0 => .int
  | _ => .array .int
abbrev wsX40 : List Cond := u_ws RX4 TX4 2
theorem nmX4 : ∀ a, a < 2 → ∀ b, b < 2 → a ≠ b → (TX4 a).2.1 ≠ (TX4 b).2.1 := by decide +kernel
theorem tyX4_ok : ∀ k, k < 2 → parseFieldDescriptor (TX4 k).2.2.1 = some (tyX4 k) := by decide +kernel
abbrev cX4_init : ByteArray := prog_6_method_1_code
def yX4_init : MethodName := ⟨RX4, "<init>", "()V"⟩
abbrev cX4_clear : ByteArray := prog_6_method_2_code
def yX4_clear : MethodName := ⟨RX4, "clear", "(I)V"⟩
abbrev cX4_copyFrom : ByteArray := prog_6_method_3_code
def yX4_copyFrom : MethodName := ⟨RX4, "copyFrom", "(LConfigDesk$Entry;)V"⟩
abbrev cX4_isLike : ByteArray := prog_6_method_4_code
def yX4_isLike : MethodName := ⟨RX4, "isLike", "(LConfigDesk$Entry;)Z"⟩
def RX5 : String := "ConfigDesk$Rule"
def TX5 : u_T := fun k => match k with
  | 0 => ("ConfigDesk$Rule", "kind", "I", false)
  | 1 => ("ConfigDesk$Rule", "section", "I", false)
  | 2 => ("ConfigDesk$Rule", "field", "I", false)
  | _ => ("ConfigDesk$Rule", "number", "I", false)
def tyX5 : Nat → FieldType := fun k => match k with
  | 0 => .int
  | 1 => .int
  | 2 => .int
  | _ => .int
abbrev wsX50 : List Cond := u_ws RX5 TX5 4
theorem nmX5 : ∀ a, a < 4 → ∀ b, b < 4 → a ≠ b → (TX5 a).2.1 ≠ (TX5 b).2.1 := by decide +kernel
theorem tyX5_ok : ∀ k, k < 4 → parseFieldDescriptor (TX5 k).2.2.1 = some (tyX5 k) := by decide +kernel
abbrev cX5_init : ByteArray := prog_7_method_1_code
def yX5_init : MethodName := ⟨RX5, "<init>", "()V"⟩
abbrev cX5_isKeptBy : ByteArray := prog_7_method_2_code
def yX5_isKeptBy : MethodName := ⟨RX5, "isKeptBy", "(LConfigDesk$Configuration;)Z"⟩
abbrev cX5_isKeptAt : ByteArray := prog_7_method_3_code
def yX5_isKeptAt : MethodName := ⟨RX5, "isKeptAt", "(LConfigDesk$Configuration;I)Z"⟩
abbrev cX5_isShownAhead : ByteArray := prog_7_method_4_code
def yX5_isShownAhead : MethodName := ⟨RX5, "isShownAhead", "(LConfigDesk$Configuration;II)Z"⟩
abbrev cX5_shownAt : ByteArray := prog_7_method_5_code
def yX5_shownAt : MethodName := ⟨RX5, "shownAt", "(LConfigDesk$Configuration;I)I"⟩
def RX6 : String := "ConfigDesk$Section"
def TX6 : u_T := fun k => match k with
  | 0 => ("ConfigDesk$Section", "count", "I", false)
  | _ => ("ConfigDesk$Section", "entries", "[LConfigDesk$Entry;", true)
def tyX6 : Nat → FieldType := fun k => match k with
  | 0 => .int
  | _ => .array (.object "ConfigDesk$Entry")
abbrev wsX60 : List Cond := u_ws RX6 TX6 2
theorem nmX6 : ∀ a, a < 2 → ∀ b, b < 2 → a ≠ b → (TX6 a).2.1 ≠ (TX6 b).2.1 := by decide +kernel
theorem tyX6_ok : ∀ k, k < 2 → parseFieldDescriptor (TX6 k).2.2.1 = some (tyX6 k) := by decide +kernel
abbrev cX6_init : ByteArray := prog_8_method_1_code
def yX6_init : MethodName := ⟨RX6, "<init>", "()V"⟩
abbrev cX6_placeOf : ByteArray := prog_8_method_2_code
def yX6_placeOf : MethodName := ⟨RX6, "placeOf", "(I)I"⟩
abbrev cX6_hasPlace : ByteArray := prog_8_method_3_code
def yX6_hasPlace : MethodName := ⟨RX6, "hasPlace", "(I)Z"⟩
abbrev cX6_insert : ByteArray := prog_8_method_4_code
def yX6_insert : MethodName := ⟨RX6, "insert", "(ILConfigDesk$Entry;)V"⟩
abbrev cX6_takeOut : ByteArray := prog_8_method_5_code
def yX6_takeOut : MethodName := ⟨RX6, "takeOut", "(I)V"⟩
abbrev cX6_shift : ByteArray := prog_8_method_6_code
def yX6_shift : MethodName := ⟨RX6, "shift", "(II)V"⟩
abbrev cX6_copyFrom : ByteArray := prog_8_method_7_code
def yX6_copyFrom : MethodName := ⟨RX6, "copyFrom", "(LConfigDesk$Section;)V"⟩
abbrev cX6_isLike : ByteArray := prog_8_method_8_code
def yX6_isLike : MethodName := ⟨RX6, "isLike", "(LConfigDesk$Section;)Z"⟩
def RX7 : String := "ConfigDesk"
def TX7 : u_T := fun k => match k with
  | 0 => ("ConfigDesk", "candidates", "[LConfigDesk$Candidate;", true)
  | 1 => ("ConfigDesk", "versions", "[LConfigDesk$Configuration;", true)
  | 2 => ("ConfigDesk", "versionCount", "I", false)
  | 3 => ("ConfigDesk", "rules", "[LConfigDesk$Rule;", true)
  | 4 => ("ConfigDesk", "ruleCount", "I", false)
  | 5 => ("ConfigDesk", "minutesLeft", "I", false)
  | 6 => ("ConfigDesk", "versionAheadOfCommit", "I", false)
  | 7 => ("ConfigDesk", "list", "LConfigDesk$EditList;", true)
  | 8 => ("ConfigDesk", "draft", "LConfigDesk$Configuration;", true)
  | _ => ("ConfigDesk", "blank", "LConfigDesk$Entry;", true)
def tyX7 : Nat → FieldType := fun k => match k with
  | 0 => .array (.object "ConfigDesk$Candidate")
  | 1 => .array (.object "ConfigDesk$Configuration")
  | 2 => .int
  | 3 => .array (.object "ConfigDesk$Rule")
  | 4 => .int
  | 5 => .int
  | 6 => .int
  | 7 => .object "ConfigDesk$EditList"
  | 8 => .object "ConfigDesk$Configuration"
  | _ => .object "ConfigDesk$Entry"
abbrev wsX70 : List Cond := u_ws RX7 TX7 10
theorem nmX7 : ∀ a, a < 10 → ∀ b, b < 10 → a ≠ b → (TX7 a).2.1 ≠ (TX7 b).2.1 := by decide +kernel
theorem tyX7_ok : ∀ k, k < 10 → parseFieldDescriptor (TX7 k).2.2.1 = some (tyX7 k) := by decide +kernel
abbrev cX7_init : ByteArray := prog_1_method_1_code
def yX7_init : MethodName := ⟨RX7, "<init>", "()V"⟩
abbrev cX7_open : ByteArray := prog_1_method_2_code
def yX7_open : MethodName := ⟨RX7, "open", "(I)I"⟩
abbrev cX7_add : ByteArray := prog_1_method_3_code
def yX7_add : MethodName := ⟨RX7, "add", "(IIII)I"⟩
abbrev cX7_remove : ByteArray := prog_1_method_4_code
def yX7_remove : MethodName := ⟨RX7, "remove", "(III)I"⟩
abbrev cX7_move : ByteArray := prog_1_method_5_code
def yX7_move : MethodName := ⟨RX7, "move", "(IIII)I"⟩
abbrev cX7_set : ByteArray := prog_1_method_6_code
def yX7_set : MethodName := ⟨RX7, "set", "(IIIII)I"⟩
abbrev cX7_join : ByteArray := prog_1_method_7_code
def yX7_join : MethodName := ⟨RX7, "join", "(IIII)I"⟩
abbrev cX7_setGroup : ByteArray := prog_1_method_8_code
def yX7_setGroup : MethodName := ⟨RX7, "setGroup", "(IIII)I"⟩
abbrev cX7_load : ByteArray := prog_1_method_9_code
def yX7_load : MethodName := ⟨RX7, "load", "(II)V"⟩
abbrev cX7_apply : ByteArray := prog_1_method_10_code
def yX7_apply : MethodName := ⟨RX7, "apply", "(IIIZ)I"⟩
abbrev cX7_rule : ByteArray := prog_1_method_11_code
def yX7_rule : MethodName := ⟨RX7, "rule", "(IIII)I"⟩
abbrev cX7_faults : ByteArray := prog_1_method_12_code
def yX7_faults : MethodName := ⟨RX7, "faults", "(I)I"⟩
abbrev cX7_commit : ByteArray := prog_1_method_13_code
def yX7_commit : MethodName := ⟨RX7, "commit", "(II)I"⟩
abbrev cX7_confirm : ByteArray := prog_1_method_14_code
def yX7_confirm : MethodName := ⟨RX7, "confirm", "()I"⟩
abbrev cX7_advance : ByteArray := prog_1_method_15_code
def yX7_advance : MethodName := ⟨RX7, "advance", "(I)I"⟩
abbrev cX7_running : ByteArray := prog_1_method_16_code
def yX7_running : MethodName := ⟨RX7, "running", "()I"⟩
abbrev cX7_waiting : ByteArray := prog_1_method_17_code
def yX7_waiting : MethodName := ⟨RX7, "waiting", "()I"⟩
abbrev cX7_size : ByteArray := prog_1_method_18_code
def yX7_size : MethodName := ⟨RX7, "size", "(II)I"⟩
abbrev cX7_keyAt : ByteArray := prog_1_method_19_code
def yX7_keyAt : MethodName := ⟨RX7, "keyAt", "(III)I"⟩
abbrev cX7_shown : ByteArray := prog_1_method_20_code
def yX7_shown : MethodName := ⟨RX7, "shown", "(IIII)I"⟩
abbrev cX7_own : ByteArray := prog_1_method_21_code
def yX7_own : MethodName := ⟨RX7, "own", "(III)I"⟩
abbrev cX7_same : ByteArray := prog_1_method_22_code
def yX7_same : MethodName := ⟨RX7, "same", "(II)Z"⟩
abbrev cX7_edits : ByteArray := prog_1_method_23_code
def yX7_edits : MethodName := ⟨RX7, "edits", "(II)I"⟩
abbrev cX7_editAt : ByteArray := prog_1_method_24_code
def yX7_editAt : MethodName := ⟨RX7, "editAt", "(III)I"⟩
abbrev cX7_needIndex : ByteArray := prog_1_method_25_code
def yX7_needIndex : MethodName := ⟨RX7, "needIndex", "(II)V"⟩
abbrev cX7_needArgument : ByteArray := prog_1_method_26_code
def yX7_needArgument : MethodName := ⟨RX7, "needArgument", "(III)V"⟩
abbrev cX7_needEntryName : ByteArray := prog_1_method_27_code
def yX7_needEntryName : MethodName := ⟨RX7, "needEntryName", "(III)V"⟩
abbrev cX7_openConfiguration : ByteArray := prog_1_method_28_code
def yX7_openConfiguration : MethodName := ⟨RX7, "openConfiguration", "(I)LConfigDesk$Configuration;"⟩
abbrev cX7_placeOfEntry : ByteArray := prog_1_method_29_code
def yX7_placeOfEntry : MethodName := ⟨RX7, "placeOfEntry", "(LConfigDesk$Section;I)I"⟩
abbrev cX7_exchange : ByteArray := prog_1_method_30_code
def yX7_exchange : MethodName := ⟨RX7, "exchange", "(IIIII)I"⟩
abbrev cX7_configurationOf : ByteArray := prog_1_method_31_code
def yX7_configurationOf : MethodName := ⟨RX7, "configurationOf", "(I)LConfigDesk$Configuration;"⟩
abbrev cX7_sectionOf : ByteArray := prog_1_method_32_code
def yX7_sectionOf : MethodName := ⟨RX7, "sectionOf", "(II)LConfigDesk$Section;"⟩
abbrev cX7_entryOf : ByteArray := prog_1_method_33_code
def yX7_entryOf : MethodName := ⟨RX7, "entryOf", "(III)LConfigDesk$Entry;"⟩
abbrev cX7_brokenRules : ByteArray := prog_1_method_34_code
def yX7_brokenRules : MethodName := ⟨RX7, "brokenRules", "(LConfigDesk$Configuration;)I"⟩
abbrev cX7_addVersion : ByteArray := prog_1_method_35_code
def yX7_addVersion : MethodName := ⟨RX7, "addVersion", "(LConfigDesk$Configuration;)V"⟩
def RX8 : String := "ConfigDeskModel"
def TX8 : u_T := fun k => match k with
  | 0 => ("ConfigDeskModel", "rows", "[I", true)
  | 1 => ("ConfigDeskModel", "open", "[I", true)
  | 2 => ("ConfigDeskModel", "bases", "[I", true)
  | 3 => ("ConfigDeskModel", "running", "I", false)
  | 4 => ("ConfigDeskModel", "waits", "I", false)
  | 5 => ("ConfigDeskModel", "many", "I", false)
  | 6 => ("ConfigDeskModel", "kinds", "[I", true)
  | 7 => ("ConfigDeskModel", "sections", "[I", true)
  | 8 => ("ConfigDeskModel", "keys", "[I", true)
  | 9 => ("ConfigDeskModel", "befores", "[I", true)
  | 10 => ("ConfigDeskModel", "behinds", "[I", true)
  | 11 => ("ConfigDeskModel", "entries", "[I", true)
  | 12 => ("ConfigDeskModel", "rules", "I", false)
  | 13 => ("ConfigDeskModel", "ruleKinds", "[I", true)
  | 14 => ("ConfigDeskModel", "ruleSections", "[I", true)
  | 15 => ("ConfigDeskModel", "ruleFields", "[I", true)
  | 16 => ("ConfigDeskModel", "ruleNumbers", "[I", true)
  | _ => ("ConfigDeskModel", "thrown", "I", false)
def tyX8 : Nat → FieldType := fun k => match k with
  | 0 => .array .int
  | 1 => .array .int
  | 2 => .array .int
  | 3 => .int
  | 4 => .int
  | 5 => .int
  | 6 => .array .int
  | 7 => .array .int
  | 8 => .array .int
  | 9 => .array .int
  | 10 => .array .int
  | 11 => .array .int
  | 12 => .int
  | 13 => .array .int
  | 14 => .array .int
  | 15 => .array .int
  | 16 => .array .int
  | _ => .int
abbrev wsX80 : List Cond := u_ws RX8 TX8 18
theorem nmX8 : ∀ a, a < 18 → ∀ b, b < 18 → a ≠ b → (TX8 a).2.1 ≠ (TX8 b).2.1 := by decide +kernel
theorem tyX8_ok : ∀ k, k < 18 → parseFieldDescriptor (TX8 k).2.2.1 = some (tyX8 k) := by decide +kernel
abbrev cX8_init : ByteArray := prog_10_method_1_code
def yX8_init : MethodName := ⟨RX8, "<init>", "()V"⟩
abbrev cX8_thrown : ByteArray := prog_10_method_2_code
def yX8_thrown : MethodName := ⟨RX8, "thrown", "()I"⟩
abbrev cX8_fails : ByteArray := prog_10_method_3_code
def yX8_fails : MethodName := ⟨RX8, "fails", "(I)I"⟩
abbrev cX8_in : ByteArray := prog_10_method_4_code
def yX8_in : MethodName := ⟨RX8, "in", "(III)Z"⟩
abbrev cX8_at : ByteArray := prog_10_method_5_code
def yX8_at : MethodName := ⟨RX8, "at", "(III)I"⟩
abbrev cX8_many : ByteArray := prog_10_method_6_code
def yX8_many : MethodName := ⟨RX8, "many", "(II)I"⟩
abbrev cX8_groupAt : ByteArray := prog_10_method_7_code
def yX8_groupAt : MethodName := ⟨RX8, "groupAt", "(III)I"⟩
abbrev cX8_key : ByteArray := prog_10_method_8_code
def yX8_key : MethodName := ⟨RX8, "key", "(I)I"⟩
abbrev cX8_field : ByteArray := prog_10_method_9_code
def yX8_field : MethodName := ⟨RX8, "field", "(II)I"⟩
abbrev cX8_group : ByteArray := prog_10_method_10_code
def yX8_group : MethodName := ⟨RX8, "group", "(I)I"⟩
abbrev cX8_withField : ByteArray := prog_10_method_11_code
def yX8_withField : MethodName := ⟨RX8, "withField", "(III)I"⟩
abbrev cX8_withGroup : ByteArray := prog_10_method_12_code
def yX8_withGroup : MethodName := ⟨RX8, "withGroup", "(II)I"⟩
abbrev cX8_find : ByteArray := prog_10_method_13_code
def yX8_find : MethodName := ⟨RX8, "find", "(III)I"⟩
abbrev cX8_takes : ByteArray := prog_10_method_14_code
def yX8_takes : MethodName := ⟨RX8, "takes", "(III)V"⟩
abbrev cX8_puts : ByteArray := prog_10_method_15_code
def yX8_puts : MethodName := ⟨RX8, "puts", "(IIII)V"⟩
abbrev cX8_shifts : ByteArray := prog_10_method_16_code
def yX8_shifts : MethodName := ⟨RX8, "shifts", "(IIII)V"⟩
abbrev cX8_copies : ByteArray := prog_10_method_17_code
def yX8_copies : MethodName := ⟨RX8, "copies", "(II)V"⟩
abbrev cX8_slot : ByteArray := prog_10_method_18_code
def yX8_slot : MethodName := ⟨RX8, "slot", "(I)I"⟩
abbrev cX8_isField : ByteArray := prog_10_method_19_code
def yX8_isField : MethodName := ⟨RX8, "isField", "(I)Z"⟩
abbrev cX8_isSection : ByteArray := prog_10_method_20_code
def yX8_isSection : MethodName := ⟨RX8, "isSection", "(I)Z"⟩
abbrev cX8_isKey : ByteArray := prog_10_method_21_code
def yX8_isKey : MethodName := ⟨RX8, "isKey", "(II)Z"⟩
abbrev cX8_isCandidate : ByteArray := prog_10_method_22_code
def yX8_isCandidate : MethodName := ⟨RX8, "isCandidate", "(I)Z"⟩
abbrev cX8_open : ByteArray := prog_10_method_23_code
def yX8_open : MethodName := ⟨RX8, "open", "(I)I"⟩
abbrev cX8_add : ByteArray := prog_10_method_24_code
def yX8_add : MethodName := ⟨RX8, "add", "(IIII)I"⟩
abbrev cX8_entry : ByteArray := prog_10_method_25_code
def yX8_entry : MethodName := ⟨RX8, "entry", "(IIII)I"⟩
abbrev cX8_remove : ByteArray := prog_10_method_26_code
def yX8_remove : MethodName := ⟨RX8, "remove", "(III)I"⟩
abbrev cX8_move : ByteArray := prog_10_method_27_code
def yX8_move : MethodName := ⟨RX8, "move", "(IIII)I"⟩
abbrev cX8_set : ByteArray := prog_10_method_28_code
def yX8_set : MethodName := ⟨RX8, "set", "(IIIII)I"⟩
abbrev cX8_join : ByteArray := prog_10_method_29_code
def yX8_join : MethodName := ⟨RX8, "join", "(IIII)I"⟩
abbrev cX8_setGroup : ByteArray := prog_10_method_30_code
def yX8_setGroup : MethodName := ⟨RX8, "setGroup", "(IIII)I"⟩
abbrev cX8_load : ByteArray := prog_10_method_31_code
def yX8_load : MethodName := ⟨RX8, "load", "(II)V"⟩
abbrev cX8_notes : ByteArray := prog_10_method_32_code
def yX8_notes : MethodName := ⟨RX8, "notes", "(IIIIII)V"⟩
abbrev cX8_settles : ByteArray := prog_10_method_33_code
def yX8_settles : MethodName := ⟨RX8, "settles", "(III)V"⟩
abbrev cX8_lists : ByteArray := prog_10_method_34_code
def yX8_lists : MethodName := ⟨RX8, "lists", "(II)V"⟩
abbrev cX8_does : ByteArray := prog_10_method_35_code
def yX8_does : MethodName := ⟨RX8, "does", "(IIZZ)Z"⟩
abbrev cX8_doesAll : ByteArray := prog_10_method_36_code
def yX8_doesAll : MethodName := ⟨RX8, "doesAll", "(ZZ)Z"⟩
abbrev cX8_apply : ByteArray := prog_10_method_37_code
def yX8_apply : MethodName := ⟨RX8, "apply", "(IIIZ)I"⟩
abbrev cX8_rule : ByteArray := prog_10_method_38_code
def yX8_rule : MethodName := ⟨RX8, "rule", "(IIII)I"⟩
abbrev cX8_shows : ByteArray := prog_10_method_39_code
def yX8_shows : MethodName := ⟨RX8, "shows", "(IIII)I"⟩
abbrev cX8_isKept : ByteArray := prog_10_method_40_code
def yX8_isKept : MethodName := ⟨RX8, "isKept", "(II)Z"⟩
abbrev cX8_faultsOf : ByteArray := prog_10_method_41_code
def yX8_faultsOf : MethodName := ⟨RX8, "faultsOf", "(I)I"⟩
abbrev cX8_isThere : ByteArray := prog_10_method_42_code
def yX8_isThere : MethodName := ⟨RX8, "isThere", "(I)Z"⟩
abbrev cX8_faults : ByteArray := prog_10_method_43_code
def yX8_faults : MethodName := ⟨RX8, "faults", "(I)I"⟩
abbrev cX8_commit : ByteArray := prog_10_method_44_code
def yX8_commit : MethodName := ⟨RX8, "commit", "(II)I"⟩
abbrev cX8_confirm : ByteArray := prog_10_method_45_code
def yX8_confirm : MethodName := ⟨RX8, "confirm", "()I"⟩
abbrev cX8_advance : ByteArray := prog_10_method_46_code
def yX8_advance : MethodName := ⟨RX8, "advance", "(I)I"⟩
abbrev cX8_running : ByteArray := prog_10_method_47_code
def yX8_running : MethodName := ⟨RX8, "running", "()I"⟩
abbrev cX8_waiting : ByteArray := prog_10_method_48_code
def yX8_waiting : MethodName := ⟨RX8, "waiting", "()I"⟩
abbrev cX8_size : ByteArray := prog_10_method_49_code
def yX8_size : MethodName := ⟨RX8, "size", "(II)I"⟩
abbrev cX8_isEntry : ByteArray := prog_10_method_50_code
def yX8_isEntry : MethodName := ⟨RX8, "isEntry", "(III)Z"⟩
abbrev cX8_keyAt : ByteArray := prog_10_method_51_code
def yX8_keyAt : MethodName := ⟨RX8, "keyAt", "(III)I"⟩
abbrev cX8_shown : ByteArray := prog_10_method_52_code
def yX8_shown : MethodName := ⟨RX8, "shown", "(IIII)I"⟩
abbrev cX8_own : ByteArray := prog_10_method_53_code
def yX8_own : MethodName := ⟨RX8, "own", "(III)I"⟩
abbrev cX8_areThere : ByteArray := prog_10_method_54_code
def yX8_areThere : MethodName := ⟨RX8, "areThere", "(II)Z"⟩
abbrev cX8_same : ByteArray := prog_10_method_55_code
def yX8_same : MethodName := ⟨RX8, "same", "(II)Z"⟩
abbrev cX8_edits : ByteArray := prog_10_method_56_code
def yX8_edits : MethodName := ⟨RX8, "edits", "(II)I"⟩
abbrev cX8_editAt : ByteArray := prog_10_method_57_code
def yX8_editAt : MethodName := ⟨RX8, "editAt", "(III)I"⟩
def RJ9 : String := "java/lang/Math"
def TJ9 : u_T := fun k => match k with
  | _ => ("", "", "", false)
def tyJ9 : Nat → FieldType := fun k => match k with
  | _ => .int
abbrev wsJ90 : List Cond := u_ws RJ9 TJ9 0
theorem nmJ9 : ∀ a, a < 0 → ∀ b, b < 0 → a ≠ b → (TJ9 a).2.1 ≠ (TJ9 b).2.1 := by decide +kernel
theorem tyJ9_ok : ∀ k, k < 0 → parseFieldDescriptor (TJ9 k).2.2.1 = some (tyJ9 k) := by decide +kernel
abbrev cJ9_min_7cf53 : ByteArray := prog_15_method_69_code
def yJ9_min_7cf53 : MethodName := ⟨RJ9, "min", "(II)I"⟩
def RJ0 : String := "java/lang/String"
def TJ0 : u_T := fun k => match k with
  | _ => ("", "", "", false)
def tyJ0 : Nat → FieldType := fun k => match k with
  | _ => .int
abbrev wsJ00 : List Cond := u_ws RJ0 TJ0 0
theorem nmJ0 : ∀ a, a < 0 → ∀ b, b < 0 → a ≠ b → (TJ0 a).2.1 ≠ (TJ0 b).2.1 := by decide +kernel
theorem tyJ0_ok : ∀ k, k < 0 → parseFieldDescriptor (TJ0 k).2.2.1 = some (tyJ0 k) := by decide +kernel
def RL : String := "ConfigDeskLaw"
abbrev cL_open : ByteArray := method_3_code
def yL_open : MethodName := ⟨RL, "open", "(LConfigDesk;I[J)I"⟩
abbrev cL_add : ByteArray := method_4_code
def yL_add : MethodName := ⟨RL, "add", "(LConfigDesk;IIII[J)I"⟩
abbrev cL_remove : ByteArray := method_5_code
def yL_remove : MethodName := ⟨RL, "remove", "(LConfigDesk;III[J)I"⟩
abbrev cL_move : ByteArray := method_6_code
def yL_move : MethodName := ⟨RL, "move", "(LConfigDesk;IIII[J)I"⟩
abbrev cL_set : ByteArray := method_7_code
def yL_set : MethodName := ⟨RL, "set", "(LConfigDesk;IIIII[J)I"⟩
abbrev cL_join : ByteArray := method_8_code
def yL_join : MethodName := ⟨RL, "join", "(LConfigDesk;IIII[J)I"⟩
abbrev cL_setGroup : ByteArray := method_9_code
def yL_setGroup : MethodName := ⟨RL, "setGroup", "(LConfigDesk;IIII[J)I"⟩
abbrev cL_load : ByteArray := method_10_code
def yL_load : MethodName := ⟨RL, "load", "(LConfigDesk;II)I"⟩
abbrev cL_apply : ByteArray := method_11_code
def yL_apply : MethodName := ⟨RL, "apply", "(LConfigDesk;IIIZ[J)I"⟩
abbrev cL_rule : ByteArray := method_12_code
def yL_rule : MethodName := ⟨RL, "rule", "(LConfigDesk;IIII[J)I"⟩
abbrev cL_faults : ByteArray := method_13_code
def yL_faults : MethodName := ⟨RL, "faults", "(LConfigDesk;I[J)I"⟩
abbrev cL_commit : ByteArray := method_14_code
def yL_commit : MethodName := ⟨RL, "commit", "(LConfigDesk;II[J)I"⟩
abbrev cL_confirm : ByteArray := method_15_code
def yL_confirm : MethodName := ⟨RL, "confirm", "(LConfigDesk;[J)I"⟩
abbrev cL_advance : ByteArray := method_16_code
def yL_advance : MethodName := ⟨RL, "advance", "(LConfigDesk;I[J)I"⟩
abbrev cL_size : ByteArray := method_17_code
def yL_size : MethodName := ⟨RL, "size", "(LConfigDesk;II[J)I"⟩
abbrev cL_keyAt : ByteArray := method_18_code
def yL_keyAt : MethodName := ⟨RL, "keyAt", "(LConfigDesk;III[J)I"⟩
abbrev cL_shown : ByteArray := method_19_code
def yL_shown : MethodName := ⟨RL, "shown", "(LConfigDesk;IIII[J)I"⟩
abbrev cL_own : ByteArray := method_20_code
def yL_own : MethodName := ⟨RL, "own", "(LConfigDesk;III[J)I"⟩
abbrev cL_same : ByteArray := method_21_code
def yL_same : MethodName := ⟨RL, "same", "(LConfigDesk;II[J)I"⟩
abbrev cL_edits : ByteArray := method_22_code
def yL_edits : MethodName := ⟨RL, "edits", "(LConfigDesk;II[J)I"⟩
abbrev cL_editAt : ByteArray := method_23_code
def yL_editAt : MethodName := ⟨RL, "editAt", "(LConfigDesk;III[J)I"⟩
abbrev cL_law : ByteArray := code
def yL_law : MethodName := ⟨RL, "law", "([I)Z"⟩
abbrev vwCl : List vw_C := [(RX0, TX0, 3), (RX1, TX1, 2), (RX2, TX2, 6), (RX3, TX3, 3), (RX4, TX4, 2), (RX5, TX5, 4), (RX6, TX6, 2), (RX7, TX7, 10), (RX8, TX8, 18)]
end
section
theorem dX0_init_0 : decode cX0_init 0 = .ok (.aload_n 0, 1) := by decide +kernel
theorem dX0_init_1 : decode cX0_init 1 = .ok (.invokespecial 1, 3) := by decide +kernel
theorem dX0_init_4 : decode cX0_init 4 = .ok (.aload_n 0, 1) := by decide +kernel
theorem dX0_init_5 : decode cX0_init 5 = .ok (.new 7, 3) := by decide +kernel
theorem dX0_init_8 : decode cX0_init 8 = .ok (.dup, 1) := by decide +kernel
theorem dX0_init_9 : decode cX0_init 9 = .ok (.invokespecial 9, 3) := by decide +kernel
theorem dX0_init_12 : decode cX0_init 12 = .ok (.putfield 10, 3) := by decide +kernel
theorem dX0_init_15 : decode cX0_init 15 = .ok (.return_, 1) := by decide +kernel
theorem dX1_init_0 : decode cX1_init 0 = .ok (.aload_n 0, 1) := by decide +kernel
theorem dX1_init_1 : decode cX1_init 1 = .ok (.invokespecial 3, 3) := by decide +kernel
theorem dX1_init_4 : decode cX1_init 4 = .ok (.aload_n 0, 1) := by decide +kernel
theorem dX1_init_5 : decode cX1_init 5 = .ok (.iconst 3, 1) := by decide +kernel
theorem dX1_init_6 : decode cX1_init 6 = .ok (.anewarray 9, 3) := by decide +kernel
theorem dX1_init_9 : decode cX1_init 9 = .ok (.putfield 11, 3) := by decide +kernel
theorem dX1_init_12 : decode cX1_init 12 = .ok (.aload_n 0, 1) := by decide +kernel
theorem dX1_init_13 : decode cX1_init 13 = .ok (.iconst 3, 1) := by decide +kernel
theorem dX1_init_14 : decode cX1_init 14 = .ok (.iconst 2, 1) := by decide +kernel
theorem dX1_init_15 : decode cX1_init 15 = .ok (.multianewarray 17 2, 4) := by decide +kernel
theorem dX1_init_19 : decode cX1_init 19 = .ok (.putfield 19, 3) := by decide +kernel
theorem dX1_init_22 : decode cX1_init 22 = .ok (.iconst 0, 1) := by decide +kernel
theorem dX1_init_23 : decode cX1_init 23 = .ok (.istore_n 1, 1) := by decide +kernel
theorem dX1_init_24 : decode cX1_init 24 = .ok (.iload_n 1, 1) := by decide +kernel
theorem dX1_init_25 : decode cX1_init 25 = .ok (.iconst 3, 1) := by decide +kernel
theorem dX1_init_26 : decode cX1_init 26 = .ok (.if_icmp .ge 22, 3) := by decide +kernel
theorem dX1_init_29 : decode cX1_init 29 = .ok (.aload_n 0, 1) := by decide +kernel
theorem dX1_init_30 : decode cX1_init 30 = .ok (.getfield 11, 3) := by decide +kernel
theorem dX1_init_33 : decode cX1_init 33 = .ok (.iload_n 1, 1) := by decide +kernel
theorem dX1_init_34 : decode cX1_init 34 = .ok (.new 9, 3) := by decide +kernel
theorem dX1_init_37 : decode cX1_init 37 = .ok (.dup, 1) := by decide +kernel
theorem dX1_init_38 : decode cX1_init 38 = .ok (.invokespecial 22, 3) := by decide +kernel
theorem dX1_init_41 : decode cX1_init 41 = .ok (.aastore, 1) := by decide +kernel
theorem dX1_init_42 : decode cX1_init 42 = .ok (.iinc 1 1, 3) := by decide +kernel
theorem dX1_init_45 : decode cX1_init 45 = .ok (.goto (-21), 3) := by decide +kernel
theorem dX1_init_48 : decode cX1_init 48 = .ok (.iconst 0, 1) := by decide +kernel
theorem dX1_init_49 : decode cX1_init 49 = .ok (.istore_n 1, 1) := by decide +kernel
theorem dX1_init_50 : decode cX1_init 50 = .ok (.iload_n 1, 1) := by decide +kernel
theorem dX1_init_51 : decode cX1_init 51 = .ok (.iconst 3, 1) := by decide +kernel
theorem dX1_init_52 : decode cX1_init 52 = .ok (.if_icmp .ge 31, 3) := by decide +kernel
theorem dX1_init_55 : decode cX1_init 55 = .ok (.iconst 0, 1) := by decide +kernel
theorem dX1_init_56 : decode cX1_init 56 = .ok (.istore_n 2, 1) := by decide +kernel
theorem dX1_init_57 : decode cX1_init 57 = .ok (.iload_n 2, 1) := by decide +kernel
theorem dX1_init_58 : decode cX1_init 58 = .ok (.iconst 2, 1) := by decide +kernel
theorem dX1_init_59 : decode cX1_init 59 = .ok (.if_icmp .ge 18, 3) := by decide +kernel
theorem dX1_init_62 : decode cX1_init 62 = .ok (.aload_n 0, 1) := by decide +kernel
theorem dX1_init_63 : decode cX1_init 63 = .ok (.getfield 19, 3) := by decide +kernel
theorem dX1_init_66 : decode cX1_init 66 = .ok (.iload_n 1, 1) := by decide +kernel
theorem dX1_init_67 : decode cX1_init 67 = .ok (.aaload, 1) := by decide +kernel
theorem dX1_init_68 : decode cX1_init 68 = .ok (.iload_n 2, 1) := by decide +kernel
theorem dX1_init_69 : decode cX1_init 69 = .ok (.iconst (-1), 1) := by decide +kernel
theorem dX1_init_70 : decode cX1_init 70 = .ok (.iastore, 1) := by decide +kernel
theorem dX1_init_71 : decode cX1_init 71 = .ok (.iinc 2 1, 3) := by decide +kernel
theorem dX1_init_74 : decode cX1_init 74 = .ok (.goto (-17), 3) := by decide +kernel
theorem dX1_init_77 : decode cX1_init 77 = .ok (.iinc 1 1, 3) := by decide +kernel
theorem dX1_init_80 : decode cX1_init 80 = .ok (.goto (-30), 3) := by decide +kernel
theorem dX1_init_83 : decode cX1_init 83 = .ok (.return_, 1) := by decide +kernel
theorem dX1_valueShown_0 : decode cX1_valueShown 0 = .ok (.aload_n 1, 1) := by decide +kernel
theorem dX1_valueShown_1 : decode cX1_valueShown 1 = .ok (.getfield 23, 3) := by decide +kernel
theorem dX1_valueShown_4 : decode cX1_valueShown 4 = .ok (.iconst 2, 1) := by decide +kernel
theorem dX1_valueShown_5 : decode cX1_valueShown 5 = .ok (.iaload, 1) := by decide +kernel
theorem dX1_valueShown_6 : decode cX1_valueShown 6 = .ok (.istore_n 3, 1) := by decide +kernel
theorem dX1_valueShown_7 : decode cX1_valueShown 7 = .ok (.aload_n 1, 1) := by decide +kernel
theorem dX1_valueShown_8 : decode cX1_valueShown 8 = .ok (.getfield 23, 3) := by decide +kernel
theorem dX1_valueShown_11 : decode cX1_valueShown 11 = .ok (.iload_n 2, 1) := by decide +kernel
theorem dX1_valueShown_12 : decode cX1_valueShown 12 = .ok (.iaload, 1) := by decide +kernel
theorem dX1_valueShown_13 : decode cX1_valueShown 13 = .ok (.iconst (-1), 1) := by decide +kernel
theorem dX1_valueShown_14 : decode cX1_valueShown 14 = .ok (.if_icmp .ne 8, 3) := by decide +kernel
theorem dX1_valueShown_17 : decode cX1_valueShown 17 = .ok (.iload_n 3, 1) := by decide +kernel
theorem dX1_valueShown_18 : decode cX1_valueShown 18 = .ok (.iconst (-1), 1) := by decide +kernel
theorem dX1_valueShown_19 : decode cX1_valueShown 19 = .ok (.if_icmp .ne 10, 3) := by decide +kernel
theorem dX1_valueShown_22 : decode cX1_valueShown 22 = .ok (.aload_n 1, 1) := by decide +kernel
theorem dX1_valueShown_23 : decode cX1_valueShown 23 = .ok (.getfield 23, 3) := by decide +kernel
theorem dX1_valueShown_26 : decode cX1_valueShown 26 = .ok (.iload_n 2, 1) := by decide +kernel
theorem dX1_valueShown_27 : decode cX1_valueShown 27 = .ok (.iaload, 1) := by decide +kernel
theorem dX1_valueShown_28 : decode cX1_valueShown 28 = .ok (.ireturn, 1) := by decide +kernel
theorem dX1_valueShown_29 : decode cX1_valueShown 29 = .ok (.aload_n 0, 1) := by decide +kernel
theorem dX1_valueShown_30 : decode cX1_valueShown 30 = .ok (.getfield 19, 3) := by decide +kernel
theorem dX1_valueShown_33 : decode cX1_valueShown 33 = .ok (.iload_n 3, 1) := by decide +kernel
theorem dX1_valueShown_34 : decode cX1_valueShown 34 = .ok (.aaload, 1) := by decide +kernel
theorem dX1_valueShown_35 : decode cX1_valueShown 35 = .ok (.iload_n 2, 1) := by decide +kernel
theorem dX1_valueShown_36 : decode cX1_valueShown 36 = .ok (.iaload, 1) := by decide +kernel
theorem dX1_valueShown_37 : decode cX1_valueShown 37 = .ok (.ireturn, 1) := by decide +kernel
theorem dX1_copyFrom_0 : decode cX1_copyFrom 0 = .ok (.iconst 0, 1) := by decide +kernel
theorem dX1_copyFrom_1 : decode cX1_copyFrom 1 = .ok (.istore_n 2, 1) := by decide +kernel
theorem dX1_copyFrom_2 : decode cX1_copyFrom 2 = .ok (.iload_n 2, 1) := by decide +kernel
theorem dX1_copyFrom_3 : decode cX1_copyFrom 3 = .ok (.iconst 3, 1) := by decide +kernel
theorem dX1_copyFrom_4 : decode cX1_copyFrom 4 = .ok (.if_icmp .ge 24, 3) := by decide +kernel
theorem dX1_copyFrom_7 : decode cX1_copyFrom 7 = .ok (.aload_n 0, 1) := by decide +kernel
theorem dX1_copyFrom_8 : decode cX1_copyFrom 8 = .ok (.getfield 11, 3) := by decide +kernel
theorem dX1_copyFrom_11 : decode cX1_copyFrom 11 = .ok (.iload_n 2, 1) := by decide +kernel
theorem dX1_copyFrom_12 : decode cX1_copyFrom 12 = .ok (.aaload, 1) := by decide +kernel
theorem dX1_copyFrom_13 : decode cX1_copyFrom 13 = .ok (.aload_n 1, 1) := by decide +kernel
theorem dX1_copyFrom_14 : decode cX1_copyFrom 14 = .ok (.getfield 11, 3) := by decide +kernel
theorem dX1_copyFrom_17 : decode cX1_copyFrom 17 = .ok (.iload_n 2, 1) := by decide +kernel
theorem dX1_copyFrom_18 : decode cX1_copyFrom 18 = .ok (.aaload, 1) := by decide +kernel
theorem dX1_copyFrom_19 : decode cX1_copyFrom 19 = .ok (.invokevirtual 29, 3) := by decide +kernel
theorem dX1_copyFrom_22 : decode cX1_copyFrom 22 = .ok (.iinc 2 1, 3) := by decide +kernel
theorem dX1_copyFrom_25 : decode cX1_copyFrom 25 = .ok (.goto (-23), 3) := by decide +kernel
theorem dX1_copyFrom_28 : decode cX1_copyFrom 28 = .ok (.iconst 0, 1) := by decide +kernel
theorem dX1_copyFrom_29 : decode cX1_copyFrom 29 = .ok (.istore_n 2, 1) := by decide +kernel
theorem dX1_copyFrom_30 : decode cX1_copyFrom 30 = .ok (.iload_n 2, 1) := by decide +kernel
theorem dX1_copyFrom_31 : decode cX1_copyFrom 31 = .ok (.iconst 3, 1) := by decide +kernel
theorem dX1_copyFrom_32 : decode cX1_copyFrom 32 = .ok (.if_icmp .ge 38, 3) := by decide +kernel
theorem dX1_copyFrom_35 : decode cX1_copyFrom 35 = .ok (.iconst 0, 1) := by decide +kernel
theorem dX1_copyFrom_36 : decode cX1_copyFrom 36 = .ok (.istore_n 3, 1) := by decide +kernel
theorem dX1_copyFrom_37 : decode cX1_copyFrom 37 = .ok (.iload_n 3, 1) := by decide +kernel
theorem dX1_copyFrom_38 : decode cX1_copyFrom 38 = .ok (.iconst 2, 1) := by decide +kernel
theorem dX1_copyFrom_39 : decode cX1_copyFrom 39 = .ok (.if_icmp .ge 25, 3) := by decide +kernel
theorem dX1_copyFrom_42 : decode cX1_copyFrom 42 = .ok (.aload_n 0, 1) := by decide +kernel
theorem dX1_copyFrom_43 : decode cX1_copyFrom 43 = .ok (.getfield 19, 3) := by decide +kernel
theorem dX1_copyFrom_46 : decode cX1_copyFrom 46 = .ok (.iload_n 2, 1) := by decide +kernel
theorem dX1_copyFrom_47 : decode cX1_copyFrom 47 = .ok (.aaload, 1) := by decide +kernel
theorem dX1_copyFrom_48 : decode cX1_copyFrom 48 = .ok (.iload_n 3, 1) := by decide +kernel
theorem dX1_copyFrom_49 : decode cX1_copyFrom 49 = .ok (.aload_n 1, 1) := by decide +kernel
theorem dX1_copyFrom_50 : decode cX1_copyFrom 50 = .ok (.getfield 19, 3) := by decide +kernel
theorem dX1_copyFrom_53 : decode cX1_copyFrom 53 = .ok (.iload_n 2, 1) := by decide +kernel
theorem dX1_copyFrom_54 : decode cX1_copyFrom 54 = .ok (.aaload, 1) := by decide +kernel
theorem dX1_copyFrom_55 : decode cX1_copyFrom 55 = .ok (.iload_n 3, 1) := by decide +kernel
theorem dX1_copyFrom_56 : decode cX1_copyFrom 56 = .ok (.iaload, 1) := by decide +kernel
theorem dX1_copyFrom_57 : decode cX1_copyFrom 57 = .ok (.iastore, 1) := by decide +kernel
theorem dX1_copyFrom_58 : decode cX1_copyFrom 58 = .ok (.iinc 3 1, 3) := by decide +kernel
theorem dX1_copyFrom_61 : decode cX1_copyFrom 61 = .ok (.goto (-24), 3) := by decide +kernel
theorem dX1_copyFrom_64 : decode cX1_copyFrom 64 = .ok (.iinc 2 1, 3) := by decide +kernel
theorem dX1_copyFrom_67 : decode cX1_copyFrom 67 = .ok (.goto (-37), 3) := by decide +kernel
theorem dX1_copyFrom_70 : decode cX1_copyFrom 70 = .ok (.return_, 1) := by decide +kernel
theorem dX1_isLike_0 : decode cX1_isLike 0 = .ok (.iconst 0, 1) := by decide +kernel
theorem dX1_isLike_1 : decode cX1_isLike 1 = .ok (.istore_n 2, 1) := by decide +kernel
theorem dX1_isLike_2 : decode cX1_isLike 2 = .ok (.iload_n 2, 1) := by decide +kernel
theorem dX1_isLike_3 : decode cX1_isLike 3 = .ok (.iconst 3, 1) := by decide +kernel
theorem dX1_isLike_4 : decode cX1_isLike 4 = .ok (.if_icmp .ge 29, 3) := by decide +kernel
theorem dX1_isLike_7 : decode cX1_isLike 7 = .ok (.aload_n 0, 1) := by decide +kernel
theorem dX1_isLike_8 : decode cX1_isLike 8 = .ok (.getfield 11, 3) := by decide +kernel
theorem dX1_isLike_11 : decode cX1_isLike 11 = .ok (.iload_n 2, 1) := by decide +kernel
theorem dX1_isLike_12 : decode cX1_isLike 12 = .ok (.aaload, 1) := by decide +kernel
theorem dX1_isLike_13 : decode cX1_isLike 13 = .ok (.aload_n 1, 1) := by decide +kernel
theorem dX1_isLike_14 : decode cX1_isLike 14 = .ok (.getfield 11, 3) := by decide +kernel
theorem dX1_isLike_17 : decode cX1_isLike 17 = .ok (.iload_n 2, 1) := by decide +kernel
theorem dX1_isLike_18 : decode cX1_isLike 18 = .ok (.aaload, 1) := by decide +kernel
theorem dX1_isLike_19 : decode cX1_isLike 19 = .ok (.invokevirtual 33, 3) := by decide +kernel
theorem dX1_isLike_22 : decode cX1_isLike 22 = .ok (.ifCond .ne 5, 3) := by decide +kernel
theorem dX1_isLike_25 : decode cX1_isLike 25 = .ok (.iconst 0, 1) := by decide +kernel
theorem dX1_isLike_26 : decode cX1_isLike 26 = .ok (.ireturn, 1) := by decide +kernel
theorem dX1_isLike_27 : decode cX1_isLike 27 = .ok (.iinc 2 1, 3) := by decide +kernel
theorem dX1_isLike_30 : decode cX1_isLike 30 = .ok (.goto (-28), 3) := by decide +kernel
theorem dX1_isLike_33 : decode cX1_isLike 33 = .ok (.iconst 0, 1) := by decide +kernel
theorem dX1_isLike_34 : decode cX1_isLike 34 = .ok (.istore_n 2, 1) := by decide +kernel
theorem dX1_isLike_35 : decode cX1_isLike 35 = .ok (.iload_n 2, 1) := by decide +kernel
theorem dX1_isLike_36 : decode cX1_isLike 36 = .ok (.iconst 3, 1) := by decide +kernel
theorem dX1_isLike_37 : decode cX1_isLike 37 = .ok (.if_icmp .ge 43, 3) := by decide +kernel
theorem dX1_isLike_40 : decode cX1_isLike 40 = .ok (.iconst 0, 1) := by decide +kernel
theorem dX1_isLike_41 : decode cX1_isLike 41 = .ok (.istore_n 3, 1) := by decide +kernel
theorem dX1_isLike_42 : decode cX1_isLike 42 = .ok (.iload_n 3, 1) := by decide +kernel
theorem dX1_isLike_43 : decode cX1_isLike 43 = .ok (.iconst 2, 1) := by decide +kernel
theorem dX1_isLike_44 : decode cX1_isLike 44 = .ok (.if_icmp .ge 30, 3) := by decide +kernel
theorem dX1_isLike_47 : decode cX1_isLike 47 = .ok (.aload_n 0, 1) := by decide +kernel
theorem dX1_isLike_48 : decode cX1_isLike 48 = .ok (.getfield 19, 3) := by decide +kernel
theorem dX1_isLike_51 : decode cX1_isLike 51 = .ok (.iload_n 2, 1) := by decide +kernel
theorem dX1_isLike_52 : decode cX1_isLike 52 = .ok (.aaload, 1) := by decide +kernel
theorem dX1_isLike_53 : decode cX1_isLike 53 = .ok (.iload_n 3, 1) := by decide +kernel
theorem dX1_isLike_54 : decode cX1_isLike 54 = .ok (.iaload, 1) := by decide +kernel
theorem dX1_isLike_55 : decode cX1_isLike 55 = .ok (.aload_n 1, 1) := by decide +kernel
theorem dX1_isLike_56 : decode cX1_isLike 56 = .ok (.getfield 19, 3) := by decide +kernel
theorem dX1_isLike_59 : decode cX1_isLike 59 = .ok (.iload_n 2, 1) := by decide +kernel
theorem dX1_isLike_60 : decode cX1_isLike 60 = .ok (.aaload, 1) := by decide +kernel
theorem dX1_isLike_61 : decode cX1_isLike 61 = .ok (.iload_n 3, 1) := by decide +kernel
theorem dX1_isLike_62 : decode cX1_isLike 62 = .ok (.iaload, 1) := by decide +kernel
theorem dX1_isLike_63 : decode cX1_isLike 63 = .ok (.if_icmp .eq 5, 3) := by decide +kernel
theorem dX1_isLike_66 : decode cX1_isLike 66 = .ok (.iconst 0, 1) := by decide +kernel
theorem dX1_isLike_67 : decode cX1_isLike 67 = .ok (.ireturn, 1) := by decide +kernel
theorem dX1_isLike_68 : decode cX1_isLike 68 = .ok (.iinc 3 1, 3) := by decide +kernel
theorem dX1_isLike_71 : decode cX1_isLike 71 = .ok (.goto (-29), 3) := by decide +kernel
theorem dX1_isLike_74 : decode cX1_isLike 74 = .ok (.iinc 2 1, 3) := by decide +kernel
theorem dX1_isLike_77 : decode cX1_isLike 77 = .ok (.goto (-42), 3) := by decide +kernel
theorem dX1_isLike_80 : decode cX1_isLike 80 = .ok (.iconst 1, 1) := by decide +kernel
theorem dX1_isLike_81 : decode cX1_isLike 81 = .ok (.ireturn, 1) := by decide +kernel
theorem dX2_init_0 : decode cX2_init 0 = .ok (.aload_n 0, 1) := by decide +kernel
theorem dX2_init_1 : decode cX2_init 1 = .ok (.invokespecial 3, 3) := by decide +kernel
theorem dX2_init_4 : decode cX2_init 4 = .ok (.aload_n 0, 1) := by decide +kernel
theorem dX2_init_5 : decode cX2_init 5 = .ok (.new 9, 3) := by decide +kernel
theorem dX2_init_8 : decode cX2_init 8 = .ok (.dup, 1) := by decide +kernel
theorem dX2_init_9 : decode cX2_init 9 = .ok (.invokespecial 11, 3) := by decide +kernel
theorem dX2_init_12 : decode cX2_init 12 = .ok (.putfield 12, 3) := by decide +kernel
theorem dX2_init_15 : decode cX2_init 15 = .ok (.return_, 1) := by decide +kernel
theorem dX2_become_0 : decode cX2_become 0 = .ok (.aload_n 0, 1) := by decide +kernel
theorem dX2_become_1 : decode cX2_become 1 = .ok (.iload_n 1, 1) := by decide +kernel
theorem dX2_become_2 : decode cX2_become 2 = .ok (.putfield 18, 3) := by decide +kernel
theorem dX2_become_5 : decode cX2_become 5 = .ok (.aload_n 0, 1) := by decide +kernel
theorem dX2_become_6 : decode cX2_become 6 = .ok (.iload_n 2, 1) := by decide +kernel
theorem dX2_become_7 : decode cX2_become 7 = .ok (.putfield 22, 3) := by decide +kernel
theorem dX2_become_10 : decode cX2_become 10 = .ok (.aload_n 0, 1) := by decide +kernel
theorem dX2_become_11 : decode cX2_become 11 = .ok (.iload_n 3, 1) := by decide +kernel
theorem dX2_become_12 : decode cX2_become 12 = .ok (.putfield 25, 3) := by decide +kernel
theorem dX2_become_15 : decode cX2_become 15 = .ok (.aload_n 0, 1) := by decide +kernel
theorem dX2_become_16 : decode cX2_become 16 = .ok (.iload 4, 2) := by decide +kernel
theorem dX2_become_18 : decode cX2_become 18 = .ok (.putfield 28, 3) := by decide +kernel
theorem dX2_become_21 : decode cX2_become 21 = .ok (.aload_n 0, 1) := by decide +kernel
theorem dX2_become_22 : decode cX2_become 22 = .ok (.iload 5, 2) := by decide +kernel
theorem dX2_become_24 : decode cX2_become 24 = .ok (.putfield 31, 3) := by decide +kernel
theorem dX2_become_27 : decode cX2_become 27 = .ok (.return_, 1) := by decide +kernel
theorem dX2_code_0 : decode cX2_code 0 = .ok (.aload_n 0, 1) := by decide +kernel
theorem dX2_code_1 : decode cX2_code 1 = .ok (.getfield 18, 3) := by decide +kernel
theorem dX2_code_4 : decode cX2_code 4 = .ok (.bipush 7, 2) := by decide +kernel
theorem dX2_code_6 : decode cX2_code 6 = .ok (.if_icmp .lt 23, 3) := by decide +kernel
theorem dX2_code_9 : decode cX2_code 9 = .ok (.sipush 900, 3) := by decide +kernel
theorem dX2_code_12 : decode cX2_code 12 = .ok (.bipush 10, 2) := by decide +kernel
theorem dX2_code_14 : decode cX2_code 14 = .ok (.aload_n 0, 1) := by decide +kernel
theorem dX2_code_15 : decode cX2_code 15 = .ok (.getfield 25, 3) := by decide +kernel
theorem dX2_code_18 : decode cX2_code 18 = .ok (.imul, 1) := by decide +kernel
theorem dX2_code_19 : decode cX2_code 19 = .ok (.iadd, 1) := by decide +kernel
theorem dX2_code_20 : decode cX2_code 20 = .ok (.aload_n 0, 1) := by decide +kernel
theorem dX2_code_21 : decode cX2_code 21 = .ok (.getfield 18, 3) := by decide +kernel
theorem dX2_code_24 : decode cX2_code 24 = .ok (.iadd, 1) := by decide +kernel
theorem dX2_code_25 : decode cX2_code 25 = .ok (.bipush 7, 2) := by decide +kernel
theorem dX2_code_27 : decode cX2_code 27 = .ok (.isub, 1) := by decide +kernel
theorem dX2_code_28 : decode cX2_code 28 = .ok (.ireturn, 1) := by decide +kernel
theorem dX2_code_29 : decode cX2_code 29 = .ok (.bipush 100, 2) := by decide +kernel
theorem dX2_code_31 : decode cX2_code 31 = .ok (.aload_n 0, 1) := by decide +kernel
theorem dX2_code_32 : decode cX2_code 32 = .ok (.getfield 22, 3) := by decide +kernel
theorem dX2_code_35 : decode cX2_code 35 = .ok (.imul, 1) := by decide +kernel
theorem dX2_code_36 : decode cX2_code 36 = .ok (.bipush 10, 2) := by decide +kernel
theorem dX2_code_38 : decode cX2_code 38 = .ok (.aload_n 0, 1) := by decide +kernel
theorem dX2_code_39 : decode cX2_code 39 = .ok (.getfield 25, 3) := by decide +kernel
theorem dX2_code_42 : decode cX2_code 42 = .ok (.imul, 1) := by decide +kernel
theorem dX2_code_43 : decode cX2_code 43 = .ok (.iadd, 1) := by decide +kernel
theorem dX2_code_44 : decode cX2_code 44 = .ok (.aload_n 0, 1) := by decide +kernel
theorem dX2_code_45 : decode cX2_code 45 = .ok (.getfield 18, 3) := by decide +kernel
theorem dX2_code_48 : decode cX2_code 48 = .ok (.iadd, 1) := by decide +kernel
theorem dX2_code_49 : decode cX2_code 49 = .ok (.ireturn, 1) := by decide +kernel
theorem dX2_invert_0 : decode cX2_invert 0 = .ok (.aload_n 0, 1) := by decide +kernel
theorem dX2_invert_1 : decode cX2_invert 1 = .ok (.getfield 18, 3) := by decide +kernel
theorem dX2_invert_4 : decode cX2_invert 4 = .ok (.iconst 1, 1) := by decide +kernel
theorem dX2_invert_5 : decode cX2_invert 5 = .ok (.if_icmp .ne 11, 3) := by decide +kernel
theorem dX2_invert_8 : decode cX2_invert 8 = .ok (.aload_n 0, 1) := by decide +kernel
theorem dX2_invert_9 : decode cX2_invert 9 = .ok (.iconst 2, 1) := by decide +kernel
theorem dX2_invert_10 : decode cX2_invert 10 = .ok (.putfield 18, 3) := by decide +kernel
theorem dX2_invert_13 : decode cX2_invert 13 = .ok (.goto 16, 3) := by decide +kernel
theorem dX2_invert_16 : decode cX2_invert 16 = .ok (.aload_n 0, 1) := by decide +kernel
theorem dX2_invert_17 : decode cX2_invert 17 = .ok (.getfield 18, 3) := by decide +kernel
theorem dX2_invert_20 : decode cX2_invert 20 = .ok (.iconst 2, 1) := by decide +kernel
theorem dX2_invert_21 : decode cX2_invert 21 = .ok (.if_icmp .ne 8, 3) := by decide +kernel
theorem dX2_invert_24 : decode cX2_invert 24 = .ok (.aload_n 0, 1) := by decide +kernel
theorem dX2_invert_25 : decode cX2_invert 25 = .ok (.iconst 1, 1) := by decide +kernel
theorem dX2_invert_26 : decode cX2_invert 26 = .ok (.putfield 18, 3) := by decide +kernel
theorem dX2_invert_29 : decode cX2_invert 29 = .ok (.aload_n 0, 1) := by decide +kernel
theorem dX2_invert_30 : decode cX2_invert 30 = .ok (.getfield 28, 3) := by decide +kernel
theorem dX2_invert_33 : decode cX2_invert 33 = .ok (.istore_n 1, 1) := by decide +kernel
theorem dX2_invert_34 : decode cX2_invert 34 = .ok (.aload_n 0, 1) := by decide +kernel
theorem dX2_invert_35 : decode cX2_invert 35 = .ok (.aload_n 0, 1) := by decide +kernel
theorem dX2_invert_36 : decode cX2_invert 36 = .ok (.getfield 31, 3) := by decide +kernel
theorem dX2_invert_39 : decode cX2_invert 39 = .ok (.putfield 28, 3) := by decide +kernel
theorem dX2_invert_42 : decode cX2_invert 42 = .ok (.aload_n 0, 1) := by decide +kernel
theorem dX2_invert_43 : decode cX2_invert 43 = .ok (.iload_n 1, 1) := by decide +kernel
theorem dX2_invert_44 : decode cX2_invert 44 = .ok (.putfield 31, 3) := by decide +kernel
theorem dX2_invert_47 : decode cX2_invert 47 = .ok (.return_, 1) := by decide +kernel
theorem dX2_applyTo_0 : decode cX2_applyTo 0 = .ok (.aload_n 0, 1) := by decide +kernel
theorem dX2_applyTo_1 : decode cX2_applyTo 1 = .ok (.getfield 18, 3) := by decide +kernel
theorem dX2_applyTo_4 : decode cX2_applyTo 4 = .ok (.bipush 7, 2) := by decide +kernel
theorem dX2_applyTo_6 : decode cX2_applyTo 6 = .ok (.if_icmp .lt 24, 3) := by decide +kernel
theorem dX2_applyTo_9 : decode cX2_applyTo 9 = .ok (.aload_n 0, 1) := by decide +kernel
theorem dX2_applyTo_10 : decode cX2_applyTo 10 = .ok (.aload_n 1, 1) := by decide +kernel
theorem dX2_applyTo_11 : decode cX2_applyTo 11 = .ok (.getfield 34, 3) := by decide +kernel
theorem dX2_applyTo_14 : decode cX2_applyTo 14 = .ok (.aload_n 0, 1) := by decide +kernel
theorem dX2_applyTo_15 : decode cX2_applyTo 15 = .ok (.getfield 25, 3) := by decide +kernel
theorem dX2_applyTo_18 : decode cX2_applyTo 18 = .ok (.aaload, 1) := by decide +kernel
theorem dX2_applyTo_19 : decode cX2_applyTo 19 = .ok (.aload_n 0, 1) := by decide +kernel
theorem dX2_applyTo_20 : decode cX2_applyTo 20 = .ok (.getfield 18, 3) := by decide +kernel
theorem dX2_applyTo_23 : decode cX2_applyTo 23 = .ok (.bipush 7, 2) := by decide +kernel
theorem dX2_applyTo_25 : decode cX2_applyTo 25 = .ok (.isub, 1) := by decide +kernel
theorem dX2_applyTo_26 : decode cX2_applyTo 26 = .ok (.invokevirtual 40, 3) := by decide +kernel
theorem dX2_applyTo_29 : decode cX2_applyTo 29 = .ok (.ireturn, 1) := by decide +kernel
theorem dX2_applyTo_30 : decode cX2_applyTo 30 = .ok (.aload_n 1, 1) := by decide +kernel
theorem dX2_applyTo_31 : decode cX2_applyTo 31 = .ok (.getfield 44, 3) := by decide +kernel
theorem dX2_applyTo_34 : decode cX2_applyTo 34 = .ok (.aload_n 0, 1) := by decide +kernel
theorem dX2_applyTo_35 : decode cX2_applyTo 35 = .ok (.getfield 22, 3) := by decide +kernel
theorem dX2_applyTo_38 : decode cX2_applyTo 38 = .ok (.aaload, 1) := by decide +kernel
theorem dX2_applyTo_39 : decode cX2_applyTo 39 = .ok (.astore_n 3, 1) := by decide +kernel
theorem dX2_applyTo_40 : decode cX2_applyTo 40 = .ok (.aload_n 3, 1) := by decide +kernel
theorem dX2_applyTo_41 : decode cX2_applyTo 41 = .ok (.aload_n 0, 1) := by decide +kernel
theorem dX2_applyTo_42 : decode cX2_applyTo 42 = .ok (.getfield 25, 3) := by decide +kernel
theorem dX2_applyTo_45 : decode cX2_applyTo 45 = .ok (.invokevirtual 48, 3) := by decide +kernel
theorem dX2_applyTo_48 : decode cX2_applyTo 48 = .ok (.istore 4, 2) := by decide +kernel
theorem dX2_applyTo_50 : decode cX2_applyTo 50 = .ok (.aload_n 0, 1) := by decide +kernel
theorem dX2_applyTo_51 : decode cX2_applyTo 51 = .ok (.getfield 18, 3) := by decide +kernel
theorem dX2_applyTo_54 : decode cX2_applyTo 54 = .ok (.iconst 2, 1) := by decide +kernel
theorem dX2_applyTo_55 : decode cX2_applyTo 55 = .ok (.if_icmp .ne 24, 3) := by decide +kernel
theorem dX2_applyTo_58 : decode cX2_applyTo 58 = .ok (.iload 4, 2) := by decide +kernel
theorem dX2_applyTo_60 : decode cX2_applyTo 60 = .ok (.iconst (-1), 1) := by decide +kernel
theorem dX2_applyTo_61 : decode cX2_applyTo 61 = .ok (.if_icmp .ne 16, 3) := by decide +kernel
theorem dX2_applyTo_64 : decode cX2_applyTo 64 = .ok (.aload_n 0, 1) := by decide +kernel
theorem dX2_applyTo_65 : decode cX2_applyTo 65 = .ok (.aload_n 3, 1) := by decide +kernel
theorem dX2_applyTo_66 : decode cX2_applyTo 66 = .ok (.iload_n 2, 1) := by decide +kernel
theorem dX2_applyTo_67 : decode cX2_applyTo 67 = .ok (.invokevirtual 54, 3) := by decide +kernel
theorem dX2_applyTo_70 : decode cX2_applyTo 70 = .ok (.ifCond .eq 7, 3) := by decide +kernel
theorem dX2_applyTo_73 : decode cX2_applyTo 73 = .ok (.iconst 1, 1) := by decide +kernel
theorem dX2_applyTo_74 : decode cX2_applyTo 74 = .ok (.goto 4, 3) := by decide +kernel
theorem dX2_applyTo_77 : decode cX2_applyTo 77 = .ok (.iconst 0, 1) := by decide +kernel
theorem dX2_applyTo_78 : decode cX2_applyTo 78 = .ok (.ireturn, 1) := by decide +kernel
theorem dX2_applyTo_79 : decode cX2_applyTo 79 = .ok (.iload 4, 2) := by decide +kernel
theorem dX2_applyTo_81 : decode cX2_applyTo 81 = .ok (.iconst (-1), 1) := by decide +kernel
theorem dX2_applyTo_82 : decode cX2_applyTo 82 = .ok (.if_icmp .ne 5, 3) := by decide +kernel
theorem dX2_applyTo_85 : decode cX2_applyTo 85 = .ok (.iconst 0, 1) := by decide +kernel
theorem dX2_applyTo_86 : decode cX2_applyTo 86 = .ok (.ireturn, 1) := by decide +kernel
theorem dX2_applyTo_87 : decode cX2_applyTo 87 = .ok (.aload_n 0, 1) := by decide +kernel
theorem dX2_applyTo_88 : decode cX2_applyTo 88 = .ok (.getfield 18, 3) := by decide +kernel
theorem dX2_applyTo_91 : decode cX2_applyTo 91 = .ok (.iconst 1, 1) := by decide +kernel
theorem dX2_applyTo_92 : decode cX2_applyTo 92 = .ok (.if_icmp .ne 12, 3) := by decide +kernel
theorem dX2_applyTo_95 : decode cX2_applyTo 95 = .ok (.aload_n 0, 1) := by decide +kernel
theorem dX2_applyTo_96 : decode cX2_applyTo 96 = .ok (.aload_n 3, 1) := by decide +kernel
theorem dX2_applyTo_97 : decode cX2_applyTo 97 = .ok (.iload 4, 2) := by decide +kernel
theorem dX2_applyTo_99 : decode cX2_applyTo 99 = .ok (.iload_n 2, 1) := by decide +kernel
theorem dX2_applyTo_100 : decode cX2_applyTo 100 = .ok (.invokevirtual 58, 3) := by decide +kernel
theorem dX2_applyTo_103 : decode cX2_applyTo 103 = .ok (.ireturn, 1) := by decide +kernel
theorem dX2_applyTo_104 : decode cX2_applyTo 104 = .ok (.aload_n 0, 1) := by decide +kernel
theorem dX2_applyTo_105 : decode cX2_applyTo 105 = .ok (.getfield 18, 3) := by decide +kernel
theorem dX2_applyTo_108 : decode cX2_applyTo 108 = .ok (.iconst 3, 1) := by decide +kernel
theorem dX2_applyTo_109 : decode cX2_applyTo 109 = .ok (.if_icmp .ne 12, 3) := by decide +kernel
theorem dX2_applyTo_112 : decode cX2_applyTo 112 = .ok (.aload_n 0, 1) := by decide +kernel
theorem dX2_applyTo_113 : decode cX2_applyTo 113 = .ok (.aload_n 3, 1) := by decide +kernel
theorem dX2_applyTo_114 : decode cX2_applyTo 114 = .ok (.iload 4, 2) := by decide +kernel
theorem dX2_applyTo_116 : decode cX2_applyTo 116 = .ok (.iload_n 2, 1) := by decide +kernel
theorem dX2_applyTo_117 : decode cX2_applyTo 117 = .ok (.invokevirtual 62, 3) := by decide +kernel
theorem dX2_applyTo_120 : decode cX2_applyTo 120 = .ok (.ireturn, 1) := by decide +kernel
theorem dX2_applyTo_121 : decode cX2_applyTo 121 = .ok (.aload_n 0, 1) := by decide +kernel
theorem dX2_applyTo_122 : decode cX2_applyTo 122 = .ok (.aload_n 3, 1) := by decide +kernel
theorem dX2_applyTo_123 : decode cX2_applyTo 123 = .ok (.getfield 65, 3) := by decide +kernel
theorem dX2_applyTo_126 : decode cX2_applyTo 126 = .ok (.iload 4, 2) := by decide +kernel
theorem dX2_applyTo_128 : decode cX2_applyTo 128 = .ok (.aaload, 1) := by decide +kernel
theorem dX2_applyTo_129 : decode cX2_applyTo 129 = .ok (.getfield 69, 3) := by decide +kernel
theorem dX2_applyTo_132 : decode cX2_applyTo 132 = .ok (.aload_n 0, 1) := by decide +kernel
theorem dX2_applyTo_133 : decode cX2_applyTo 133 = .ok (.getfield 18, 3) := by decide +kernel
theorem dX2_applyTo_136 : decode cX2_applyTo 136 = .ok (.iconst 4, 1) := by decide +kernel
theorem dX2_applyTo_137 : decode cX2_applyTo 137 = .ok (.isub, 1) := by decide +kernel
theorem dX2_applyTo_138 : decode cX2_applyTo 138 = .ok (.invokevirtual 40, 3) := by decide +kernel
theorem dX2_applyTo_141 : decode cX2_applyTo 141 = .ok (.ireturn, 1) := by decide +kernel
theorem dX2_addTo_0 : decode cX2_addTo 0 = .ok (.aload_n 1, 1) := by decide +kernel
theorem dX2_addTo_1 : decode cX2_addTo 1 = .ok (.getfield 73, 3) := by decide +kernel
theorem dX2_addTo_4 : decode cX2_addTo 4 = .ok (.bipush 6, 2) := by decide +kernel
theorem dX2_addTo_6 : decode cX2_addTo 6 = .ok (.if_icmp .ge 18, 3) := by decide +kernel
theorem dX2_addTo_9 : decode cX2_addTo 9 = .ok (.iload_n 2, 1) := by decide +kernel
theorem dX2_addTo_10 : decode cX2_addTo 10 = .ok (.ifCond .ne 16, 3) := by decide +kernel
theorem dX2_addTo_13 : decode cX2_addTo 13 = .ok (.aload_n 0, 1) := by decide +kernel
theorem dX2_addTo_14 : decode cX2_addTo 14 = .ok (.getfield 31, 3) := by decide +kernel
theorem dX2_addTo_17 : decode cX2_addTo 17 = .ok (.aload_n 1, 1) := by decide +kernel
theorem dX2_addTo_18 : decode cX2_addTo 18 = .ok (.getfield 73, 3) := by decide +kernel
theorem dX2_addTo_21 : decode cX2_addTo 21 = .ok (.if_icmp .le 5, 3) := by decide +kernel
theorem dX2_addTo_24 : decode cX2_addTo 24 = .ok (.iconst 0, 1) := by decide +kernel
theorem dX2_addTo_25 : decode cX2_addTo 25 = .ok (.ireturn, 1) := by decide +kernel
theorem dX2_addTo_26 : decode cX2_addTo 26 = .ok (.aload_n 1, 1) := by decide +kernel
theorem dX2_addTo_27 : decode cX2_addTo 27 = .ok (.aload_n 0, 1) := by decide +kernel
theorem dX2_addTo_28 : decode cX2_addTo 28 = .ok (.getfield 31, 3) := by decide +kernel
theorem dX2_addTo_31 : decode cX2_addTo 31 = .ok (.aload_n 1, 1) := by decide +kernel
theorem dX2_addTo_32 : decode cX2_addTo 32 = .ok (.getfield 73, 3) := by decide +kernel
theorem dX2_addTo_35 : decode cX2_addTo 35 = .ok (.invokestatic 76, 3) := by decide +kernel
theorem dX2_addTo_38 : decode cX2_addTo 38 = .ok (.aload_n 0, 1) := by decide +kernel
theorem dX2_addTo_39 : decode cX2_addTo 39 = .ok (.getfield 12, 3) := by decide +kernel
theorem dX2_addTo_42 : decode cX2_addTo 42 = .ok (.invokevirtual 82, 3) := by decide +kernel
theorem dX2_addTo_45 : decode cX2_addTo 45 = .ok (.iconst 1, 1) := by decide +kernel
theorem dX2_addTo_46 : decode cX2_addTo 46 = .ok (.ireturn, 1) := by decide +kernel
theorem dX2_removeFrom_0 : decode cX2_removeFrom 0 = .ok (.iload_n 3, 1) := by decide +kernel
theorem dX2_removeFrom_1 : decode cX2_removeFrom 1 = .ok (.ifCond .ne 11, 3) := by decide +kernel
theorem dX2_removeFrom_4 : decode cX2_removeFrom 4 = .ok (.iload_n 2, 1) := by decide +kernel
theorem dX2_removeFrom_5 : decode cX2_removeFrom 5 = .ok (.aload_n 0, 1) := by decide +kernel
theorem dX2_removeFrom_6 : decode cX2_removeFrom 6 = .ok (.getfield 28, 3) := by decide +kernel
theorem dX2_removeFrom_9 : decode cX2_removeFrom 9 = .ok (.if_icmp .ne 19, 3) := by decide +kernel
theorem dX2_removeFrom_12 : decode cX2_removeFrom 12 = .ok (.aload_n 1, 1) := by decide +kernel
theorem dX2_removeFrom_13 : decode cX2_removeFrom 13 = .ok (.getfield 65, 3) := by decide +kernel
theorem dX2_removeFrom_16 : decode cX2_removeFrom 16 = .ok (.iload_n 2, 1) := by decide +kernel
theorem dX2_removeFrom_17 : decode cX2_removeFrom 17 = .ok (.aaload, 1) := by decide +kernel
theorem dX2_removeFrom_18 : decode cX2_removeFrom 18 = .ok (.aload_n 0, 1) := by decide +kernel
theorem dX2_removeFrom_19 : decode cX2_removeFrom 19 = .ok (.getfield 12, 3) := by decide +kernel
theorem dX2_removeFrom_22 : decode cX2_removeFrom 22 = .ok (.invokevirtual 86, 3) := by decide +kernel
theorem dX2_removeFrom_25 : decode cX2_removeFrom 25 = .ok (.ifCond .ne 5, 3) := by decide +kernel
theorem dX2_removeFrom_28 : decode cX2_removeFrom 28 = .ok (.iconst 0, 1) := by decide +kernel
theorem dX2_removeFrom_29 : decode cX2_removeFrom 29 = .ok (.ireturn, 1) := by decide +kernel
theorem dX2_removeFrom_30 : decode cX2_removeFrom 30 = .ok (.aload_n 1, 1) := by decide +kernel
theorem dX2_removeFrom_31 : decode cX2_removeFrom 31 = .ok (.iload_n 2, 1) := by decide +kernel
theorem dX2_removeFrom_32 : decode cX2_removeFrom 32 = .ok (.invokevirtual 90, 3) := by decide +kernel
theorem dX2_removeFrom_35 : decode cX2_removeFrom 35 = .ok (.iconst 1, 1) := by decide +kernel
theorem dX2_removeFrom_36 : decode cX2_removeFrom 36 = .ok (.ireturn, 1) := by decide +kernel
theorem dX2_moveIn_0 : decode cX2_moveIn 0 = .ok (.iload_n 3, 1) := by decide +kernel
theorem dX2_moveIn_1 : decode cX2_moveIn 1 = .ok (.ifCond .ne 24, 3) := by decide +kernel
theorem dX2_moveIn_4 : decode cX2_moveIn 4 = .ok (.iload_n 2, 1) := by decide +kernel
theorem dX2_moveIn_5 : decode cX2_moveIn 5 = .ok (.aload_n 0, 1) := by decide +kernel
theorem dX2_moveIn_6 : decode cX2_moveIn 6 = .ok (.getfield 28, 3) := by decide +kernel
theorem dX2_moveIn_9 : decode cX2_moveIn 9 = .ok (.if_icmp .ne 14, 3) := by decide +kernel
theorem dX2_moveIn_12 : decode cX2_moveIn 12 = .ok (.aload_n 0, 1) := by decide +kernel
theorem dX2_moveIn_13 : decode cX2_moveIn 13 = .ok (.getfield 31, 3) := by decide +kernel
theorem dX2_moveIn_16 : decode cX2_moveIn 16 = .ok (.aload_n 1, 1) := by decide +kernel
theorem dX2_moveIn_17 : decode cX2_moveIn 17 = .ok (.getfield 73, 3) := by decide +kernel
theorem dX2_moveIn_20 : decode cX2_moveIn 20 = .ok (.if_icmp .lt 5, 3) := by decide +kernel
theorem dX2_moveIn_23 : decode cX2_moveIn 23 = .ok (.iconst 0, 1) := by decide +kernel
theorem dX2_moveIn_24 : decode cX2_moveIn 24 = .ok (.ireturn, 1) := by decide +kernel
theorem dX2_moveIn_25 : decode cX2_moveIn 25 = .ok (.aload_n 1, 1) := by decide +kernel
theorem dX2_moveIn_26 : decode cX2_moveIn 26 = .ok (.iload_n 2, 1) := by decide +kernel
theorem dX2_moveIn_27 : decode cX2_moveIn 27 = .ok (.aload_n 0, 1) := by decide +kernel
theorem dX2_moveIn_28 : decode cX2_moveIn 28 = .ok (.getfield 31, 3) := by decide +kernel
theorem dX2_moveIn_31 : decode cX2_moveIn 31 = .ok (.aload_n 1, 1) := by decide +kernel
theorem dX2_moveIn_32 : decode cX2_moveIn 32 = .ok (.getfield 73, 3) := by decide +kernel
theorem dX2_moveIn_35 : decode cX2_moveIn 35 = .ok (.iconst 1, 1) := by decide +kernel
theorem dX2_moveIn_36 : decode cX2_moveIn 36 = .ok (.isub, 1) := by decide +kernel
theorem dX2_moveIn_37 : decode cX2_moveIn 37 = .ok (.invokestatic 76, 3) := by decide +kernel
theorem dX2_moveIn_40 : decode cX2_moveIn 40 = .ok (.invokevirtual 94, 3) := by decide +kernel
theorem dX2_moveIn_43 : decode cX2_moveIn 43 = .ok (.iconst 1, 1) := by decide +kernel
theorem dX2_moveIn_44 : decode cX2_moveIn 44 = .ok (.ireturn, 1) := by decide +kernel
theorem dX2_setIn_0 : decode cX2_setIn 0 = .ok (.iload_n 2, 1) := by decide +kernel
theorem dX2_setIn_1 : decode cX2_setIn 1 = .ok (.ifCond .lt 19, 3) := by decide +kernel
theorem dX2_setIn_4 : decode cX2_setIn 4 = .ok (.iload_n 2, 1) := by decide +kernel
theorem dX2_setIn_5 : decode cX2_setIn 5 = .ok (.aload_n 1, 1) := by decide +kernel
theorem dX2_setIn_6 : decode cX2_setIn 6 = .ok (.arraylength, 1) := by decide +kernel
theorem dX2_setIn_7 : decode cX2_setIn 7 = .ok (.if_icmp .ge 13, 3) := by decide +kernel
theorem dX2_setIn_10 : decode cX2_setIn 10 = .ok (.aload_n 1, 1) := by decide +kernel
theorem dX2_setIn_11 : decode cX2_setIn 11 = .ok (.iload_n 2, 1) := by decide +kernel
theorem dX2_setIn_12 : decode cX2_setIn 12 = .ok (.iaload, 1) := by decide +kernel
theorem dX2_setIn_13 : decode cX2_setIn 13 = .ok (.aload_n 0, 1) := by decide +kernel
theorem dX2_setIn_14 : decode cX2_setIn 14 = .ok (.getfield 28, 3) := by decide +kernel
theorem dX2_setIn_17 : decode cX2_setIn 17 = .ok (.if_icmp .eq 5, 3) := by decide +kernel
theorem dX2_setIn_20 : decode cX2_setIn 20 = .ok (.iconst 0, 1) := by decide +kernel
theorem dX2_setIn_21 : decode cX2_setIn 21 = .ok (.ireturn, 1) := by decide +kernel
theorem dX2_setIn_22 : decode cX2_setIn 22 = .ok (.aload_n 1, 1) := by decide +kernel
theorem dX2_setIn_23 : decode cX2_setIn 23 = .ok (.iload_n 2, 1) := by decide +kernel
theorem dX2_setIn_24 : decode cX2_setIn 24 = .ok (.aload_n 0, 1) := by decide +kernel
theorem dX2_setIn_25 : decode cX2_setIn 25 = .ok (.getfield 31, 3) := by decide +kernel
theorem dX2_setIn_28 : decode cX2_setIn 28 = .ok (.iastore, 1) := by decide +kernel
theorem dX2_setIn_29 : decode cX2_setIn 29 = .ok (.iconst 1, 1) := by decide +kernel
theorem dX2_setIn_30 : decode cX2_setIn 30 = .ok (.ireturn, 1) := by decide +kernel
theorem dX3_init_0 : decode cX3_init 0 = .ok (.aload_n 0, 1) := by decide +kernel
theorem dX3_init_1 : decode cX3_init 1 = .ok (.invokespecial 3, 3) := by decide +kernel
theorem dX3_init_4 : decode cX3_init 4 = .ok (.aload_n 0, 1) := by decide +kernel
theorem dX3_init_5 : decode cX3_init 5 = .ok (.bipush 78, 2) := by decide +kernel
theorem dX3_init_7 : decode cX3_init 7 = .ok (.anewarray 9, 3) := by decide +kernel
theorem dX3_init_10 : decode cX3_init 10 = .ok (.putfield 11, 3) := by decide +kernel
theorem dX3_init_13 : decode cX3_init 13 = .ok (.aload_n 0, 1) := by decide +kernel
theorem dX3_init_14 : decode cX3_init 14 = .ok (.new 17, 3) := by decide +kernel
theorem dX3_init_17 : decode cX3_init 17 = .ok (.dup, 1) := by decide +kernel
theorem dX3_init_18 : decode cX3_init 18 = .ok (.invokespecial 19, 3) := by decide +kernel
theorem dX3_init_21 : decode cX3_init 21 = .ok (.putfield 20, 3) := by decide +kernel
theorem dX3_init_24 : decode cX3_init 24 = .ok (.iconst 0, 1) := by decide +kernel
theorem dX3_init_25 : decode cX3_init 25 = .ok (.istore_n 1, 1) := by decide +kernel
theorem dX3_init_26 : decode cX3_init 26 = .ok (.iload_n 1, 1) := by decide +kernel
theorem dX3_init_27 : decode cX3_init 27 = .ok (.bipush 78, 2) := by decide +kernel
theorem dX3_init_29 : decode cX3_init 29 = .ok (.if_icmp .ge 22, 3) := by decide +kernel
theorem dX3_init_32 : decode cX3_init 32 = .ok (.aload_n 0, 1) := by decide +kernel
theorem dX3_init_33 : decode cX3_init 33 = .ok (.getfield 11, 3) := by decide +kernel
theorem dX3_init_36 : decode cX3_init 36 = .ok (.iload_n 1, 1) := by decide +kernel
theorem dX3_init_37 : decode cX3_init 37 = .ok (.new 9, 3) := by decide +kernel
theorem dX3_init_40 : decode cX3_init 40 = .ok (.dup, 1) := by decide +kernel
theorem dX3_init_41 : decode cX3_init 41 = .ok (.invokespecial 24, 3) := by decide +kernel
theorem dX3_init_44 : decode cX3_init 44 = .ok (.aastore, 1) := by decide +kernel
theorem dX3_init_45 : decode cX3_init 45 = .ok (.iinc 1 1, 3) := by decide +kernel
theorem dX3_init_48 : decode cX3_init 48 = .ok (.goto (-22), 3) := by decide +kernel
theorem dX3_init_51 : decode cX3_init 51 = .ok (.return_, 1) := by decide +kernel
theorem dX3_fill_0 : decode cX3_fill 0 = .ok (.aload_n 0, 1) := by decide +kernel
theorem dX3_fill_1 : decode cX3_fill 1 = .ok (.iconst 0, 1) := by decide +kernel
theorem dX3_fill_2 : decode cX3_fill 2 = .ok (.putfield 25, 3) := by decide +kernel
theorem dX3_fill_5 : decode cX3_fill 5 = .ok (.iconst 0, 1) := by decide +kernel
theorem dX3_fill_6 : decode cX3_fill 6 = .ok (.istore_n 3, 1) := by decide +kernel
theorem dX3_fill_7 : decode cX3_fill 7 = .ok (.iload_n 3, 1) := by decide +kernel
theorem dX3_fill_8 : decode cX3_fill 8 = .ok (.iconst 3, 1) := by decide +kernel
theorem dX3_fill_9 : decode cX3_fill 9 = .ok (.if_icmp .ge 61, 3) := by decide +kernel
theorem dX3_fill_12 : decode cX3_fill 12 = .ok (.aload_n 0, 1) := by decide +kernel
theorem dX3_fill_13 : decode cX3_fill 13 = .ok (.getfield 20, 3) := by decide +kernel
theorem dX3_fill_16 : decode cX3_fill 16 = .ok (.aload_n 1, 1) := by decide +kernel
theorem dX3_fill_17 : decode cX3_fill 17 = .ok (.getfield 29, 3) := by decide +kernel
theorem dX3_fill_20 : decode cX3_fill 20 = .ok (.iload_n 3, 1) := by decide +kernel
theorem dX3_fill_21 : decode cX3_fill 21 = .ok (.aaload, 1) := by decide +kernel
theorem dX3_fill_22 : decode cX3_fill 22 = .ok (.invokevirtual 35, 3) := by decide +kernel
theorem dX3_fill_25 : decode cX3_fill 25 = .ok (.aload_n 0, 1) := by decide +kernel
theorem dX3_fill_26 : decode cX3_fill 26 = .ok (.iload_n 3, 1) := by decide +kernel
theorem dX3_fill_27 : decode cX3_fill 27 = .ok (.aload_n 2, 1) := by decide +kernel
theorem dX3_fill_28 : decode cX3_fill 28 = .ok (.getfield 29, 3) := by decide +kernel
theorem dX3_fill_31 : decode cX3_fill 31 = .ok (.iload_n 3, 1) := by decide +kernel
theorem dX3_fill_32 : decode cX3_fill 32 = .ok (.aaload, 1) := by decide +kernel
theorem dX3_fill_33 : decode cX3_fill 33 = .ok (.invokevirtual 39, 3) := by decide +kernel
theorem dX3_fill_36 : decode cX3_fill 36 = .ok (.aload_n 0, 1) := by decide +kernel
theorem dX3_fill_37 : decode cX3_fill 37 = .ok (.iload_n 3, 1) := by decide +kernel
theorem dX3_fill_38 : decode cX3_fill 38 = .ok (.aload_n 2, 1) := by decide +kernel
theorem dX3_fill_39 : decode cX3_fill 39 = .ok (.getfield 29, 3) := by decide +kernel
theorem dX3_fill_42 : decode cX3_fill 42 = .ok (.iload_n 3, 1) := by decide +kernel
theorem dX3_fill_43 : decode cX3_fill 43 = .ok (.aaload, 1) := by decide +kernel
theorem dX3_fill_44 : decode cX3_fill 44 = .ok (.invokevirtual 43, 3) := by decide +kernel
theorem dX3_fill_47 : decode cX3_fill 47 = .ok (.aload_n 0, 1) := by decide +kernel
theorem dX3_fill_48 : decode cX3_fill 48 = .ok (.iload_n 3, 1) := by decide +kernel
theorem dX3_fill_49 : decode cX3_fill 49 = .ok (.aload_n 1, 1) := by decide +kernel
theorem dX3_fill_50 : decode cX3_fill 50 = .ok (.getfield 29, 3) := by decide +kernel
theorem dX3_fill_53 : decode cX3_fill 53 = .ok (.iload_n 3, 1) := by decide +kernel
theorem dX3_fill_54 : decode cX3_fill 54 = .ok (.aaload, 1) := by decide +kernel
theorem dX3_fill_55 : decode cX3_fill 55 = .ok (.aload_n 2, 1) := by decide +kernel
theorem dX3_fill_56 : decode cX3_fill 56 = .ok (.getfield 29, 3) := by decide +kernel
theorem dX3_fill_59 : decode cX3_fill 59 = .ok (.iload_n 3, 1) := by decide +kernel
theorem dX3_fill_60 : decode cX3_fill 60 = .ok (.aaload, 1) := by decide +kernel
theorem dX3_fill_61 : decode cX3_fill 61 = .ok (.invokevirtual 46, 3) := by decide +kernel
theorem dX3_fill_64 : decode cX3_fill 64 = .ok (.iinc 3 1, 3) := by decide +kernel
theorem dX3_fill_67 : decode cX3_fill 67 = .ok (.goto (-60), 3) := by decide +kernel
theorem dX3_fill_70 : decode cX3_fill 70 = .ok (.iconst 0, 1) := by decide +kernel
theorem dX3_fill_71 : decode cX3_fill 71 = .ok (.istore_n 3, 1) := by decide +kernel
theorem dX3_fill_72 : decode cX3_fill 72 = .ok (.iload_n 3, 1) := by decide +kernel
theorem dX3_fill_73 : decode cX3_fill 73 = .ok (.iconst 3, 1) := by decide +kernel
theorem dX3_fill_74 : decode cX3_fill 74 = .ok (.if_icmp .ge 53, 3) := by decide +kernel
theorem dX3_fill_77 : decode cX3_fill 77 = .ok (.iconst 0, 1) := by decide +kernel
theorem dX3_fill_78 : decode cX3_fill 78 = .ok (.istore 4, 2) := by decide +kernel
theorem dX3_fill_80 : decode cX3_fill 80 = .ok (.iload 4, 2) := by decide +kernel
theorem dX3_fill_82 : decode cX3_fill 82 = .ok (.iconst 2, 1) := by decide +kernel
theorem dX3_fill_83 : decode cX3_fill 83 = .ok (.if_icmp .ge 38, 3) := by decide +kernel
theorem dX3_fill_86 : decode cX3_fill 86 = .ok (.aload_n 0, 1) := by decide +kernel
theorem dX3_fill_87 : decode cX3_fill 87 = .ok (.bipush 7, 2) := by decide +kernel
theorem dX3_fill_89 : decode cX3_fill 89 = .ok (.iload 4, 2) := by decide +kernel
theorem dX3_fill_91 : decode cX3_fill 91 = .ok (.iadd, 1) := by decide +kernel
theorem dX3_fill_92 : decode cX3_fill 92 = .ok (.iconst 0, 1) := by decide +kernel
theorem dX3_fill_93 : decode cX3_fill 93 = .ok (.iload_n 3, 1) := by decide +kernel
theorem dX3_fill_94 : decode cX3_fill 94 = .ok (.aload_n 1, 1) := by decide +kernel
theorem dX3_fill_95 : decode cX3_fill 95 = .ok (.getfield 50, 3) := by decide +kernel
theorem dX3_fill_98 : decode cX3_fill 98 = .ok (.iload_n 3, 1) := by decide +kernel
theorem dX3_fill_99 : decode cX3_fill 99 = .ok (.aaload, 1) := by decide +kernel
theorem dX3_fill_100 : decode cX3_fill 100 = .ok (.iload 4, 2) := by decide +kernel
theorem dX3_fill_102 : decode cX3_fill 102 = .ok (.iaload, 1) := by decide +kernel
theorem dX3_fill_103 : decode cX3_fill 103 = .ok (.aload_n 2, 1) := by decide +kernel
theorem dX3_fill_104 : decode cX3_fill 104 = .ok (.getfield 50, 3) := by decide +kernel
theorem dX3_fill_107 : decode cX3_fill 107 = .ok (.iload_n 3, 1) := by decide +kernel
theorem dX3_fill_108 : decode cX3_fill 108 = .ok (.aaload, 1) := by decide +kernel
theorem dX3_fill_109 : decode cX3_fill 109 = .ok (.iload 4, 2) := by decide +kernel
theorem dX3_fill_111 : decode cX3_fill 111 = .ok (.iaload, 1) := by decide +kernel
theorem dX3_fill_112 : decode cX3_fill 112 = .ok (.invokevirtual 54, 3) := by decide +kernel
theorem dX3_fill_115 : decode cX3_fill 115 = .ok (.iinc 4 1, 3) := by decide +kernel
theorem dX3_fill_118 : decode cX3_fill 118 = .ok (.goto (-38), 3) := by decide +kernel
theorem dX3_fill_121 : decode cX3_fill 121 = .ok (.iinc 3 1, 3) := by decide +kernel
theorem dX3_fill_124 : decode cX3_fill 124 = .ok (.goto (-52), 3) := by decide +kernel
theorem dX3_fill_127 : decode cX3_fill 127 = .ok (.return_, 1) := by decide +kernel
theorem dX3_invert_0 : decode cX3_invert 0 = .ok (.iconst 0, 1) := by decide +kernel
theorem dX3_invert_1 : decode cX3_invert 1 = .ok (.istore_n 1, 1) := by decide +kernel
theorem dX3_invert_2 : decode cX3_invert 2 = .ok (.aload_n 0, 1) := by decide +kernel
theorem dX3_invert_3 : decode cX3_invert 3 = .ok (.getfield 25, 3) := by decide +kernel
theorem dX3_invert_6 : decode cX3_invert 6 = .ok (.iconst 1, 1) := by decide +kernel
theorem dX3_invert_7 : decode cX3_invert 7 = .ok (.isub, 1) := by decide +kernel
theorem dX3_invert_8 : decode cX3_invert 8 = .ok (.istore_n 2, 1) := by decide +kernel
theorem dX3_invert_9 : decode cX3_invert 9 = .ok (.iload_n 1, 1) := by decide +kernel
theorem dX3_invert_10 : decode cX3_invert 10 = .ok (.iload_n 2, 1) := by decide +kernel
theorem dX3_invert_11 : decode cX3_invert 11 = .ok (.if_icmp .ge 38, 3) := by decide +kernel
theorem dX3_invert_14 : decode cX3_invert 14 = .ok (.aload_n 0, 1) := by decide +kernel
theorem dX3_invert_15 : decode cX3_invert 15 = .ok (.getfield 11, 3) := by decide +kernel
theorem dX3_invert_18 : decode cX3_invert 18 = .ok (.iload_n 1, 1) := by decide +kernel
theorem dX3_invert_19 : decode cX3_invert 19 = .ok (.aaload, 1) := by decide +kernel
theorem dX3_invert_20 : decode cX3_invert 20 = .ok (.astore_n 3, 1) := by decide +kernel
theorem dX3_invert_21 : decode cX3_invert 21 = .ok (.aload_n 0, 1) := by decide +kernel
theorem dX3_invert_22 : decode cX3_invert 22 = .ok (.getfield 11, 3) := by decide +kernel
theorem dX3_invert_25 : decode cX3_invert 25 = .ok (.iload_n 1, 1) := by decide +kernel
theorem dX3_invert_26 : decode cX3_invert 26 = .ok (.aload_n 0, 1) := by decide +kernel
theorem dX3_invert_27 : decode cX3_invert 27 = .ok (.getfield 11, 3) := by decide +kernel
theorem dX3_invert_30 : decode cX3_invert 30 = .ok (.iload_n 2, 1) := by decide +kernel
theorem dX3_invert_31 : decode cX3_invert 31 = .ok (.aaload, 1) := by decide +kernel
theorem dX3_invert_32 : decode cX3_invert 32 = .ok (.aastore, 1) := by decide +kernel
theorem dX3_invert_33 : decode cX3_invert 33 = .ok (.aload_n 0, 1) := by decide +kernel
theorem dX3_invert_34 : decode cX3_invert 34 = .ok (.getfield 11, 3) := by decide +kernel
theorem dX3_invert_37 : decode cX3_invert 37 = .ok (.iload_n 2, 1) := by decide +kernel
theorem dX3_invert_38 : decode cX3_invert 38 = .ok (.aload_n 3, 1) := by decide +kernel
theorem dX3_invert_39 : decode cX3_invert 39 = .ok (.aastore, 1) := by decide +kernel
theorem dX3_invert_40 : decode cX3_invert 40 = .ok (.iinc 1 1, 3) := by decide +kernel
theorem dX3_invert_43 : decode cX3_invert 43 = .ok (.iinc 2 (-1), 3) := by decide +kernel
theorem dX3_invert_46 : decode cX3_invert 46 = .ok (.goto (-37), 3) := by decide +kernel
theorem dX3_invert_49 : decode cX3_invert 49 = .ok (.iconst 0, 1) := by decide +kernel
theorem dX3_invert_50 : decode cX3_invert 50 = .ok (.istore_n 1, 1) := by decide +kernel
theorem dX3_invert_51 : decode cX3_invert 51 = .ok (.iload_n 1, 1) := by decide +kernel
theorem dX3_invert_52 : decode cX3_invert 52 = .ok (.aload_n 0, 1) := by decide +kernel
theorem dX3_invert_53 : decode cX3_invert 53 = .ok (.getfield 25, 3) := by decide +kernel
theorem dX3_invert_56 : decode cX3_invert 56 = .ok (.if_icmp .ge 18, 3) := by decide +kernel
theorem dX3_invert_59 : decode cX3_invert 59 = .ok (.aload_n 0, 1) := by decide +kernel
theorem dX3_invert_60 : decode cX3_invert 60 = .ok (.getfield 11, 3) := by decide +kernel
theorem dX3_invert_63 : decode cX3_invert 63 = .ok (.iload_n 1, 1) := by decide +kernel
theorem dX3_invert_64 : decode cX3_invert 64 = .ok (.aaload, 1) := by decide +kernel
theorem dX3_invert_65 : decode cX3_invert 65 = .ok (.invokevirtual 58, 3) := by decide +kernel
theorem dX3_invert_68 : decode cX3_invert 68 = .ok (.iinc 1 1, 3) := by decide +kernel
theorem dX3_invert_71 : decode cX3_invert 71 = .ok (.goto (-20), 3) := by decide +kernel
theorem dX3_invert_74 : decode cX3_invert 74 = .ok (.return_, 1) := by decide +kernel
theorem dX3_applyTo_0 : decode cX3_applyTo 0 = .ok (.iconst 0, 1) := by decide +kernel
theorem dX3_applyTo_1 : decode cX3_applyTo 1 = .ok (.istore_n 3, 1) := by decide +kernel
theorem dX3_applyTo_2 : decode cX3_applyTo 2 = .ok (.iload_n 3, 1) := by decide +kernel
theorem dX3_applyTo_3 : decode cX3_applyTo 3 = .ok (.aload_n 0, 1) := by decide +kernel
theorem dX3_applyTo_4 : decode cX3_applyTo 4 = .ok (.getfield 25, 3) := by decide +kernel
theorem dX3_applyTo_7 : decode cX3_applyTo 7 = .ok (.if_icmp .ge 25, 3) := by decide +kernel
theorem dX3_applyTo_10 : decode cX3_applyTo 10 = .ok (.aload_n 0, 1) := by decide +kernel
theorem dX3_applyTo_11 : decode cX3_applyTo 11 = .ok (.getfield 11, 3) := by decide +kernel
theorem dX3_applyTo_14 : decode cX3_applyTo 14 = .ok (.iload_n 3, 1) := by decide +kernel
theorem dX3_applyTo_15 : decode cX3_applyTo 15 = .ok (.aaload, 1) := by decide +kernel
theorem dX3_applyTo_16 : decode cX3_applyTo 16 = .ok (.aload_n 1, 1) := by decide +kernel
theorem dX3_applyTo_17 : decode cX3_applyTo 17 = .ok (.iload_n 2, 1) := by decide +kernel
theorem dX3_applyTo_18 : decode cX3_applyTo 18 = .ok (.invokevirtual 61, 3) := by decide +kernel
theorem dX3_applyTo_21 : decode cX3_applyTo 21 = .ok (.ifCond .ne 5, 3) := by decide +kernel
theorem dX3_applyTo_24 : decode cX3_applyTo 24 = .ok (.iconst 0, 1) := by decide +kernel
theorem dX3_applyTo_25 : decode cX3_applyTo 25 = .ok (.ireturn, 1) := by decide +kernel
theorem dX3_applyTo_26 : decode cX3_applyTo 26 = .ok (.iinc 3 1, 3) := by decide +kernel
theorem dX3_applyTo_29 : decode cX3_applyTo 29 = .ok (.goto (-27), 3) := by decide +kernel
theorem dX3_applyTo_32 : decode cX3_applyTo 32 = .ok (.iconst 1, 1) := by decide +kernel
theorem dX3_applyTo_33 : decode cX3_applyTo 33 = .ok (.ireturn, 1) := by decide +kernel
theorem dX3_noteRemovals_0 : decode cX3_noteRemovals 0 = .ok (.aload_n 0, 1) := by decide +kernel
theorem dX3_noteRemovals_1 : decode cX3_noteRemovals 1 = .ok (.getfield 20, 3) := by decide +kernel
theorem dX3_noteRemovals_4 : decode cX3_noteRemovals 4 = .ok (.getfield 65, 3) := by decide +kernel
theorem dX3_noteRemovals_7 : decode cX3_noteRemovals 7 = .ok (.iconst 1, 1) := by decide +kernel
theorem dX3_noteRemovals_8 : decode cX3_noteRemovals 8 = .ok (.isub, 1) := by decide +kernel
theorem dX3_noteRemovals_9 : decode cX3_noteRemovals 9 = .ok (.istore_n 3, 1) := by decide +kernel
theorem dX3_noteRemovals_10 : decode cX3_noteRemovals 10 = .ok (.iload_n 3, 1) := by decide +kernel
theorem dX3_noteRemovals_11 : decode cX3_noteRemovals 11 = .ok (.ifCond .lt 51, 3) := by decide +kernel
theorem dX3_noteRemovals_14 : decode cX3_noteRemovals 14 = .ok (.aload_n 0, 1) := by decide +kernel
theorem dX3_noteRemovals_15 : decode cX3_noteRemovals 15 = .ok (.getfield 20, 3) := by decide +kernel
theorem dX3_noteRemovals_18 : decode cX3_noteRemovals 18 = .ok (.getfield 66, 3) := by decide +kernel
theorem dX3_noteRemovals_21 : decode cX3_noteRemovals 21 = .ok (.iload_n 3, 1) := by decide +kernel
theorem dX3_noteRemovals_22 : decode cX3_noteRemovals 22 = .ok (.aaload, 1) := by decide +kernel
theorem dX3_noteRemovals_23 : decode cX3_noteRemovals 23 = .ok (.astore 4, 2) := by decide +kernel
theorem dX3_noteRemovals_25 : decode cX3_noteRemovals 25 = .ok (.aload_n 2, 1) := by decide +kernel
theorem dX3_noteRemovals_26 : decode cX3_noteRemovals 26 = .ok (.aload 4, 2) := by decide +kernel
theorem dX3_noteRemovals_28 : decode cX3_noteRemovals 28 = .ok (.getfield 70, 3) := by decide +kernel
theorem dX3_noteRemovals_31 : decode cX3_noteRemovals 31 = .ok (.invokevirtual 75, 3) := by decide +kernel
theorem dX3_noteRemovals_34 : decode cX3_noteRemovals 34 = .ok (.iconst (-1), 1) := by decide +kernel
theorem dX3_noteRemovals_35 : decode cX3_noteRemovals 35 = .ok (.if_icmp .ne 21, 3) := by decide +kernel
theorem dX3_noteRemovals_38 : decode cX3_noteRemovals 38 = .ok (.aload_n 0, 1) := by decide +kernel
theorem dX3_noteRemovals_39 : decode cX3_noteRemovals 39 = .ok (.iconst 1, 1) := by decide +kernel
theorem dX3_noteRemovals_40 : decode cX3_noteRemovals 40 = .ok (.iload_n 1, 1) := by decide +kernel
theorem dX3_noteRemovals_41 : decode cX3_noteRemovals 41 = .ok (.aload 4, 2) := by decide +kernel
theorem dX3_noteRemovals_43 : decode cX3_noteRemovals 43 = .ok (.iload_n 3, 1) := by decide +kernel
theorem dX3_noteRemovals_44 : decode cX3_noteRemovals 44 = .ok (.iconst (-1), 1) := by decide +kernel
theorem dX3_noteRemovals_45 : decode cX3_noteRemovals 45 = .ok (.invokevirtual 79, 3) := by decide +kernel
theorem dX3_noteRemovals_48 : decode cX3_noteRemovals 48 = .ok (.aload_n 0, 1) := by decide +kernel
theorem dX3_noteRemovals_49 : decode cX3_noteRemovals 49 = .ok (.getfield 20, 3) := by decide +kernel
theorem dX3_noteRemovals_52 : decode cX3_noteRemovals 52 = .ok (.iload_n 3, 1) := by decide +kernel
theorem dX3_noteRemovals_53 : decode cX3_noteRemovals 53 = .ok (.invokevirtual 83, 3) := by decide +kernel
theorem dX3_noteRemovals_56 : decode cX3_noteRemovals 56 = .ok (.iinc 3 (-1), 3) := by decide +kernel
theorem dX3_noteRemovals_59 : decode cX3_noteRemovals 59 = .ok (.goto (-49), 3) := by decide +kernel
theorem dX3_noteRemovals_62 : decode cX3_noteRemovals 62 = .ok (.return_, 1) := by decide +kernel
theorem dX3_notePlaces_0 : decode cX3_notePlaces 0 = .ok (.iconst 0, 1) := by decide +kernel
theorem dX3_notePlaces_1 : decode cX3_notePlaces 1 = .ok (.istore_n 3, 1) := by decide +kernel
theorem dX3_notePlaces_2 : decode cX3_notePlaces 2 = .ok (.iload_n 3, 1) := by decide +kernel
theorem dX3_notePlaces_3 : decode cX3_notePlaces 3 = .ok (.aload_n 2, 1) := by decide +kernel
theorem dX3_notePlaces_4 : decode cX3_notePlaces 4 = .ok (.getfield 65, 3) := by decide +kernel
theorem dX3_notePlaces_7 : decode cX3_notePlaces 7 = .ok (.if_icmp .ge 90, 3) := by decide +kernel
theorem dX3_notePlaces_10 : decode cX3_notePlaces 10 = .ok (.aload_n 2, 1) := by decide +kernel
theorem dX3_notePlaces_11 : decode cX3_notePlaces 11 = .ok (.getfield 66, 3) := by decide +kernel
theorem dX3_notePlaces_14 : decode cX3_notePlaces 14 = .ok (.iload_n 3, 1) := by decide +kernel
theorem dX3_notePlaces_15 : decode cX3_notePlaces 15 = .ok (.aaload, 1) := by decide +kernel
theorem dX3_notePlaces_16 : decode cX3_notePlaces 16 = .ok (.astore 4, 2) := by decide +kernel
theorem dX3_notePlaces_18 : decode cX3_notePlaces 18 = .ok (.aload_n 0, 1) := by decide +kernel
theorem dX3_notePlaces_19 : decode cX3_notePlaces 19 = .ok (.getfield 20, 3) := by decide +kernel
theorem dX3_notePlaces_22 : decode cX3_notePlaces 22 = .ok (.aload 4, 2) := by decide +kernel
theorem dX3_notePlaces_24 : decode cX3_notePlaces 24 = .ok (.getfield 70, 3) := by decide +kernel
theorem dX3_notePlaces_27 : decode cX3_notePlaces 27 = .ok (.invokevirtual 75, 3) := by decide +kernel
theorem dX3_notePlaces_30 : decode cX3_notePlaces 30 = .ok (.istore 5, 2) := by decide +kernel
theorem dX3_notePlaces_32 : decode cX3_notePlaces 32 = .ok (.iload 5, 2) := by decide +kernel
theorem dX3_notePlaces_34 : decode cX3_notePlaces 34 = .ok (.iconst (-1), 1) := by decide +kernel
theorem dX3_notePlaces_35 : decode cX3_notePlaces 35 = .ok (.if_icmp .ne 26, 3) := by decide +kernel
theorem dX3_notePlaces_38 : decode cX3_notePlaces 38 = .ok (.aload_n 0, 1) := by decide +kernel
theorem dX3_notePlaces_39 : decode cX3_notePlaces 39 = .ok (.iconst 2, 1) := by decide +kernel
theorem dX3_notePlaces_40 : decode cX3_notePlaces 40 = .ok (.iload_n 1, 1) := by decide +kernel
theorem dX3_notePlaces_41 : decode cX3_notePlaces 41 = .ok (.aload 4, 2) := by decide +kernel
theorem dX3_notePlaces_43 : decode cX3_notePlaces 43 = .ok (.iconst (-1), 1) := by decide +kernel
theorem dX3_notePlaces_44 : decode cX3_notePlaces 44 = .ok (.iload_n 3, 1) := by decide +kernel
theorem dX3_notePlaces_45 : decode cX3_notePlaces 45 = .ok (.invokevirtual 79, 3) := by decide +kernel
theorem dX3_notePlaces_48 : decode cX3_notePlaces 48 = .ok (.aload_n 0, 1) := by decide +kernel
theorem dX3_notePlaces_49 : decode cX3_notePlaces 49 = .ok (.getfield 20, 3) := by decide +kernel
theorem dX3_notePlaces_52 : decode cX3_notePlaces 52 = .ok (.iload_n 3, 1) := by decide +kernel
theorem dX3_notePlaces_53 : decode cX3_notePlaces 53 = .ok (.aload 4, 2) := by decide +kernel
theorem dX3_notePlaces_55 : decode cX3_notePlaces 55 = .ok (.invokevirtual 87, 3) := by decide +kernel
theorem dX3_notePlaces_58 : decode cX3_notePlaces 58 = .ok (.goto 33, 3) := by decide +kernel
theorem dX3_notePlaces_61 : decode cX3_notePlaces 61 = .ok (.iload 5, 2) := by decide +kernel
theorem dX3_notePlaces_63 : decode cX3_notePlaces 63 = .ok (.iload_n 3, 1) := by decide +kernel
theorem dX3_notePlaces_64 : decode cX3_notePlaces 64 = .ok (.if_icmp .eq 27, 3) := by decide +kernel
theorem dX3_notePlaces_67 : decode cX3_notePlaces 67 = .ok (.aload_n 0, 1) := by decide +kernel
theorem dX3_notePlaces_68 : decode cX3_notePlaces 68 = .ok (.iconst 3, 1) := by decide +kernel
theorem dX3_notePlaces_69 : decode cX3_notePlaces 69 = .ok (.iload_n 1, 1) := by decide +kernel
theorem dX3_notePlaces_70 : decode cX3_notePlaces 70 = .ok (.aload 4, 2) := by decide +kernel
theorem dX3_notePlaces_72 : decode cX3_notePlaces 72 = .ok (.getfield 70, 3) := by decide +kernel
theorem dX3_notePlaces_75 : decode cX3_notePlaces 75 = .ok (.iload 5, 2) := by decide +kernel
theorem dX3_notePlaces_77 : decode cX3_notePlaces 77 = .ok (.iload_n 3, 1) := by decide +kernel
theorem dX3_notePlaces_78 : decode cX3_notePlaces 78 = .ok (.invokevirtual 91, 3) := by decide +kernel
theorem dX3_notePlaces_81 : decode cX3_notePlaces 81 = .ok (.aload_n 0, 1) := by decide +kernel
theorem dX3_notePlaces_82 : decode cX3_notePlaces 82 = .ok (.getfield 20, 3) := by decide +kernel
theorem dX3_notePlaces_85 : decode cX3_notePlaces 85 = .ok (.iload 5, 2) := by decide +kernel
theorem dX3_notePlaces_87 : decode cX3_notePlaces 87 = .ok (.iload_n 3, 1) := by decide +kernel
theorem dX3_notePlaces_88 : decode cX3_notePlaces 88 = .ok (.invokevirtual 94, 3) := by decide +kernel
theorem dX3_notePlaces_91 : decode cX3_notePlaces 91 = .ok (.iinc 3 1, 3) := by decide +kernel
theorem dX3_notePlaces_94 : decode cX3_notePlaces 94 = .ok (.goto (-92), 3) := by decide +kernel
theorem dX3_notePlaces_97 : decode cX3_notePlaces 97 = .ok (.return_, 1) := by decide +kernel
theorem dX3_noteSettings_0 : decode cX3_noteSettings 0 = .ok (.iconst 0, 1) := by decide +kernel
theorem dX3_noteSettings_1 : decode cX3_noteSettings 1 = .ok (.istore 4, 2) := by decide +kernel
theorem dX3_noteSettings_3 : decode cX3_noteSettings 3 = .ok (.iload 4, 2) := by decide +kernel
theorem dX3_noteSettings_5 : decode cX3_noteSettings 5 = .ok (.bipush 10, 2) := by decide +kernel
theorem dX3_noteSettings_7 : decode cX3_noteSettings 7 = .ok (.if_icmp .ge 97, 3) := by decide +kernel
theorem dX3_noteSettings_10 : decode cX3_noteSettings 10 = .ok (.aload_n 2, 1) := by decide +kernel
theorem dX3_noteSettings_11 : decode cX3_noteSettings 11 = .ok (.iload 4, 2) := by decide +kernel
theorem dX3_noteSettings_13 : decode cX3_noteSettings 13 = .ok (.invokevirtual 75, 3) := by decide +kernel
theorem dX3_noteSettings_16 : decode cX3_noteSettings 16 = .ok (.istore 5, 2) := by decide +kernel
theorem dX3_noteSettings_18 : decode cX3_noteSettings 18 = .ok (.aload_n 3, 1) := by decide +kernel
theorem dX3_noteSettings_19 : decode cX3_noteSettings 19 = .ok (.iload 4, 2) := by decide +kernel
theorem dX3_noteSettings_21 : decode cX3_noteSettings 21 = .ok (.invokevirtual 75, 3) := by decide +kernel
theorem dX3_noteSettings_24 : decode cX3_noteSettings 24 = .ok (.istore 6, 2) := by decide +kernel
theorem dX3_noteSettings_26 : decode cX3_noteSettings 26 = .ok (.iload 5, 2) := by decide +kernel
theorem dX3_noteSettings_28 : decode cX3_noteSettings 28 = .ok (.iconst (-1), 1) := by decide +kernel
theorem dX3_noteSettings_29 : decode cX3_noteSettings 29 = .ok (.if_icmp .eq 69, 3) := by decide +kernel
theorem dX3_noteSettings_32 : decode cX3_noteSettings 32 = .ok (.iload 6, 2) := by decide +kernel
theorem dX3_noteSettings_34 : decode cX3_noteSettings 34 = .ok (.iconst (-1), 1) := by decide +kernel
theorem dX3_noteSettings_35 : decode cX3_noteSettings 35 = .ok (.if_icmp .eq 63, 3) := by decide +kernel
theorem dX3_noteSettings_38 : decode cX3_noteSettings 38 = .ok (.aload_n 2, 1) := by decide +kernel
theorem dX3_noteSettings_39 : decode cX3_noteSettings 39 = .ok (.getfield 66, 3) := by decide +kernel
theorem dX3_noteSettings_42 : decode cX3_noteSettings 42 = .ok (.iload 5, 2) := by decide +kernel
theorem dX3_noteSettings_44 : decode cX3_noteSettings 44 = .ok (.aaload, 1) := by decide +kernel
theorem dX3_noteSettings_45 : decode cX3_noteSettings 45 = .ok (.getfield 98, 3) := by decide +kernel
theorem dX3_noteSettings_48 : decode cX3_noteSettings 48 = .ok (.astore 7, 2) := by decide +kernel
theorem dX3_noteSettings_50 : decode cX3_noteSettings 50 = .ok (.aload_n 3, 1) := by decide +kernel
theorem dX3_noteSettings_51 : decode cX3_noteSettings 51 = .ok (.getfield 66, 3) := by decide +kernel
theorem dX3_noteSettings_54 : decode cX3_noteSettings 54 = .ok (.iload 6, 2) := by decide +kernel
theorem dX3_noteSettings_56 : decode cX3_noteSettings 56 = .ok (.aaload, 1) := by decide +kernel
theorem dX3_noteSettings_57 : decode cX3_noteSettings 57 = .ok (.getfield 98, 3) := by decide +kernel
theorem dX3_noteSettings_60 : decode cX3_noteSettings 60 = .ok (.astore 8, 2) := by decide +kernel
theorem dX3_noteSettings_62 : decode cX3_noteSettings 62 = .ok (.iconst 0, 1) := by decide +kernel
theorem dX3_noteSettings_63 : decode cX3_noteSettings 63 = .ok (.istore 9, 2) := by decide +kernel
theorem dX3_noteSettings_65 : decode cX3_noteSettings 65 = .ok (.iload 9, 2) := by decide +kernel
theorem dX3_noteSettings_67 : decode cX3_noteSettings 67 = .ok (.iconst 3, 1) := by decide +kernel
theorem dX3_noteSettings_68 : decode cX3_noteSettings 68 = .ok (.if_icmp .ge 30, 3) := by decide +kernel
theorem dX3_noteSettings_71 : decode cX3_noteSettings 71 = .ok (.aload_n 0, 1) := by decide +kernel
theorem dX3_noteSettings_72 : decode cX3_noteSettings 72 = .ok (.iconst 4, 1) := by decide +kernel
theorem dX3_noteSettings_73 : decode cX3_noteSettings 73 = .ok (.iload 9, 2) := by decide +kernel
theorem dX3_noteSettings_75 : decode cX3_noteSettings 75 = .ok (.iadd, 1) := by decide +kernel
theorem dX3_noteSettings_76 : decode cX3_noteSettings 76 = .ok (.iload_n 1, 1) := by decide +kernel
theorem dX3_noteSettings_77 : decode cX3_noteSettings 77 = .ok (.iload 4, 2) := by decide +kernel
theorem dX3_noteSettings_79 : decode cX3_noteSettings 79 = .ok (.aload 7, 2) := by decide +kernel
theorem dX3_noteSettings_81 : decode cX3_noteSettings 81 = .ok (.iload 9, 2) := by decide +kernel
theorem dX3_noteSettings_83 : decode cX3_noteSettings 83 = .ok (.iaload, 1) := by decide +kernel
theorem dX3_noteSettings_84 : decode cX3_noteSettings 84 = .ok (.aload 8, 2) := by decide +kernel
theorem dX3_noteSettings_86 : decode cX3_noteSettings 86 = .ok (.iload 9, 2) := by decide +kernel
theorem dX3_noteSettings_88 : decode cX3_noteSettings 88 = .ok (.iaload, 1) := by decide +kernel
theorem dX3_noteSettings_89 : decode cX3_noteSettings 89 = .ok (.invokevirtual 54, 3) := by decide +kernel
theorem dX3_noteSettings_92 : decode cX3_noteSettings 92 = .ok (.iinc 9 1, 3) := by decide +kernel
theorem dX3_noteSettings_95 : decode cX3_noteSettings 95 = .ok (.goto (-30), 3) := by decide +kernel
theorem dX3_noteSettings_98 : decode cX3_noteSettings 98 = .ok (.iinc 4 1, 3) := by decide +kernel
theorem dX3_noteSettings_101 : decode cX3_noteSettings 101 = .ok (.goto (-98), 3) := by decide +kernel
theorem dX3_noteSettings_104 : decode cX3_noteSettings 104 = .ok (.return_, 1) := by decide +kernel
theorem dX3_noteIfUnlike_0 : decode cX3_noteIfUnlike 0 = .ok (.iload 4, 2) := by decide +kernel
theorem dX3_noteIfUnlike_2 : decode cX3_noteIfUnlike 2 = .ok (.iload 5, 2) := by decide +kernel
theorem dX3_noteIfUnlike_4 : decode cX3_noteIfUnlike 4 = .ok (.if_icmp .eq 14, 3) := by decide +kernel
theorem dX3_noteIfUnlike_7 : decode cX3_noteIfUnlike 7 = .ok (.aload_n 0, 1) := by decide +kernel
theorem dX3_noteIfUnlike_8 : decode cX3_noteIfUnlike 8 = .ok (.iload_n 1, 1) := by decide +kernel
theorem dX3_noteIfUnlike_9 : decode cX3_noteIfUnlike 9 = .ok (.iload_n 2, 1) := by decide +kernel
theorem dX3_noteIfUnlike_10 : decode cX3_noteIfUnlike 10 = .ok (.iload_n 3, 1) := by decide +kernel
theorem dX3_noteIfUnlike_11 : decode cX3_noteIfUnlike 11 = .ok (.iload 4, 2) := by decide +kernel
theorem dX3_noteIfUnlike_13 : decode cX3_noteIfUnlike 13 = .ok (.iload 5, 2) := by decide +kernel
theorem dX3_noteIfUnlike_15 : decode cX3_noteIfUnlike 15 = .ok (.invokevirtual 91, 3) := by decide +kernel
theorem dX3_noteIfUnlike_18 : decode cX3_noteIfUnlike 18 = .ok (.return_, 1) := by decide +kernel
theorem dX3_noteWhole_0 : decode cX3_noteWhole 0 = .ok (.aload_n 0, 1) := by decide +kernel
theorem dX3_noteWhole_1 : decode cX3_noteWhole 1 = .ok (.getfield 25, 3) := by decide +kernel
theorem dX3_noteWhole_4 : decode cX3_noteWhole 4 = .ok (.bipush 78, 2) := by decide +kernel
theorem dX3_noteWhole_6 : decode cX3_noteWhole 6 = .ok (.if_icmp .ge 33, 3) := by decide +kernel
theorem dX3_noteWhole_9 : decode cX3_noteWhole 9 = .ok (.aload_n 0, 1) := by decide +kernel
theorem dX3_noteWhole_10 : decode cX3_noteWhole 10 = .ok (.getfield 11, 3) := by decide +kernel
theorem dX3_noteWhole_13 : decode cX3_noteWhole 13 = .ok (.aload_n 0, 1) := by decide +kernel
theorem dX3_noteWhole_14 : decode cX3_noteWhole 14 = .ok (.getfield 25, 3) := by decide +kernel
theorem dX3_noteWhole_17 : decode cX3_noteWhole 17 = .ok (.aaload, 1) := by decide +kernel
theorem dX3_noteWhole_18 : decode cX3_noteWhole 18 = .ok (.getfield 102, 3) := by decide +kernel
theorem dX3_noteWhole_21 : decode cX3_noteWhole 21 = .ok (.aload_n 3, 1) := by decide +kernel
theorem dX3_noteWhole_22 : decode cX3_noteWhole 22 = .ok (.invokevirtual 106, 3) := by decide +kernel
theorem dX3_noteWhole_25 : decode cX3_noteWhole 25 = .ok (.aload_n 0, 1) := by decide +kernel
theorem dX3_noteWhole_26 : decode cX3_noteWhole 26 = .ok (.iload_n 1, 1) := by decide +kernel
theorem dX3_noteWhole_27 : decode cX3_noteWhole 27 = .ok (.iload_n 2, 1) := by decide +kernel
theorem dX3_noteWhole_28 : decode cX3_noteWhole 28 = .ok (.aload_n 3, 1) := by decide +kernel
theorem dX3_noteWhole_29 : decode cX3_noteWhole 29 = .ok (.getfield 70, 3) := by decide +kernel
theorem dX3_noteWhole_32 : decode cX3_noteWhole 32 = .ok (.iload 4, 2) := by decide +kernel
theorem dX3_noteWhole_34 : decode cX3_noteWhole 34 = .ok (.iload 5, 2) := by decide +kernel
theorem dX3_noteWhole_36 : decode cX3_noteWhole 36 = .ok (.invokevirtual 91, 3) := by decide +kernel
theorem dX3_noteWhole_39 : decode cX3_noteWhole 39 = .ok (.return_, 1) := by decide +kernel
theorem dX3_note_0 : decode cX3_note 0 = .ok (.aload_n 0, 1) := by decide +kernel
theorem dX3_note_1 : decode cX3_note 1 = .ok (.getfield 25, 3) := by decide +kernel
theorem dX3_note_4 : decode cX3_note 4 = .ok (.bipush 78, 2) := by decide +kernel
theorem dX3_note_6 : decode cX3_note 6 = .ok (.if_icmp .ge 32, 3) := by decide +kernel
theorem dX3_note_9 : decode cX3_note 9 = .ok (.aload_n 0, 1) := by decide +kernel
theorem dX3_note_10 : decode cX3_note 10 = .ok (.getfield 11, 3) := by decide +kernel
theorem dX3_note_13 : decode cX3_note 13 = .ok (.aload_n 0, 1) := by decide +kernel
theorem dX3_note_14 : decode cX3_note 14 = .ok (.getfield 25, 3) := by decide +kernel
theorem dX3_note_17 : decode cX3_note 17 = .ok (.aaload, 1) := by decide +kernel
theorem dX3_note_18 : decode cX3_note 18 = .ok (.iload_n 1, 1) := by decide +kernel
theorem dX3_note_19 : decode cX3_note 19 = .ok (.iload_n 2, 1) := by decide +kernel
theorem dX3_note_20 : decode cX3_note 20 = .ok (.iload_n 3, 1) := by decide +kernel
theorem dX3_note_21 : decode cX3_note 21 = .ok (.iload 4, 2) := by decide +kernel
theorem dX3_note_23 : decode cX3_note 23 = .ok (.iload 5, 2) := by decide +kernel
theorem dX3_note_25 : decode cX3_note 25 = .ok (.invokevirtual 109, 3) := by decide +kernel
theorem dX3_note_28 : decode cX3_note 28 = .ok (.aload_n 0, 1) := by decide +kernel
theorem dX3_note_29 : decode cX3_note 29 = .ok (.dup, 1) := by decide +kernel
theorem dX3_note_30 : decode cX3_note 30 = .ok (.getfield 25, 3) := by decide +kernel
theorem dX3_note_33 : decode cX3_note 33 = .ok (.iconst 1, 1) := by decide +kernel
theorem dX3_note_34 : decode cX3_note 34 = .ok (.iadd, 1) := by decide +kernel
theorem dX3_note_35 : decode cX3_note 35 = .ok (.putfield 25, 3) := by decide +kernel
theorem dX3_note_38 : decode cX3_note 38 = .ok (.return_, 1) := by decide +kernel
theorem dX4_init_0 : decode cX4_init 0 = .ok (.aload_n 0, 1) := by decide +kernel
theorem dX4_init_1 : decode cX4_init 1 = .ok (.invokespecial 3, 3) := by decide +kernel
theorem dX4_init_4 : decode cX4_init 4 = .ok (.aload_n 0, 1) := by decide +kernel
theorem dX4_init_5 : decode cX4_init 5 = .ok (.iconst 3, 1) := by decide +kernel
theorem dX4_init_6 : decode cX4_init 6 = .ok (.newarray .int, 2) := by decide +kernel
theorem dX4_init_8 : decode cX4_init 8 = .ok (.putfield 9, 3) := by decide +kernel
theorem dX4_init_11 : decode cX4_init 11 = .ok (.return_, 1) := by decide +kernel
theorem dX4_clear_0 : decode cX4_clear 0 = .ok (.aload_n 0, 1) := by decide +kernel
theorem dX4_clear_1 : decode cX4_clear 1 = .ok (.iload_n 1, 1) := by decide +kernel
theorem dX4_clear_2 : decode cX4_clear 2 = .ok (.putfield 15, 3) := by decide +kernel
theorem dX4_clear_5 : decode cX4_clear 5 = .ok (.iconst 0, 1) := by decide +kernel
theorem dX4_clear_6 : decode cX4_clear 6 = .ok (.istore_n 2, 1) := by decide +kernel
theorem dX4_clear_7 : decode cX4_clear 7 = .ok (.iload_n 2, 1) := by decide +kernel
theorem dX4_clear_8 : decode cX4_clear 8 = .ok (.iconst 3, 1) := by decide +kernel
theorem dX4_clear_9 : decode cX4_clear 9 = .ok (.if_icmp .ge 16, 3) := by decide +kernel
theorem dX4_clear_12 : decode cX4_clear 12 = .ok (.aload_n 0, 1) := by decide +kernel
theorem dX4_clear_13 : decode cX4_clear 13 = .ok (.getfield 9, 3) := by decide +kernel
theorem dX4_clear_16 : decode cX4_clear 16 = .ok (.iload_n 2, 1) := by decide +kernel
theorem dX4_clear_17 : decode cX4_clear 17 = .ok (.iconst (-1), 1) := by decide +kernel
theorem dX4_clear_18 : decode cX4_clear 18 = .ok (.iastore, 1) := by decide +kernel
theorem dX4_clear_19 : decode cX4_clear 19 = .ok (.iinc 2 1, 3) := by decide +kernel
theorem dX4_clear_22 : decode cX4_clear 22 = .ok (.goto (-15), 3) := by decide +kernel
theorem dX4_clear_25 : decode cX4_clear 25 = .ok (.return_, 1) := by decide +kernel
theorem dX4_copyFrom_0 : decode cX4_copyFrom 0 = .ok (.aload_n 0, 1) := by decide +kernel
theorem dX4_copyFrom_1 : decode cX4_copyFrom 1 = .ok (.aload_n 1, 1) := by decide +kernel
theorem dX4_copyFrom_2 : decode cX4_copyFrom 2 = .ok (.getfield 15, 3) := by decide +kernel
theorem dX4_copyFrom_5 : decode cX4_copyFrom 5 = .ok (.putfield 15, 3) := by decide +kernel
theorem dX4_copyFrom_8 : decode cX4_copyFrom 8 = .ok (.iconst 0, 1) := by decide +kernel
theorem dX4_copyFrom_9 : decode cX4_copyFrom 9 = .ok (.istore_n 2, 1) := by decide +kernel
theorem dX4_copyFrom_10 : decode cX4_copyFrom 10 = .ok (.iload_n 2, 1) := by decide +kernel
theorem dX4_copyFrom_11 : decode cX4_copyFrom 11 = .ok (.iconst 3, 1) := by decide +kernel
theorem dX4_copyFrom_12 : decode cX4_copyFrom 12 = .ok (.if_icmp .ge 21, 3) := by decide +kernel
theorem dX4_copyFrom_15 : decode cX4_copyFrom 15 = .ok (.aload_n 0, 1) := by decide +kernel
theorem dX4_copyFrom_16 : decode cX4_copyFrom 16 = .ok (.getfield 9, 3) := by decide +kernel
theorem dX4_copyFrom_19 : decode cX4_copyFrom 19 = .ok (.iload_n 2, 1) := by decide +kernel
theorem dX4_copyFrom_20 : decode cX4_copyFrom 20 = .ok (.aload_n 1, 1) := by decide +kernel
theorem dX4_copyFrom_21 : decode cX4_copyFrom 21 = .ok (.getfield 9, 3) := by decide +kernel
theorem dX4_copyFrom_24 : decode cX4_copyFrom 24 = .ok (.iload_n 2, 1) := by decide +kernel
theorem dX4_copyFrom_25 : decode cX4_copyFrom 25 = .ok (.iaload, 1) := by decide +kernel
theorem dX4_copyFrom_26 : decode cX4_copyFrom 26 = .ok (.iastore, 1) := by decide +kernel
theorem dX4_copyFrom_27 : decode cX4_copyFrom 27 = .ok (.iinc 2 1, 3) := by decide +kernel
theorem dX4_copyFrom_30 : decode cX4_copyFrom 30 = .ok (.goto (-20), 3) := by decide +kernel
theorem dX4_copyFrom_33 : decode cX4_copyFrom 33 = .ok (.return_, 1) := by decide +kernel
theorem dX4_isLike_0 : decode cX4_isLike 0 = .ok (.iconst 0, 1) := by decide +kernel
theorem dX4_isLike_1 : decode cX4_isLike 1 = .ok (.istore_n 2, 1) := by decide +kernel
theorem dX4_isLike_2 : decode cX4_isLike 2 = .ok (.iload_n 2, 1) := by decide +kernel
theorem dX4_isLike_3 : decode cX4_isLike 3 = .ok (.iconst 3, 1) := by decide +kernel
theorem dX4_isLike_4 : decode cX4_isLike 4 = .ok (.if_icmp .ge 26, 3) := by decide +kernel
theorem dX4_isLike_7 : decode cX4_isLike 7 = .ok (.aload_n 0, 1) := by decide +kernel
theorem dX4_isLike_8 : decode cX4_isLike 8 = .ok (.getfield 9, 3) := by decide +kernel
theorem dX4_isLike_11 : decode cX4_isLike 11 = .ok (.iload_n 2, 1) := by decide +kernel
theorem dX4_isLike_12 : decode cX4_isLike 12 = .ok (.iaload, 1) := by decide +kernel
theorem dX4_isLike_13 : decode cX4_isLike 13 = .ok (.aload_n 1, 1) := by decide +kernel
theorem dX4_isLike_14 : decode cX4_isLike 14 = .ok (.getfield 9, 3) := by decide +kernel
theorem dX4_isLike_17 : decode cX4_isLike 17 = .ok (.iload_n 2, 1) := by decide +kernel
theorem dX4_isLike_18 : decode cX4_isLike 18 = .ok (.iaload, 1) := by decide +kernel
theorem dX4_isLike_19 : decode cX4_isLike 19 = .ok (.if_icmp .eq 5, 3) := by decide +kernel
theorem dX4_isLike_22 : decode cX4_isLike 22 = .ok (.iconst 0, 1) := by decide +kernel
theorem dX4_isLike_23 : decode cX4_isLike 23 = .ok (.ireturn, 1) := by decide +kernel
theorem dX4_isLike_24 : decode cX4_isLike 24 = .ok (.iinc 2 1, 3) := by decide +kernel
theorem dX4_isLike_27 : decode cX4_isLike 27 = .ok (.goto (-25), 3) := by decide +kernel
theorem dX4_isLike_30 : decode cX4_isLike 30 = .ok (.aload_n 0, 1) := by decide +kernel
theorem dX4_isLike_31 : decode cX4_isLike 31 = .ok (.getfield 15, 3) := by decide +kernel
theorem dX4_isLike_34 : decode cX4_isLike 34 = .ok (.aload_n 1, 1) := by decide +kernel
theorem dX4_isLike_35 : decode cX4_isLike 35 = .ok (.getfield 15, 3) := by decide +kernel
theorem dX4_isLike_38 : decode cX4_isLike 38 = .ok (.if_icmp .ne 7, 3) := by decide +kernel
theorem dX4_isLike_41 : decode cX4_isLike 41 = .ok (.iconst 1, 1) := by decide +kernel
theorem dX4_isLike_42 : decode cX4_isLike 42 = .ok (.goto 4, 3) := by decide +kernel
theorem dX4_isLike_45 : decode cX4_isLike 45 = .ok (.iconst 0, 1) := by decide +kernel
theorem dX4_isLike_46 : decode cX4_isLike 46 = .ok (.ireturn, 1) := by decide +kernel
theorem dX5_init_0 : decode cX5_init 0 = .ok (.aload_n 0, 1) := by decide +kernel
theorem dX5_init_1 : decode cX5_init 1 = .ok (.invokespecial 3, 3) := by decide +kernel
theorem dX5_init_4 : decode cX5_init 4 = .ok (.return_, 1) := by decide +kernel
theorem dX5_isKeptBy_0 : decode cX5_isKeptBy 0 = .ok (.aload_n 1, 1) := by decide +kernel
theorem dX5_isKeptBy_1 : decode cX5_isKeptBy 1 = .ok (.getfield 9, 3) := by decide +kernel
theorem dX5_isKeptBy_4 : decode cX5_isKeptBy 4 = .ok (.aload_n 0, 1) := by decide +kernel
theorem dX5_isKeptBy_5 : decode cX5_isKeptBy 5 = .ok (.getfield 15, 3) := by decide +kernel
theorem dX5_isKeptBy_8 : decode cX5_isKeptBy 8 = .ok (.aaload, 1) := by decide +kernel
theorem dX5_isKeptBy_9 : decode cX5_isKeptBy 9 = .ok (.getfield 21, 3) := by decide +kernel
theorem dX5_isKeptBy_12 : decode cX5_isKeptBy 12 = .ok (.istore_n 2, 1) := by decide +kernel
theorem dX5_isKeptBy_13 : decode cX5_isKeptBy 13 = .ok (.iconst 0, 1) := by decide +kernel
theorem dX5_isKeptBy_14 : decode cX5_isKeptBy 14 = .ok (.istore_n 3, 1) := by decide +kernel
theorem dX5_isKeptBy_15 : decode cX5_isKeptBy 15 = .ok (.iload_n 3, 1) := by decide +kernel
theorem dX5_isKeptBy_16 : decode cX5_isKeptBy 16 = .ok (.iload_n 2, 1) := by decide +kernel
theorem dX5_isKeptBy_17 : decode cX5_isKeptBy 17 = .ok (.if_icmp .ge 20, 3) := by decide +kernel
theorem dX5_isKeptBy_20 : decode cX5_isKeptBy 20 = .ok (.aload_n 0, 1) := by decide +kernel
theorem dX5_isKeptBy_21 : decode cX5_isKeptBy 21 = .ok (.aload_n 1, 1) := by decide +kernel
theorem dX5_isKeptBy_22 : decode cX5_isKeptBy 22 = .ok (.iload_n 3, 1) := by decide +kernel
theorem dX5_isKeptBy_23 : decode cX5_isKeptBy 23 = .ok (.invokevirtual 26, 3) := by decide +kernel
theorem dX5_isKeptBy_26 : decode cX5_isKeptBy 26 = .ok (.ifCond .ne 5, 3) := by decide +kernel
theorem dX5_isKeptBy_29 : decode cX5_isKeptBy 29 = .ok (.iconst 0, 1) := by decide +kernel
theorem dX5_isKeptBy_30 : decode cX5_isKeptBy 30 = .ok (.ireturn, 1) := by decide +kernel
theorem dX5_isKeptBy_31 : decode cX5_isKeptBy 31 = .ok (.iinc 3 1, 3) := by decide +kernel
theorem dX5_isKeptBy_34 : decode cX5_isKeptBy 34 = .ok (.goto (-19), 3) := by decide +kernel
theorem dX5_isKeptBy_37 : decode cX5_isKeptBy 37 = .ok (.iconst 1, 1) := by decide +kernel
theorem dX5_isKeptBy_38 : decode cX5_isKeptBy 38 = .ok (.ireturn, 1) := by decide +kernel
theorem dX5_isKeptAt_0 : decode cX5_isKeptAt 0 = .ok (.aload_n 0, 1) := by decide +kernel
theorem dX5_isKeptAt_1 : decode cX5_isKeptAt 1 = .ok (.aload_n 1, 1) := by decide +kernel
theorem dX5_isKeptAt_2 : decode cX5_isKeptAt 2 = .ok (.iload_n 2, 1) := by decide +kernel
theorem dX5_isKeptAt_3 : decode cX5_isKeptAt 3 = .ok (.invokevirtual 30, 3) := by decide +kernel
theorem dX5_isKeptAt_6 : decode cX5_isKeptAt 6 = .ok (.istore_n 3, 1) := by decide +kernel
theorem dX5_isKeptAt_7 : decode cX5_isKeptAt 7 = .ok (.iload_n 3, 1) := by decide +kernel
theorem dX5_isKeptAt_8 : decode cX5_isKeptAt 8 = .ok (.iconst (-1), 1) := by decide +kernel
theorem dX5_isKeptAt_9 : decode cX5_isKeptAt 9 = .ok (.if_icmp .ne 16, 3) := by decide +kernel
theorem dX5_isKeptAt_12 : decode cX5_isKeptAt 12 = .ok (.aload_n 0, 1) := by decide +kernel
theorem dX5_isKeptAt_13 : decode cX5_isKeptAt 13 = .ok (.getfield 34, 3) := by decide +kernel
theorem dX5_isKeptAt_16 : decode cX5_isKeptAt 16 = .ok (.ifCond .eq 7, 3) := by decide +kernel
theorem dX5_isKeptAt_19 : decode cX5_isKeptAt 19 = .ok (.iconst 1, 1) := by decide +kernel
theorem dX5_isKeptAt_20 : decode cX5_isKeptAt 20 = .ok (.goto 4, 3) := by decide +kernel
theorem dX5_isKeptAt_23 : decode cX5_isKeptAt 23 = .ok (.iconst 0, 1) := by decide +kernel
theorem dX5_isKeptAt_24 : decode cX5_isKeptAt 24 = .ok (.ireturn, 1) := by decide +kernel
theorem dX5_isKeptAt_25 : decode cX5_isKeptAt 25 = .ok (.aload_n 0, 1) := by decide +kernel
theorem dX5_isKeptAt_26 : decode cX5_isKeptAt 26 = .ok (.getfield 34, 3) := by decide +kernel
theorem dX5_isKeptAt_29 : decode cX5_isKeptAt 29 = .ok (.iconst 1, 1) := by decide +kernel
theorem dX5_isKeptAt_30 : decode cX5_isKeptAt 30 = .ok (.if_icmp .ne 17, 3) := by decide +kernel
theorem dX5_isKeptAt_33 : decode cX5_isKeptAt 33 = .ok (.iload_n 3, 1) := by decide +kernel
theorem dX5_isKeptAt_34 : decode cX5_isKeptAt 34 = .ok (.aload_n 0, 1) := by decide +kernel
theorem dX5_isKeptAt_35 : decode cX5_isKeptAt 35 = .ok (.getfield 37, 3) := by decide +kernel
theorem dX5_isKeptAt_38 : decode cX5_isKeptAt 38 = .ok (.if_icmp .gt 7, 3) := by decide +kernel
theorem dX5_isKeptAt_41 : decode cX5_isKeptAt 41 = .ok (.iconst 1, 1) := by decide +kernel
theorem dX5_isKeptAt_42 : decode cX5_isKeptAt 42 = .ok (.goto 4, 3) := by decide +kernel
theorem dX5_isKeptAt_45 : decode cX5_isKeptAt 45 = .ok (.iconst 0, 1) := by decide +kernel
theorem dX5_isKeptAt_46 : decode cX5_isKeptAt 46 = .ok (.ireturn, 1) := by decide +kernel
theorem dX5_isKeptAt_47 : decode cX5_isKeptAt 47 = .ok (.aload_n 0, 1) := by decide +kernel
theorem dX5_isKeptAt_48 : decode cX5_isKeptAt 48 = .ok (.getfield 34, 3) := by decide +kernel
theorem dX5_isKeptAt_51 : decode cX5_isKeptAt 51 = .ok (.iconst 2, 1) := by decide +kernel
theorem dX5_isKeptAt_52 : decode cX5_isKeptAt 52 = .ok (.if_icmp .ne 34, 3) := by decide +kernel
theorem dX5_isKeptAt_55 : decode cX5_isKeptAt 55 = .ok (.aload_n 0, 1) := by decide +kernel
theorem dX5_isKeptAt_56 : decode cX5_isKeptAt 56 = .ok (.getfield 37, 3) := by decide +kernel
theorem dX5_isKeptAt_59 : decode cX5_isKeptAt 59 = .ok (.iconst 3, 1) := by decide +kernel
theorem dX5_isKeptAt_60 : decode cX5_isKeptAt 60 = .ok (.if_icmp .ge 24, 3) := by decide +kernel
theorem dX5_isKeptAt_63 : decode cX5_isKeptAt 63 = .ok (.aload_n 1, 1) := by decide +kernel
theorem dX5_isKeptAt_64 : decode cX5_isKeptAt 64 = .ok (.getfield 9, 3) := by decide +kernel
theorem dX5_isKeptAt_67 : decode cX5_isKeptAt 67 = .ok (.aload_n 0, 1) := by decide +kernel
theorem dX5_isKeptAt_68 : decode cX5_isKeptAt 68 = .ok (.getfield 37, 3) := by decide +kernel
theorem dX5_isKeptAt_71 : decode cX5_isKeptAt 71 = .ok (.aaload, 1) := by decide +kernel
theorem dX5_isKeptAt_72 : decode cX5_isKeptAt 72 = .ok (.iload_n 3, 1) := by decide +kernel
theorem dX5_isKeptAt_73 : decode cX5_isKeptAt 73 = .ok (.invokevirtual 40, 3) := by decide +kernel
theorem dX5_isKeptAt_76 : decode cX5_isKeptAt 76 = .ok (.iconst (-1), 1) := by decide +kernel
theorem dX5_isKeptAt_77 : decode cX5_isKeptAt 77 = .ok (.if_icmp .eq 7, 3) := by decide +kernel
theorem dX5_isKeptAt_80 : decode cX5_isKeptAt 80 = .ok (.iconst 1, 1) := by decide +kernel
theorem dX5_isKeptAt_81 : decode cX5_isKeptAt 81 = .ok (.goto 4, 3) := by decide +kernel
theorem dX5_isKeptAt_84 : decode cX5_isKeptAt 84 = .ok (.iconst 0, 1) := by decide +kernel
theorem dX5_isKeptAt_85 : decode cX5_isKeptAt 85 = .ok (.ireturn, 1) := by decide +kernel
theorem dX5_isKeptAt_86 : decode cX5_isKeptAt 86 = .ok (.aload_n 0, 1) := by decide +kernel
theorem dX5_isKeptAt_87 : decode cX5_isKeptAt 87 = .ok (.getfield 34, 3) := by decide +kernel
theorem dX5_isKeptAt_90 : decode cX5_isKeptAt 90 = .ok (.iconst 3, 1) := by decide +kernel
theorem dX5_isKeptAt_91 : decode cX5_isKeptAt 91 = .ok (.if_icmp .ne 13, 3) := by decide +kernel
theorem dX5_isKeptAt_94 : decode cX5_isKeptAt 94 = .ok (.aload_n 0, 1) := by decide +kernel
theorem dX5_isKeptAt_95 : decode cX5_isKeptAt 95 = .ok (.aload_n 1, 1) := by decide +kernel
theorem dX5_isKeptAt_96 : decode cX5_isKeptAt 96 = .ok (.iload_n 2, 1) := by decide +kernel
theorem dX5_isKeptAt_97 : decode cX5_isKeptAt 97 = .ok (.iload_n 3, 1) := by decide +kernel
theorem dX5_isKeptAt_98 : decode cX5_isKeptAt 98 = .ok (.invokevirtual 44, 3) := by decide +kernel
theorem dX5_isKeptAt_101 : decode cX5_isKeptAt 101 = .ok (.ifCond .ne 7, 3) := by decide +kernel
theorem dX5_isKeptAt_104 : decode cX5_isKeptAt 104 = .ok (.iconst 1, 1) := by decide +kernel
theorem dX5_isKeptAt_105 : decode cX5_isKeptAt 105 = .ok (.goto 4, 3) := by decide +kernel
theorem dX5_isKeptAt_108 : decode cX5_isKeptAt 108 = .ok (.iconst 0, 1) := by decide +kernel
theorem dX5_isKeptAt_109 : decode cX5_isKeptAt 109 = .ok (.ireturn, 1) := by decide +kernel
theorem dX5_isShownAhead_0 : decode cX5_isShownAhead 0 = .ok (.iconst 0, 1) := by decide +kernel
theorem dX5_isShownAhead_1 : decode cX5_isShownAhead 1 = .ok (.istore 4, 2) := by decide +kernel
theorem dX5_isShownAhead_3 : decode cX5_isShownAhead 3 = .ok (.iload 4, 2) := by decide +kernel
theorem dX5_isShownAhead_5 : decode cX5_isShownAhead 5 = .ok (.iload_n 2, 1) := by decide +kernel
theorem dX5_isShownAhead_6 : decode cX5_isShownAhead 6 = .ok (.if_icmp .ge 22, 3) := by decide +kernel
theorem dX5_isShownAhead_9 : decode cX5_isShownAhead 9 = .ok (.aload_n 0, 1) := by decide +kernel
theorem dX5_isShownAhead_10 : decode cX5_isShownAhead 10 = .ok (.aload_n 1, 1) := by decide +kernel
theorem dX5_isShownAhead_11 : decode cX5_isShownAhead 11 = .ok (.iload 4, 2) := by decide +kernel
theorem dX5_isShownAhead_13 : decode cX5_isShownAhead 13 = .ok (.invokevirtual 30, 3) := by decide +kernel
theorem dX5_isShownAhead_16 : decode cX5_isShownAhead 16 = .ok (.iload_n 3, 1) := by decide +kernel
theorem dX5_isShownAhead_17 : decode cX5_isShownAhead 17 = .ok (.if_icmp .ne 5, 3) := by decide +kernel
theorem dX5_isShownAhead_20 : decode cX5_isShownAhead 20 = .ok (.iconst 1, 1) := by decide +kernel
theorem dX5_isShownAhead_21 : decode cX5_isShownAhead 21 = .ok (.ireturn, 1) := by decide +kernel
theorem dX5_isShownAhead_22 : decode cX5_isShownAhead 22 = .ok (.iinc 4 1, 3) := by decide +kernel
theorem dX5_isShownAhead_25 : decode cX5_isShownAhead 25 = .ok (.goto (-22), 3) := by decide +kernel
theorem dX5_isShownAhead_28 : decode cX5_isShownAhead 28 = .ok (.iconst 0, 1) := by decide +kernel
theorem dX5_isShownAhead_29 : decode cX5_isShownAhead 29 = .ok (.ireturn, 1) := by decide +kernel
theorem dX5_shownAt_0 : decode cX5_shownAt 0 = .ok (.aload_n 1, 1) := by decide +kernel
theorem dX5_shownAt_1 : decode cX5_shownAt 1 = .ok (.aload_n 1, 1) := by decide +kernel
theorem dX5_shownAt_2 : decode cX5_shownAt 2 = .ok (.getfield 9, 3) := by decide +kernel
theorem dX5_shownAt_5 : decode cX5_shownAt 5 = .ok (.aload_n 0, 1) := by decide +kernel
theorem dX5_shownAt_6 : decode cX5_shownAt 6 = .ok (.getfield 15, 3) := by decide +kernel
theorem dX5_shownAt_9 : decode cX5_shownAt 9 = .ok (.aaload, 1) := by decide +kernel
theorem dX5_shownAt_10 : decode cX5_shownAt 10 = .ok (.getfield 48, 3) := by decide +kernel
theorem dX5_shownAt_13 : decode cX5_shownAt 13 = .ok (.iload_n 2, 1) := by decide +kernel
theorem dX5_shownAt_14 : decode cX5_shownAt 14 = .ok (.aaload, 1) := by decide +kernel
theorem dX5_shownAt_15 : decode cX5_shownAt 15 = .ok (.aload_n 0, 1) := by decide +kernel
theorem dX5_shownAt_16 : decode cX5_shownAt 16 = .ok (.getfield 52, 3) := by decide +kernel
theorem dX5_shownAt_19 : decode cX5_shownAt 19 = .ok (.invokevirtual 55, 3) := by decide +kernel
theorem dX5_shownAt_22 : decode cX5_shownAt 22 = .ok (.ireturn, 1) := by decide +kernel
theorem dX6_init_0 : decode cX6_init 0 = .ok (.aload_n 0, 1) := by decide +kernel
theorem dX6_init_1 : decode cX6_init 1 = .ok (.invokespecial 3, 3) := by decide +kernel
theorem dX6_init_4 : decode cX6_init 4 = .ok (.aload_n 0, 1) := by decide +kernel
theorem dX6_init_5 : decode cX6_init 5 = .ok (.bipush 6, 2) := by decide +kernel
theorem dX6_init_7 : decode cX6_init 7 = .ok (.anewarray 9, 3) := by decide +kernel
theorem dX6_init_10 : decode cX6_init 10 = .ok (.putfield 11, 3) := by decide +kernel
theorem dX6_init_13 : decode cX6_init 13 = .ok (.iconst 0, 1) := by decide +kernel
theorem dX6_init_14 : decode cX6_init 14 = .ok (.istore_n 1, 1) := by decide +kernel
theorem dX6_init_15 : decode cX6_init 15 = .ok (.iload_n 1, 1) := by decide +kernel
theorem dX6_init_16 : decode cX6_init 16 = .ok (.bipush 6, 2) := by decide +kernel
theorem dX6_init_18 : decode cX6_init 18 = .ok (.if_icmp .ge 22, 3) := by decide +kernel
theorem dX6_init_21 : decode cX6_init 21 = .ok (.aload_n 0, 1) := by decide +kernel
theorem dX6_init_22 : decode cX6_init 22 = .ok (.getfield 11, 3) := by decide +kernel
theorem dX6_init_25 : decode cX6_init 25 = .ok (.iload_n 1, 1) := by decide +kernel
theorem dX6_init_26 : decode cX6_init 26 = .ok (.new 9, 3) := by decide +kernel
theorem dX6_init_29 : decode cX6_init 29 = .ok (.dup, 1) := by decide +kernel
theorem dX6_init_30 : decode cX6_init 30 = .ok (.invokespecial 17, 3) := by decide +kernel
theorem dX6_init_33 : decode cX6_init 33 = .ok (.aastore, 1) := by decide +kernel
theorem dX6_init_34 : decode cX6_init 34 = .ok (.iinc 1 1, 3) := by decide +kernel
theorem dX6_init_37 : decode cX6_init 37 = .ok (.goto (-22), 3) := by decide +kernel
theorem dX6_init_40 : decode cX6_init 40 = .ok (.return_, 1) := by decide +kernel
theorem dX6_placeOf_0 : decode cX6_placeOf 0 = .ok (.iconst 0, 1) := by decide +kernel
theorem dX6_placeOf_1 : decode cX6_placeOf 1 = .ok (.istore_n 2, 1) := by decide +kernel
theorem dX6_placeOf_2 : decode cX6_placeOf 2 = .ok (.iload_n 2, 1) := by decide +kernel
theorem dX6_placeOf_3 : decode cX6_placeOf 3 = .ok (.aload_n 0, 1) := by decide +kernel
theorem dX6_placeOf_4 : decode cX6_placeOf 4 = .ok (.getfield 18, 3) := by decide +kernel
theorem dX6_placeOf_7 : decode cX6_placeOf 7 = .ok (.if_icmp .ge 24, 3) := by decide +kernel
theorem dX6_placeOf_10 : decode cX6_placeOf 10 = .ok (.aload_n 0, 1) := by decide +kernel
theorem dX6_placeOf_11 : decode cX6_placeOf 11 = .ok (.getfield 11, 3) := by decide +kernel
theorem dX6_placeOf_14 : decode cX6_placeOf 14 = .ok (.iload_n 2, 1) := by decide +kernel
theorem dX6_placeOf_15 : decode cX6_placeOf 15 = .ok (.aaload, 1) := by decide +kernel
theorem dX6_placeOf_16 : decode cX6_placeOf 16 = .ok (.getfield 22, 3) := by decide +kernel
theorem dX6_placeOf_19 : decode cX6_placeOf 19 = .ok (.iload_n 1, 1) := by decide +kernel
theorem dX6_placeOf_20 : decode cX6_placeOf 20 = .ok (.if_icmp .ne 5, 3) := by decide +kernel
theorem dX6_placeOf_23 : decode cX6_placeOf 23 = .ok (.iload_n 2, 1) := by decide +kernel
theorem dX6_placeOf_24 : decode cX6_placeOf 24 = .ok (.ireturn, 1) := by decide +kernel
theorem dX6_placeOf_25 : decode cX6_placeOf 25 = .ok (.iinc 2 1, 3) := by decide +kernel
theorem dX6_placeOf_28 : decode cX6_placeOf 28 = .ok (.goto (-26), 3) := by decide +kernel
theorem dX6_placeOf_31 : decode cX6_placeOf 31 = .ok (.iconst (-1), 1) := by decide +kernel
theorem dX6_placeOf_32 : decode cX6_placeOf 32 = .ok (.ireturn, 1) := by decide +kernel
theorem dX6_hasPlace_0 : decode cX6_hasPlace 0 = .ok (.iload_n 1, 1) := by decide +kernel
theorem dX6_hasPlace_1 : decode cX6_hasPlace 1 = .ok (.ifCond .lt 15, 3) := by decide +kernel
theorem dX6_hasPlace_4 : decode cX6_hasPlace 4 = .ok (.iload_n 1, 1) := by decide +kernel
theorem dX6_hasPlace_5 : decode cX6_hasPlace 5 = .ok (.aload_n 0, 1) := by decide +kernel
theorem dX6_hasPlace_6 : decode cX6_hasPlace 6 = .ok (.getfield 18, 3) := by decide +kernel
theorem dX6_hasPlace_9 : decode cX6_hasPlace 9 = .ok (.if_icmp .ge 7, 3) := by decide +kernel
theorem dX6_hasPlace_12 : decode cX6_hasPlace 12 = .ok (.iconst 1, 1) := by decide +kernel
theorem dX6_hasPlace_13 : decode cX6_hasPlace 13 = .ok (.goto 4, 3) := by decide +kernel
theorem dX6_hasPlace_16 : decode cX6_hasPlace 16 = .ok (.iconst 0, 1) := by decide +kernel
theorem dX6_hasPlace_17 : decode cX6_hasPlace 17 = .ok (.ireturn, 1) := by decide +kernel
theorem dX6_insert_0 : decode cX6_insert 0 = .ok (.aload_n 0, 1) := by decide +kernel
theorem dX6_insert_1 : decode cX6_insert 1 = .ok (.getfield 18, 3) := by decide +kernel
theorem dX6_insert_4 : decode cX6_insert 4 = .ok (.bipush 6, 2) := by decide +kernel
theorem dX6_insert_6 : decode cX6_insert 6 = .ok (.if_icmp .ge 46, 3) := by decide +kernel
theorem dX6_insert_9 : decode cX6_insert 9 = .ok (.iload_n 1, 1) := by decide +kernel
theorem dX6_insert_10 : decode cX6_insert 10 = .ok (.ifCond .lt 42, 3) := by decide +kernel
theorem dX6_insert_13 : decode cX6_insert 13 = .ok (.iload_n 1, 1) := by decide +kernel
theorem dX6_insert_14 : decode cX6_insert 14 = .ok (.aload_n 0, 1) := by decide +kernel
theorem dX6_insert_15 : decode cX6_insert 15 = .ok (.getfield 18, 3) := by decide +kernel
theorem dX6_insert_18 : decode cX6_insert 18 = .ok (.if_icmp .gt 34, 3) := by decide +kernel
theorem dX6_insert_21 : decode cX6_insert 21 = .ok (.aload_n 0, 1) := by decide +kernel
theorem dX6_insert_22 : decode cX6_insert 22 = .ok (.dup, 1) := by decide +kernel
theorem dX6_insert_23 : decode cX6_insert 23 = .ok (.getfield 18, 3) := by decide +kernel
theorem dX6_insert_26 : decode cX6_insert 26 = .ok (.iconst 1, 1) := by decide +kernel
theorem dX6_insert_27 : decode cX6_insert 27 = .ok (.iadd, 1) := by decide +kernel
theorem dX6_insert_28 : decode cX6_insert 28 = .ok (.putfield 18, 3) := by decide +kernel
theorem dX6_insert_31 : decode cX6_insert 31 = .ok (.aload_n 0, 1) := by decide +kernel
theorem dX6_insert_32 : decode cX6_insert 32 = .ok (.aload_n 0, 1) := by decide +kernel
theorem dX6_insert_33 : decode cX6_insert 33 = .ok (.getfield 18, 3) := by decide +kernel
theorem dX6_insert_36 : decode cX6_insert 36 = .ok (.iconst 1, 1) := by decide +kernel
theorem dX6_insert_37 : decode cX6_insert 37 = .ok (.isub, 1) := by decide +kernel
theorem dX6_insert_38 : decode cX6_insert 38 = .ok (.iload_n 1, 1) := by decide +kernel
theorem dX6_insert_39 : decode cX6_insert 39 = .ok (.invokevirtual 25, 3) := by decide +kernel
theorem dX6_insert_42 : decode cX6_insert 42 = .ok (.aload_n 0, 1) := by decide +kernel
theorem dX6_insert_43 : decode cX6_insert 43 = .ok (.getfield 11, 3) := by decide +kernel
theorem dX6_insert_46 : decode cX6_insert 46 = .ok (.iload_n 1, 1) := by decide +kernel
theorem dX6_insert_47 : decode cX6_insert 47 = .ok (.aaload, 1) := by decide +kernel
theorem dX6_insert_48 : decode cX6_insert 48 = .ok (.aload_n 2, 1) := by decide +kernel
theorem dX6_insert_49 : decode cX6_insert 49 = .ok (.invokevirtual 29, 3) := by decide +kernel
theorem dX6_insert_52 : decode cX6_insert 52 = .ok (.return_, 1) := by decide +kernel
theorem dX6_takeOut_0 : decode cX6_takeOut 0 = .ok (.aload_n 0, 1) := by decide +kernel
theorem dX6_takeOut_1 : decode cX6_takeOut 1 = .ok (.iload_n 1, 1) := by decide +kernel
theorem dX6_takeOut_2 : decode cX6_takeOut 2 = .ok (.invokevirtual 33, 3) := by decide +kernel
theorem dX6_takeOut_5 : decode cX6_takeOut 5 = .ok (.ifCond .eq 24, 3) := by decide +kernel
theorem dX6_takeOut_8 : decode cX6_takeOut 8 = .ok (.aload_n 0, 1) := by decide +kernel
theorem dX6_takeOut_9 : decode cX6_takeOut 9 = .ok (.iload_n 1, 1) := by decide +kernel
theorem dX6_takeOut_10 : decode cX6_takeOut 10 = .ok (.aload_n 0, 1) := by decide +kernel
theorem dX6_takeOut_11 : decode cX6_takeOut 11 = .ok (.getfield 18, 3) := by decide +kernel
theorem dX6_takeOut_14 : decode cX6_takeOut 14 = .ok (.iconst 1, 1) := by decide +kernel
theorem dX6_takeOut_15 : decode cX6_takeOut 15 = .ok (.isub, 1) := by decide +kernel
theorem dX6_takeOut_16 : decode cX6_takeOut 16 = .ok (.invokevirtual 25, 3) := by decide +kernel
theorem dX6_takeOut_19 : decode cX6_takeOut 19 = .ok (.aload_n 0, 1) := by decide +kernel
theorem dX6_takeOut_20 : decode cX6_takeOut 20 = .ok (.dup, 1) := by decide +kernel
theorem dX6_takeOut_21 : decode cX6_takeOut 21 = .ok (.getfield 18, 3) := by decide +kernel
theorem dX6_takeOut_24 : decode cX6_takeOut 24 = .ok (.iconst 1, 1) := by decide +kernel
theorem dX6_takeOut_25 : decode cX6_takeOut 25 = .ok (.isub, 1) := by decide +kernel
theorem dX6_takeOut_26 : decode cX6_takeOut 26 = .ok (.putfield 18, 3) := by decide +kernel
theorem dX6_takeOut_29 : decode cX6_takeOut 29 = .ok (.return_, 1) := by decide +kernel
theorem dX6_shift_0 : decode cX6_shift 0 = .ok (.aload_n 0, 1) := by decide +kernel
theorem dX6_shift_1 : decode cX6_shift 1 = .ok (.iload_n 1, 1) := by decide +kernel
theorem dX6_shift_2 : decode cX6_shift 2 = .ok (.invokevirtual 33, 3) := by decide +kernel
theorem dX6_shift_5 : decode cX6_shift 5 = .ok (.ifCond .eq 11, 3) := by decide +kernel
theorem dX6_shift_8 : decode cX6_shift 8 = .ok (.aload_n 0, 1) := by decide +kernel
theorem dX6_shift_9 : decode cX6_shift 9 = .ok (.iload_n 2, 1) := by decide +kernel
theorem dX6_shift_10 : decode cX6_shift 10 = .ok (.invokevirtual 33, 3) := by decide +kernel
theorem dX6_shift_13 : decode cX6_shift 13 = .ok (.ifCond .ne 4, 3) := by decide +kernel
theorem dX6_shift_16 : decode cX6_shift 16 = .ok (.return_, 1) := by decide +kernel
theorem dX6_shift_17 : decode cX6_shift 17 = .ok (.aload_n 0, 1) := by decide +kernel
theorem dX6_shift_18 : decode cX6_shift 18 = .ok (.getfield 11, 3) := by decide +kernel
theorem dX6_shift_21 : decode cX6_shift 21 = .ok (.iload_n 1, 1) := by decide +kernel
theorem dX6_shift_22 : decode cX6_shift 22 = .ok (.aaload, 1) := by decide +kernel
theorem dX6_shift_23 : decode cX6_shift 23 = .ok (.astore_n 3, 1) := by decide +kernel
theorem dX6_shift_24 : decode cX6_shift 24 = .ok (.iload_n 1, 1) := by decide +kernel
theorem dX6_shift_25 : decode cX6_shift 25 = .ok (.istore 4, 2) := by decide +kernel
theorem dX6_shift_27 : decode cX6_shift 27 = .ok (.iload 4, 2) := by decide +kernel
theorem dX6_shift_29 : decode cX6_shift 29 = .ok (.iload_n 2, 1) := by decide +kernel
theorem dX6_shift_30 : decode cX6_shift 30 = .ok (.if_icmp .ge 25, 3) := by decide +kernel
theorem dX6_shift_33 : decode cX6_shift 33 = .ok (.aload_n 0, 1) := by decide +kernel
theorem dX6_shift_34 : decode cX6_shift 34 = .ok (.getfield 11, 3) := by decide +kernel
theorem dX6_shift_37 : decode cX6_shift 37 = .ok (.iload 4, 2) := by decide +kernel
theorem dX6_shift_39 : decode cX6_shift 39 = .ok (.aload_n 0, 1) := by decide +kernel
theorem dX6_shift_40 : decode cX6_shift 40 = .ok (.getfield 11, 3) := by decide +kernel
theorem dX6_shift_43 : decode cX6_shift 43 = .ok (.iload 4, 2) := by decide +kernel
theorem dX6_shift_45 : decode cX6_shift 45 = .ok (.iconst 1, 1) := by decide +kernel
theorem dX6_shift_46 : decode cX6_shift 46 = .ok (.iadd, 1) := by decide +kernel
theorem dX6_shift_47 : decode cX6_shift 47 = .ok (.aaload, 1) := by decide +kernel
theorem dX6_shift_48 : decode cX6_shift 48 = .ok (.aastore, 1) := by decide +kernel
theorem dX6_shift_49 : decode cX6_shift 49 = .ok (.iinc 4 1, 3) := by decide +kernel
theorem dX6_shift_52 : decode cX6_shift 52 = .ok (.goto (-25), 3) := by decide +kernel
theorem dX6_shift_55 : decode cX6_shift 55 = .ok (.iload_n 1, 1) := by decide +kernel
theorem dX6_shift_56 : decode cX6_shift 56 = .ok (.istore 4, 2) := by decide +kernel
theorem dX6_shift_58 : decode cX6_shift 58 = .ok (.iload 4, 2) := by decide +kernel
theorem dX6_shift_60 : decode cX6_shift 60 = .ok (.iload_n 2, 1) := by decide +kernel
theorem dX6_shift_61 : decode cX6_shift 61 = .ok (.if_icmp .le 25, 3) := by decide +kernel
theorem dX6_shift_64 : decode cX6_shift 64 = .ok (.aload_n 0, 1) := by decide +kernel
theorem dX6_shift_65 : decode cX6_shift 65 = .ok (.getfield 11, 3) := by decide +kernel
theorem dX6_shift_68 : decode cX6_shift 68 = .ok (.iload 4, 2) := by decide +kernel
theorem dX6_shift_70 : decode cX6_shift 70 = .ok (.aload_n 0, 1) := by decide +kernel
theorem dX6_shift_71 : decode cX6_shift 71 = .ok (.getfield 11, 3) := by decide +kernel
theorem dX6_shift_74 : decode cX6_shift 74 = .ok (.iload 4, 2) := by decide +kernel
theorem dX6_shift_76 : decode cX6_shift 76 = .ok (.iconst 1, 1) := by decide +kernel
theorem dX6_shift_77 : decode cX6_shift 77 = .ok (.isub, 1) := by decide +kernel
theorem dX6_shift_78 : decode cX6_shift 78 = .ok (.aaload, 1) := by decide +kernel
theorem dX6_shift_79 : decode cX6_shift 79 = .ok (.aastore, 1) := by decide +kernel
theorem dX6_shift_80 : decode cX6_shift 80 = .ok (.iinc 4 (-1), 3) := by decide +kernel
theorem dX6_shift_83 : decode cX6_shift 83 = .ok (.goto (-25), 3) := by decide +kernel
theorem dX6_shift_86 : decode cX6_shift 86 = .ok (.aload_n 0, 1) := by decide +kernel
theorem dX6_shift_87 : decode cX6_shift 87 = .ok (.getfield 11, 3) := by decide +kernel
theorem dX6_shift_90 : decode cX6_shift 90 = .ok (.iload_n 2, 1) := by decide +kernel
theorem dX6_shift_91 : decode cX6_shift 91 = .ok (.aload_n 3, 1) := by decide +kernel
theorem dX6_shift_92 : decode cX6_shift 92 = .ok (.aastore, 1) := by decide +kernel
theorem dX6_shift_93 : decode cX6_shift 93 = .ok (.return_, 1) := by decide +kernel
theorem dX6_copyFrom_0 : decode cX6_copyFrom 0 = .ok (.aload_n 0, 1) := by decide +kernel
theorem dX6_copyFrom_1 : decode cX6_copyFrom 1 = .ok (.aload_n 1, 1) := by decide +kernel
theorem dX6_copyFrom_2 : decode cX6_copyFrom 2 = .ok (.getfield 18, 3) := by decide +kernel
theorem dX6_copyFrom_5 : decode cX6_copyFrom 5 = .ok (.putfield 18, 3) := by decide +kernel
theorem dX6_copyFrom_8 : decode cX6_copyFrom 8 = .ok (.iconst 0, 1) := by decide +kernel
theorem dX6_copyFrom_9 : decode cX6_copyFrom 9 = .ok (.istore_n 2, 1) := by decide +kernel
theorem dX6_copyFrom_10 : decode cX6_copyFrom 10 = .ok (.iload_n 2, 1) := by decide +kernel
theorem dX6_copyFrom_11 : decode cX6_copyFrom 11 = .ok (.aload_n 0, 1) := by decide +kernel
theorem dX6_copyFrom_12 : decode cX6_copyFrom 12 = .ok (.getfield 18, 3) := by decide +kernel
theorem dX6_copyFrom_15 : decode cX6_copyFrom 15 = .ok (.if_icmp .ge 24, 3) := by decide +kernel
theorem dX6_copyFrom_18 : decode cX6_copyFrom 18 = .ok (.aload_n 0, 1) := by decide +kernel
theorem dX6_copyFrom_19 : decode cX6_copyFrom 19 = .ok (.getfield 11, 3) := by decide +kernel
theorem dX6_copyFrom_22 : decode cX6_copyFrom 22 = .ok (.iload_n 2, 1) := by decide +kernel
theorem dX6_copyFrom_23 : decode cX6_copyFrom 23 = .ok (.aaload, 1) := by decide +kernel
theorem dX6_copyFrom_24 : decode cX6_copyFrom 24 = .ok (.aload_n 1, 1) := by decide +kernel
theorem dX6_copyFrom_25 : decode cX6_copyFrom 25 = .ok (.getfield 11, 3) := by decide +kernel
theorem dX6_copyFrom_28 : decode cX6_copyFrom 28 = .ok (.iload_n 2, 1) := by decide +kernel
theorem dX6_copyFrom_29 : decode cX6_copyFrom 29 = .ok (.aaload, 1) := by decide +kernel
theorem dX6_copyFrom_30 : decode cX6_copyFrom 30 = .ok (.invokevirtual 29, 3) := by decide +kernel
theorem dX6_copyFrom_33 : decode cX6_copyFrom 33 = .ok (.iinc 2 1, 3) := by decide +kernel
theorem dX6_copyFrom_36 : decode cX6_copyFrom 36 = .ok (.goto (-26), 3) := by decide +kernel
theorem dX6_copyFrom_39 : decode cX6_copyFrom 39 = .ok (.return_, 1) := by decide +kernel
theorem dX6_isLike_0 : decode cX6_isLike 0 = .ok (.aload_n 0, 1) := by decide +kernel
theorem dX6_isLike_1 : decode cX6_isLike 1 = .ok (.getfield 18, 3) := by decide +kernel
theorem dX6_isLike_4 : decode cX6_isLike 4 = .ok (.aload_n 1, 1) := by decide +kernel
theorem dX6_isLike_5 : decode cX6_isLike 5 = .ok (.getfield 18, 3) := by decide +kernel
theorem dX6_isLike_8 : decode cX6_isLike 8 = .ok (.if_icmp .eq 5, 3) := by decide +kernel
theorem dX6_isLike_11 : decode cX6_isLike 11 = .ok (.iconst 0, 1) := by decide +kernel
theorem dX6_isLike_12 : decode cX6_isLike 12 = .ok (.ireturn, 1) := by decide +kernel
theorem dX6_isLike_13 : decode cX6_isLike 13 = .ok (.iconst 0, 1) := by decide +kernel
theorem dX6_isLike_14 : decode cX6_isLike 14 = .ok (.istore_n 2, 1) := by decide +kernel
theorem dX6_isLike_15 : decode cX6_isLike 15 = .ok (.iload_n 2, 1) := by decide +kernel
theorem dX6_isLike_16 : decode cX6_isLike 16 = .ok (.aload_n 0, 1) := by decide +kernel
theorem dX6_isLike_17 : decode cX6_isLike 17 = .ok (.getfield 18, 3) := by decide +kernel
theorem dX6_isLike_20 : decode cX6_isLike 20 = .ok (.if_icmp .ge 29, 3) := by decide +kernel
theorem dX6_isLike_23 : decode cX6_isLike 23 = .ok (.aload_n 0, 1) := by decide +kernel
theorem dX6_isLike_24 : decode cX6_isLike 24 = .ok (.getfield 11, 3) := by decide +kernel
theorem dX6_isLike_27 : decode cX6_isLike 27 = .ok (.iload_n 2, 1) := by decide +kernel
theorem dX6_isLike_28 : decode cX6_isLike 28 = .ok (.aaload, 1) := by decide +kernel
theorem dX6_isLike_29 : decode cX6_isLike 29 = .ok (.aload_n 1, 1) := by decide +kernel
theorem dX6_isLike_30 : decode cX6_isLike 30 = .ok (.getfield 11, 3) := by decide +kernel
theorem dX6_isLike_33 : decode cX6_isLike 33 = .ok (.iload_n 2, 1) := by decide +kernel
theorem dX6_isLike_34 : decode cX6_isLike 34 = .ok (.aaload, 1) := by decide +kernel
theorem dX6_isLike_35 : decode cX6_isLike 35 = .ok (.invokevirtual 37, 3) := by decide +kernel
theorem dX6_isLike_38 : decode cX6_isLike 38 = .ok (.ifCond .ne 5, 3) := by decide +kernel
theorem dX6_isLike_41 : decode cX6_isLike 41 = .ok (.iconst 0, 1) := by decide +kernel
theorem dX6_isLike_42 : decode cX6_isLike 42 = .ok (.ireturn, 1) := by decide +kernel
theorem dX6_isLike_43 : decode cX6_isLike 43 = .ok (.iinc 2 1, 3) := by decide +kernel
theorem dX6_isLike_46 : decode cX6_isLike 46 = .ok (.goto (-31), 3) := by decide +kernel
theorem dX6_isLike_49 : decode cX6_isLike 49 = .ok (.iconst 1, 1) := by decide +kernel
theorem dX6_isLike_50 : decode cX6_isLike 50 = .ok (.ireturn, 1) := by decide +kernel
theorem dX7_init_0 : decode cX7_init 0 = .ok (.aload_n 0, 1) := by decide +kernel
theorem dX7_init_1 : decode cX7_init 1 = .ok (.invokespecial 3, 3) := by decide +kernel
theorem dX7_init_4 : decode cX7_init 4 = .ok (.aload_n 0, 1) := by decide +kernel
theorem dX7_init_5 : decode cX7_init 5 = .ok (.iconst 3, 1) := by decide +kernel
theorem dX7_init_6 : decode cX7_init 6 = .ok (.anewarray 9, 3) := by decide +kernel
theorem dX7_init_9 : decode cX7_init 9 = .ok (.putfield 11, 3) := by decide +kernel
theorem dX7_init_12 : decode cX7_init 12 = .ok (.aload_n 0, 1) := by decide +kernel
theorem dX7_init_13 : decode cX7_init 13 = .ok (.bipush 30, 2) := by decide +kernel
theorem dX7_init_15 : decode cX7_init 15 = .ok (.anewarray 15, 3) := by decide +kernel
theorem dX7_init_18 : decode cX7_init 18 = .ok (.putfield 17, 3) := by decide +kernel
theorem dX7_init_21 : decode cX7_init 21 = .ok (.aload_n 0, 1) := by decide +kernel
theorem dX7_init_22 : decode cX7_init 22 = .ok (.bipush 8, 2) := by decide +kernel
theorem dX7_init_24 : decode cX7_init 24 = .ok (.anewarray 21, 3) := by decide +kernel
theorem dX7_init_27 : decode cX7_init 27 = .ok (.putfield 23, 3) := by decide +kernel
theorem dX7_init_30 : decode cX7_init 30 = .ok (.aload_n 0, 1) := by decide +kernel
theorem dX7_init_31 : decode cX7_init 31 = .ok (.new 27, 3) := by decide +kernel
theorem dX7_init_34 : decode cX7_init 34 = .ok (.dup, 1) := by decide +kernel
theorem dX7_init_35 : decode cX7_init 35 = .ok (.invokespecial 29, 3) := by decide +kernel
theorem dX7_init_38 : decode cX7_init 38 = .ok (.putfield 30, 3) := by decide +kernel
theorem dX7_init_41 : decode cX7_init 41 = .ok (.aload_n 0, 1) := by decide +kernel
theorem dX7_init_42 : decode cX7_init 42 = .ok (.new 15, 3) := by decide +kernel
theorem dX7_init_45 : decode cX7_init 45 = .ok (.dup, 1) := by decide +kernel
theorem dX7_init_46 : decode cX7_init 46 = .ok (.invokespecial 34, 3) := by decide +kernel
theorem dX7_init_49 : decode cX7_init 49 = .ok (.putfield 35, 3) := by decide +kernel
theorem dX7_init_52 : decode cX7_init 52 = .ok (.aload_n 0, 1) := by decide +kernel
theorem dX7_init_53 : decode cX7_init 53 = .ok (.new 39, 3) := by decide +kernel
theorem dX7_init_56 : decode cX7_init 56 = .ok (.dup, 1) := by decide +kernel
theorem dX7_init_57 : decode cX7_init 57 = .ok (.invokespecial 41, 3) := by decide +kernel
theorem dX7_init_60 : decode cX7_init 60 = .ok (.putfield 42, 3) := by decide +kernel
theorem dX7_init_63 : decode cX7_init 63 = .ok (.iconst 0, 1) := by decide +kernel
theorem dX7_init_64 : decode cX7_init 64 = .ok (.istore_n 1, 1) := by decide +kernel
theorem dX7_init_65 : decode cX7_init 65 = .ok (.iload_n 1, 1) := by decide +kernel
theorem dX7_init_66 : decode cX7_init 66 = .ok (.iconst 3, 1) := by decide +kernel
theorem dX7_init_67 : decode cX7_init 67 = .ok (.if_icmp .ge 22, 3) := by decide +kernel
theorem dX7_init_70 : decode cX7_init 70 = .ok (.aload_n 0, 1) := by decide +kernel
theorem dX7_init_71 : decode cX7_init 71 = .ok (.getfield 11, 3) := by decide +kernel
theorem dX7_init_74 : decode cX7_init 74 = .ok (.iload_n 1, 1) := by decide +kernel
theorem dX7_init_75 : decode cX7_init 75 = .ok (.new 9, 3) := by decide +kernel
theorem dX7_init_78 : decode cX7_init 78 = .ok (.dup, 1) := by decide +kernel
theorem dX7_init_79 : decode cX7_init 79 = .ok (.invokespecial 46, 3) := by decide +kernel
theorem dX7_init_82 : decode cX7_init 82 = .ok (.aastore, 1) := by decide +kernel
theorem dX7_init_83 : decode cX7_init 83 = .ok (.iinc 1 1, 3) := by decide +kernel
theorem dX7_init_86 : decode cX7_init 86 = .ok (.goto (-21), 3) := by decide +kernel
theorem dX7_init_89 : decode cX7_init 89 = .ok (.iconst 0, 1) := by decide +kernel
theorem dX7_init_90 : decode cX7_init 90 = .ok (.istore_n 1, 1) := by decide +kernel
theorem dX7_init_91 : decode cX7_init 91 = .ok (.iload_n 1, 1) := by decide +kernel
theorem dX7_init_92 : decode cX7_init 92 = .ok (.bipush 30, 2) := by decide +kernel
theorem dX7_init_94 : decode cX7_init 94 = .ok (.if_icmp .ge 22, 3) := by decide +kernel
theorem dX7_init_97 : decode cX7_init 97 = .ok (.aload_n 0, 1) := by decide +kernel
theorem dX7_init_98 : decode cX7_init 98 = .ok (.getfield 17, 3) := by decide +kernel
theorem dX7_init_101 : decode cX7_init 101 = .ok (.iload_n 1, 1) := by decide +kernel
theorem dX7_init_102 : decode cX7_init 102 = .ok (.new 15, 3) := by decide +kernel
theorem dX7_init_105 : decode cX7_init 105 = .ok (.dup, 1) := by decide +kernel
theorem dX7_init_106 : decode cX7_init 106 = .ok (.invokespecial 34, 3) := by decide +kernel
theorem dX7_init_109 : decode cX7_init 109 = .ok (.aastore, 1) := by decide +kernel
theorem dX7_init_110 : decode cX7_init 110 = .ok (.iinc 1 1, 3) := by decide +kernel
theorem dX7_init_113 : decode cX7_init 113 = .ok (.goto (-22), 3) := by decide +kernel
theorem dX7_init_116 : decode cX7_init 116 = .ok (.iconst 0, 1) := by decide +kernel
theorem dX7_init_117 : decode cX7_init 117 = .ok (.istore_n 1, 1) := by decide +kernel
theorem dX7_init_118 : decode cX7_init 118 = .ok (.iload_n 1, 1) := by decide +kernel
theorem dX7_init_119 : decode cX7_init 119 = .ok (.bipush 8, 2) := by decide +kernel
theorem dX7_init_121 : decode cX7_init 121 = .ok (.if_icmp .ge 22, 3) := by decide +kernel
theorem dX7_init_124 : decode cX7_init 124 = .ok (.aload_n 0, 1) := by decide +kernel
theorem dX7_init_125 : decode cX7_init 125 = .ok (.getfield 23, 3) := by decide +kernel
theorem dX7_init_128 : decode cX7_init 128 = .ok (.iload_n 1, 1) := by decide +kernel
theorem dX7_init_129 : decode cX7_init 129 = .ok (.new 21, 3) := by decide +kernel
theorem dX7_init_132 : decode cX7_init 132 = .ok (.dup, 1) := by decide +kernel
theorem dX7_init_133 : decode cX7_init 133 = .ok (.invokespecial 47, 3) := by decide +kernel
theorem dX7_init_136 : decode cX7_init 136 = .ok (.aastore, 1) := by decide +kernel
theorem dX7_init_137 : decode cX7_init 137 = .ok (.iinc 1 1, 3) := by decide +kernel
theorem dX7_init_140 : decode cX7_init 140 = .ok (.goto (-22), 3) := by decide +kernel
theorem dX7_init_143 : decode cX7_init 143 = .ok (.aload_n 0, 1) := by decide +kernel
theorem dX7_init_144 : decode cX7_init 144 = .ok (.iconst 1, 1) := by decide +kernel
theorem dX7_init_145 : decode cX7_init 145 = .ok (.putfield 48, 3) := by decide +kernel
theorem dX7_init_148 : decode cX7_init 148 = .ok (.return_, 1) := by decide +kernel
theorem dX7_open_0 : decode cX7_open 0 = .ok (.iload_n 1, 1) := by decide +kernel
theorem dX7_open_1 : decode cX7_open 1 = .ok (.iconst 3, 1) := by decide +kernel
theorem dX7_open_2 : decode cX7_open 2 = .ok (.invokestatic 52, 3) := by decide +kernel
theorem dX7_open_5 : decode cX7_open 5 = .ok (.aload_n 0, 1) := by decide +kernel
theorem dX7_open_6 : decode cX7_open 6 = .ok (.getfield 11, 3) := by decide +kernel
theorem dX7_open_9 : decode cX7_open 9 = .ok (.iload_n 1, 1) := by decide +kernel
theorem dX7_open_10 : decode cX7_open 10 = .ok (.aaload, 1) := by decide +kernel
theorem dX7_open_11 : decode cX7_open 11 = .ok (.astore_n 2, 1) := by decide +kernel
theorem dX7_open_12 : decode cX7_open 12 = .ok (.aload_n 2, 1) := by decide +kernel
theorem dX7_open_13 : decode cX7_open 13 = .ok (.iconst 1, 1) := by decide +kernel
theorem dX7_open_14 : decode cX7_open 14 = .ok (.putfield 56, 3) := by decide +kernel
theorem dX7_open_17 : decode cX7_open 17 = .ok (.aload_n 2, 1) := by decide +kernel
theorem dX7_open_18 : decode cX7_open 18 = .ok (.aload_n 0, 1) := by decide +kernel
theorem dX7_open_19 : decode cX7_open 19 = .ok (.getfield 48, 3) := by decide +kernel
theorem dX7_open_22 : decode cX7_open 22 = .ok (.iconst 1, 1) := by decide +kernel
theorem dX7_open_23 : decode cX7_open 23 = .ok (.isub, 1) := by decide +kernel
theorem dX7_open_24 : decode cX7_open 24 = .ok (.putfield 60, 3) := by decide +kernel
theorem dX7_open_27 : decode cX7_open 27 = .ok (.aload_n 2, 1) := by decide +kernel
theorem dX7_open_28 : decode cX7_open 28 = .ok (.getfield 63, 3) := by decide +kernel
theorem dX7_open_31 : decode cX7_open 31 = .ok (.aload_n 0, 1) := by decide +kernel
theorem dX7_open_32 : decode cX7_open 32 = .ok (.getfield 17, 3) := by decide +kernel
theorem dX7_open_35 : decode cX7_open 35 = .ok (.aload_n 2, 1) := by decide +kernel
theorem dX7_open_36 : decode cX7_open 36 = .ok (.getfield 60, 3) := by decide +kernel
theorem dX7_open_39 : decode cX7_open 39 = .ok (.aaload, 1) := by decide +kernel
theorem dX7_open_40 : decode cX7_open 40 = .ok (.invokevirtual 66, 3) := by decide +kernel
theorem dX7_open_43 : decode cX7_open 43 = .ok (.aload_n 2, 1) := by decide +kernel
theorem dX7_open_44 : decode cX7_open 44 = .ok (.getfield 60, 3) := by decide +kernel
theorem dX7_open_47 : decode cX7_open 47 = .ok (.ireturn, 1) := by decide +kernel
theorem dX7_add_0 : decode cX7_add 0 = .ok (.iload_n 1, 1) := by decide +kernel
theorem dX7_add_1 : decode cX7_add 1 = .ok (.iload_n 2, 1) := by decide +kernel
theorem dX7_add_2 : decode cX7_add 2 = .ok (.iload_n 3, 1) := by decide +kernel
theorem dX7_add_3 : decode cX7_add 3 = .ok (.invokestatic 70, 3) := by decide +kernel
theorem dX7_add_6 : decode cX7_add 6 = .ok (.aload_n 0, 1) := by decide +kernel
theorem dX7_add_7 : decode cX7_add 7 = .ok (.iload_n 1, 1) := by decide +kernel
theorem dX7_add_8 : decode cX7_add 8 = .ok (.invokevirtual 74, 3) := by decide +kernel
theorem dX7_add_11 : decode cX7_add 11 = .ok (.getfield 78, 3) := by decide +kernel
theorem dX7_add_14 : decode cX7_add 14 = .ok (.iload_n 2, 1) := by decide +kernel
theorem dX7_add_15 : decode cX7_add 15 = .ok (.aaload, 1) := by decide +kernel
theorem dX7_add_16 : decode cX7_add 16 = .ok (.astore 5, 2) := by decide +kernel
theorem dX7_add_18 : decode cX7_add 18 = .ok (.aload 5, 2) := by decide +kernel
theorem dX7_add_20 : decode cX7_add 20 = .ok (.iload_n 3, 1) := by decide +kernel
theorem dX7_add_21 : decode cX7_add 21 = .ok (.invokevirtual 82, 3) := by decide +kernel
theorem dX7_add_24 : decode cX7_add 24 = .ok (.iconst (-1), 1) := by decide +kernel
theorem dX7_add_25 : decode cX7_add 25 = .ok (.if_icmp .ne 13, 3) := by decide +kernel
theorem dX7_add_28 : decode cX7_add 28 = .ok (.aload 5, 2) := by decide +kernel
theorem dX7_add_30 : decode cX7_add 30 = .ok (.getfield 88, 3) := by decide +kernel
theorem dX7_add_33 : decode cX7_add 33 = .ok (.bipush 6, 2) := by decide +kernel
theorem dX7_add_35 : decode cX7_add 35 = .ok (.if_icmp .lt 13, 3) := by decide +kernel
theorem dX7_add_38 : decode cX7_add 38 = .ok (.new 91, 3) := by decide +kernel
theorem dX7_add_41 : decode cX7_add 41 = .ok (.dup, 1) := by decide +kernel
theorem dX7_add_42 : decode cX7_add 42 = .ok (.ldc 93, 2) := by decide +kernel
theorem dX7_add_44 : decode cX7_add 44 = .ok (.invokespecial 95, 3) := by decide +kernel
theorem dX7_add_47 : decode cX7_add 47 = .ok (.athrow, 1) := by decide +kernel
theorem dX7_add_48 : decode cX7_add 48 = .ok (.iload 4, 2) := by decide +kernel
theorem dX7_add_50 : decode cX7_add 50 = .ok (.iconst 0, 1) := by decide +kernel
theorem dX7_add_51 : decode cX7_add 51 = .ok (.aload 5, 2) := by decide +kernel
theorem dX7_add_53 : decode cX7_add 53 = .ok (.getfield 88, 3) := by decide +kernel
theorem dX7_add_56 : decode cX7_add 56 = .ok (.invokestatic 98, 3) := by decide +kernel
theorem dX7_add_59 : decode cX7_add 59 = .ok (.aload_n 0, 1) := by decide +kernel
theorem dX7_add_60 : decode cX7_add 60 = .ok (.getfield 42, 3) := by decide +kernel
theorem dX7_add_63 : decode cX7_add 63 = .ok (.iload_n 3, 1) := by decide +kernel
theorem dX7_add_64 : decode cX7_add 64 = .ok (.invokevirtual 101, 3) := by decide +kernel
theorem dX7_add_67 : decode cX7_add 67 = .ok (.aload 5, 2) := by decide +kernel
theorem dX7_add_69 : decode cX7_add 69 = .ok (.iload 4, 2) := by decide +kernel
theorem dX7_add_71 : decode cX7_add 71 = .ok (.aload_n 0, 1) := by decide +kernel
theorem dX7_add_72 : decode cX7_add 72 = .ok (.getfield 42, 3) := by decide +kernel
theorem dX7_add_75 : decode cX7_add 75 = .ok (.invokevirtual 105, 3) := by decide +kernel
theorem dX7_add_78 : decode cX7_add 78 = .ok (.aload 5, 2) := by decide +kernel
theorem dX7_add_80 : decode cX7_add 80 = .ok (.getfield 88, 3) := by decide +kernel
theorem dX7_add_83 : decode cX7_add 83 = .ok (.ireturn, 1) := by decide +kernel
theorem dX7_remove_0 : decode cX7_remove 0 = .ok (.iload_n 1, 1) := by decide +kernel
theorem dX7_remove_1 : decode cX7_remove 1 = .ok (.iload_n 2, 1) := by decide +kernel
theorem dX7_remove_2 : decode cX7_remove 2 = .ok (.iload_n 3, 1) := by decide +kernel
theorem dX7_remove_3 : decode cX7_remove 3 = .ok (.invokestatic 70, 3) := by decide +kernel
theorem dX7_remove_6 : decode cX7_remove 6 = .ok (.aload_n 0, 1) := by decide +kernel
theorem dX7_remove_7 : decode cX7_remove 7 = .ok (.iload_n 1, 1) := by decide +kernel
theorem dX7_remove_8 : decode cX7_remove 8 = .ok (.invokevirtual 74, 3) := by decide +kernel
theorem dX7_remove_11 : decode cX7_remove 11 = .ok (.getfield 78, 3) := by decide +kernel
theorem dX7_remove_14 : decode cX7_remove 14 = .ok (.iload_n 2, 1) := by decide +kernel
theorem dX7_remove_15 : decode cX7_remove 15 = .ok (.aaload, 1) := by decide +kernel
theorem dX7_remove_16 : decode cX7_remove 16 = .ok (.astore 4, 2) := by decide +kernel
theorem dX7_remove_18 : decode cX7_remove 18 = .ok (.aload 4, 2) := by decide +kernel
theorem dX7_remove_20 : decode cX7_remove 20 = .ok (.iload_n 3, 1) := by decide +kernel
theorem dX7_remove_21 : decode cX7_remove 21 = .ok (.invokestatic 109, 3) := by decide +kernel
theorem dX7_remove_24 : decode cX7_remove 24 = .ok (.istore 5, 2) := by decide +kernel
theorem dX7_remove_26 : decode cX7_remove 26 = .ok (.aload 4, 2) := by decide +kernel
theorem dX7_remove_28 : decode cX7_remove 28 = .ok (.iload 5, 2) := by decide +kernel
theorem dX7_remove_30 : decode cX7_remove 30 = .ok (.invokevirtual 113, 3) := by decide +kernel
theorem dX7_remove_33 : decode cX7_remove 33 = .ok (.iload 5, 2) := by decide +kernel
theorem dX7_remove_35 : decode cX7_remove 35 = .ok (.ireturn, 1) := by decide +kernel
theorem dX7_move_0 : decode cX7_move 0 = .ok (.iload_n 1, 1) := by decide +kernel
theorem dX7_move_1 : decode cX7_move 1 = .ok (.iload_n 2, 1) := by decide +kernel
theorem dX7_move_2 : decode cX7_move 2 = .ok (.iload_n 3, 1) := by decide +kernel
theorem dX7_move_3 : decode cX7_move 3 = .ok (.invokestatic 70, 3) := by decide +kernel
theorem dX7_move_6 : decode cX7_move 6 = .ok (.aload_n 0, 1) := by decide +kernel
theorem dX7_move_7 : decode cX7_move 7 = .ok (.iload_n 1, 1) := by decide +kernel
theorem dX7_move_8 : decode cX7_move 8 = .ok (.invokevirtual 74, 3) := by decide +kernel
theorem dX7_move_11 : decode cX7_move 11 = .ok (.getfield 78, 3) := by decide +kernel
theorem dX7_move_14 : decode cX7_move 14 = .ok (.iload_n 2, 1) := by decide +kernel
theorem dX7_move_15 : decode cX7_move 15 = .ok (.aaload, 1) := by decide +kernel
theorem dX7_move_16 : decode cX7_move 16 = .ok (.astore 5, 2) := by decide +kernel
theorem dX7_move_18 : decode cX7_move 18 = .ok (.aload 5, 2) := by decide +kernel
theorem dX7_move_20 : decode cX7_move 20 = .ok (.iload_n 3, 1) := by decide +kernel
theorem dX7_move_21 : decode cX7_move 21 = .ok (.invokestatic 109, 3) := by decide +kernel
theorem dX7_move_24 : decode cX7_move 24 = .ok (.istore 6, 2) := by decide +kernel
theorem dX7_move_26 : decode cX7_move 26 = .ok (.iload 4, 2) := by decide +kernel
theorem dX7_move_28 : decode cX7_move 28 = .ok (.iconst 0, 1) := by decide +kernel
theorem dX7_move_29 : decode cX7_move 29 = .ok (.aload 5, 2) := by decide +kernel
theorem dX7_move_31 : decode cX7_move 31 = .ok (.getfield 88, 3) := by decide +kernel
theorem dX7_move_34 : decode cX7_move 34 = .ok (.iconst 1, 1) := by decide +kernel
theorem dX7_move_35 : decode cX7_move 35 = .ok (.isub, 1) := by decide +kernel
theorem dX7_move_36 : decode cX7_move 36 = .ok (.invokestatic 98, 3) := by decide +kernel
theorem dX7_move_39 : decode cX7_move 39 = .ok (.aload 5, 2) := by decide +kernel
theorem dX7_move_41 : decode cX7_move 41 = .ok (.iload 6, 2) := by decide +kernel
theorem dX7_move_43 : decode cX7_move 43 = .ok (.iload 4, 2) := by decide +kernel
theorem dX7_move_45 : decode cX7_move 45 = .ok (.invokevirtual 116, 3) := by decide +kernel
theorem dX7_move_48 : decode cX7_move 48 = .ok (.iload 6, 2) := by decide +kernel
theorem dX7_move_50 : decode cX7_move 50 = .ok (.ireturn, 1) := by decide +kernel
theorem dX7_set_0 : decode cX7_set 0 = .ok (.iload_n 1, 1) := by decide +kernel
theorem dX7_set_1 : decode cX7_set 1 = .ok (.iload_n 2, 1) := by decide +kernel
theorem dX7_set_2 : decode cX7_set 2 = .ok (.iload_n 3, 1) := by decide +kernel
theorem dX7_set_3 : decode cX7_set 3 = .ok (.invokestatic 70, 3) := by decide +kernel
theorem dX7_set_6 : decode cX7_set 6 = .ok (.iload 4, 2) := by decide +kernel
theorem dX7_set_8 : decode cX7_set 8 = .ok (.iconst 2, 1) := by decide +kernel
theorem dX7_set_9 : decode cX7_set 9 = .ok (.invokestatic 52, 3) := by decide +kernel
theorem dX7_set_12 : decode cX7_set 12 = .ok (.iload 5, 2) := by decide +kernel
theorem dX7_set_14 : decode cX7_set 14 = .ok (.iconst (-1), 1) := by decide +kernel
theorem dX7_set_15 : decode cX7_set 15 = .ok (.bipush 99, 2) := by decide +kernel
theorem dX7_set_17 : decode cX7_set 17 = .ok (.invokestatic 98, 3) := by decide +kernel
theorem dX7_set_20 : decode cX7_set 20 = .ok (.aload_n 0, 1) := by decide +kernel
theorem dX7_set_21 : decode cX7_set 21 = .ok (.iload_n 1, 1) := by decide +kernel
theorem dX7_set_22 : decode cX7_set 22 = .ok (.iload_n 2, 1) := by decide +kernel
theorem dX7_set_23 : decode cX7_set 23 = .ok (.iload_n 3, 1) := by decide +kernel
theorem dX7_set_24 : decode cX7_set 24 = .ok (.iload 4, 2) := by decide +kernel
theorem dX7_set_26 : decode cX7_set 26 = .ok (.iload 5, 2) := by decide +kernel
theorem dX7_set_28 : decode cX7_set 28 = .ok (.invokevirtual 119, 3) := by decide +kernel
theorem dX7_set_31 : decode cX7_set 31 = .ok (.ireturn, 1) := by decide +kernel
theorem dX7_join_0 : decode cX7_join 0 = .ok (.iload_n 1, 1) := by decide +kernel
theorem dX7_join_1 : decode cX7_join 1 = .ok (.iload_n 2, 1) := by decide +kernel
theorem dX7_join_2 : decode cX7_join 2 = .ok (.iload_n 3, 1) := by decide +kernel
theorem dX7_join_3 : decode cX7_join 3 = .ok (.invokestatic 70, 3) := by decide +kernel
theorem dX7_join_6 : decode cX7_join 6 = .ok (.iload 4, 2) := by decide +kernel
theorem dX7_join_8 : decode cX7_join 8 = .ok (.iconst (-1), 1) := by decide +kernel
theorem dX7_join_9 : decode cX7_join 9 = .ok (.iconst 2, 1) := by decide +kernel
theorem dX7_join_10 : decode cX7_join 10 = .ok (.invokestatic 98, 3) := by decide +kernel
theorem dX7_join_13 : decode cX7_join 13 = .ok (.aload_n 0, 1) := by decide +kernel
theorem dX7_join_14 : decode cX7_join 14 = .ok (.iload_n 1, 1) := by decide +kernel
theorem dX7_join_15 : decode cX7_join 15 = .ok (.iload_n 2, 1) := by decide +kernel
theorem dX7_join_16 : decode cX7_join 16 = .ok (.iload_n 3, 1) := by decide +kernel
theorem dX7_join_17 : decode cX7_join 17 = .ok (.iconst 2, 1) := by decide +kernel
theorem dX7_join_18 : decode cX7_join 18 = .ok (.iload 4, 2) := by decide +kernel
theorem dX7_join_20 : decode cX7_join 20 = .ok (.invokevirtual 119, 3) := by decide +kernel
theorem dX7_join_23 : decode cX7_join 23 = .ok (.ireturn, 1) := by decide +kernel
theorem dX7_setGroup_0 : decode cX7_setGroup 0 = .ok (.iload_n 1, 1) := by decide +kernel
theorem dX7_setGroup_1 : decode cX7_setGroup 1 = .ok (.iconst 3, 1) := by decide +kernel
theorem dX7_setGroup_2 : decode cX7_setGroup 2 = .ok (.invokestatic 52, 3) := by decide +kernel
theorem dX7_setGroup_5 : decode cX7_setGroup 5 = .ok (.iload_n 2, 1) := by decide +kernel
theorem dX7_setGroup_6 : decode cX7_setGroup 6 = .ok (.iconst 3, 1) := by decide +kernel
theorem dX7_setGroup_7 : decode cX7_setGroup 7 = .ok (.invokestatic 52, 3) := by decide +kernel
theorem dX7_setGroup_10 : decode cX7_setGroup 10 = .ok (.iload_n 3, 1) := by decide +kernel
theorem dX7_setGroup_11 : decode cX7_setGroup 11 = .ok (.iconst 2, 1) := by decide +kernel
theorem dX7_setGroup_12 : decode cX7_setGroup 12 = .ok (.invokestatic 52, 3) := by decide +kernel
theorem dX7_setGroup_15 : decode cX7_setGroup 15 = .ok (.iload 4, 2) := by decide +kernel
theorem dX7_setGroup_17 : decode cX7_setGroup 17 = .ok (.iconst (-1), 1) := by decide +kernel
theorem dX7_setGroup_18 : decode cX7_setGroup 18 = .ok (.bipush 99, 2) := by decide +kernel
theorem dX7_setGroup_20 : decode cX7_setGroup 20 = .ok (.invokestatic 98, 3) := by decide +kernel
theorem dX7_setGroup_23 : decode cX7_setGroup 23 = .ok (.aload_n 0, 1) := by decide +kernel
theorem dX7_setGroup_24 : decode cX7_setGroup 24 = .ok (.iload_n 1, 1) := by decide +kernel
theorem dX7_setGroup_25 : decode cX7_setGroup 25 = .ok (.invokevirtual 74, 3) := by decide +kernel
theorem dX7_setGroup_28 : decode cX7_setGroup 28 = .ok (.getfield 123, 3) := by decide +kernel
theorem dX7_setGroup_31 : decode cX7_setGroup 31 = .ok (.iload_n 2, 1) := by decide +kernel
theorem dX7_setGroup_32 : decode cX7_setGroup 32 = .ok (.aaload, 1) := by decide +kernel
theorem dX7_setGroup_33 : decode cX7_setGroup 33 = .ok (.astore 5, 2) := by decide +kernel
theorem dX7_setGroup_35 : decode cX7_setGroup 35 = .ok (.aload 5, 2) := by decide +kernel
theorem dX7_setGroup_37 : decode cX7_setGroup 37 = .ok (.iload_n 3, 1) := by decide +kernel
theorem dX7_setGroup_38 : decode cX7_setGroup 38 = .ok (.iaload, 1) := by decide +kernel
theorem dX7_setGroup_39 : decode cX7_setGroup 39 = .ok (.istore 6, 2) := by decide +kernel
theorem dX7_setGroup_41 : decode cX7_setGroup 41 = .ok (.aload 5, 2) := by decide +kernel
theorem dX7_setGroup_43 : decode cX7_setGroup 43 = .ok (.iload_n 3, 1) := by decide +kernel
theorem dX7_setGroup_44 : decode cX7_setGroup 44 = .ok (.iload 4, 2) := by decide +kernel
theorem dX7_setGroup_46 : decode cX7_setGroup 46 = .ok (.iastore, 1) := by decide +kernel
theorem dX7_setGroup_47 : decode cX7_setGroup 47 = .ok (.iload 6, 2) := by decide +kernel
theorem dX7_setGroup_49 : decode cX7_setGroup 49 = .ok (.ireturn, 1) := by decide +kernel
theorem dX7_load_0 : decode cX7_load 0 = .ok (.iload_n 1, 1) := by decide +kernel
theorem dX7_load_1 : decode cX7_load 1 = .ok (.iconst 3, 1) := by decide +kernel
theorem dX7_load_2 : decode cX7_load 2 = .ok (.invokestatic 52, 3) := by decide +kernel
theorem dX7_load_5 : decode cX7_load 5 = .ok (.iload_n 2, 1) := by decide +kernel
theorem dX7_load_6 : decode cX7_load 6 = .ok (.aload_n 0, 1) := by decide +kernel
theorem dX7_load_7 : decode cX7_load 7 = .ok (.getfield 48, 3) := by decide +kernel
theorem dX7_load_10 : decode cX7_load 10 = .ok (.invokestatic 52, 3) := by decide +kernel
theorem dX7_load_13 : decode cX7_load 13 = .ok (.aload_n 0, 1) := by decide +kernel
theorem dX7_load_14 : decode cX7_load 14 = .ok (.iload_n 1, 1) := by decide +kernel
theorem dX7_load_15 : decode cX7_load 15 = .ok (.invokevirtual 74, 3) := by decide +kernel
theorem dX7_load_18 : decode cX7_load 18 = .ok (.aload_n 0, 1) := by decide +kernel
theorem dX7_load_19 : decode cX7_load 19 = .ok (.getfield 17, 3) := by decide +kernel
theorem dX7_load_22 : decode cX7_load 22 = .ok (.iload_n 2, 1) := by decide +kernel
theorem dX7_load_23 : decode cX7_load 23 = .ok (.aaload, 1) := by decide +kernel
theorem dX7_load_24 : decode cX7_load 24 = .ok (.invokevirtual 66, 3) := by decide +kernel
theorem dX7_load_27 : decode cX7_load 27 = .ok (.return_, 1) := by decide +kernel
theorem dX7_apply_0 : decode cX7_apply 0 = .ok (.iload_n 1, 1) := by decide +kernel
theorem dX7_apply_1 : decode cX7_apply 1 = .ok (.iconst 3, 1) := by decide +kernel
theorem dX7_apply_2 : decode cX7_apply 2 = .ok (.invokestatic 52, 3) := by decide +kernel
theorem dX7_apply_5 : decode cX7_apply 5 = .ok (.aload_n 0, 1) := by decide +kernel
theorem dX7_apply_6 : decode cX7_apply 6 = .ok (.getfield 30, 3) := by decide +kernel
theorem dX7_apply_9 : decode cX7_apply 9 = .ok (.aload_n 0, 1) := by decide +kernel
theorem dX7_apply_10 : decode cX7_apply 10 = .ok (.iload_n 2, 1) := by decide +kernel
theorem dX7_apply_11 : decode cX7_apply 11 = .ok (.invokevirtual 127, 3) := by decide +kernel
theorem dX7_apply_14 : decode cX7_apply 14 = .ok (.aload_n 0, 1) := by decide +kernel
theorem dX7_apply_15 : decode cX7_apply 15 = .ok (.iload_n 3, 1) := by decide +kernel
theorem dX7_apply_16 : decode cX7_apply 16 = .ok (.invokevirtual 127, 3) := by decide +kernel
theorem dX7_apply_19 : decode cX7_apply 19 = .ok (.invokevirtual 130, 3) := by decide +kernel
theorem dX7_apply_22 : decode cX7_apply 22 = .ok (.iload 4, 2) := by decide +kernel
theorem dX7_apply_24 : decode cX7_apply 24 = .ok (.ifCond .eq 10, 3) := by decide +kernel
theorem dX7_apply_27 : decode cX7_apply 27 = .ok (.aload_n 0, 1) := by decide +kernel
theorem dX7_apply_28 : decode cX7_apply 28 = .ok (.getfield 30, 3) := by decide +kernel
theorem dX7_apply_31 : decode cX7_apply 31 = .ok (.invokevirtual 134, 3) := by decide +kernel
theorem dX7_apply_34 : decode cX7_apply 34 = .ok (.aload_n 0, 1) := by decide +kernel
theorem dX7_apply_35 : decode cX7_apply 35 = .ok (.iload_n 1, 1) := by decide +kernel
theorem dX7_apply_36 : decode cX7_apply 36 = .ok (.invokevirtual 74, 3) := by decide +kernel
theorem dX7_apply_39 : decode cX7_apply 39 = .ok (.astore 5, 2) := by decide +kernel
theorem dX7_apply_41 : decode cX7_apply 41 = .ok (.aload_n 0, 1) := by decide +kernel
theorem dX7_apply_42 : decode cX7_apply 42 = .ok (.getfield 35, 3) := by decide +kernel
theorem dX7_apply_45 : decode cX7_apply 45 = .ok (.aload 5, 2) := by decide +kernel
theorem dX7_apply_47 : decode cX7_apply 47 = .ok (.invokevirtual 66, 3) := by decide +kernel
theorem dX7_apply_50 : decode cX7_apply 50 = .ok (.aload_n 0, 1) := by decide +kernel
theorem dX7_apply_51 : decode cX7_apply 51 = .ok (.getfield 30, 3) := by decide +kernel
theorem dX7_apply_54 : decode cX7_apply 54 = .ok (.aload_n 0, 1) := by decide +kernel
theorem dX7_apply_55 : decode cX7_apply 55 = .ok (.getfield 35, 3) := by decide +kernel
theorem dX7_apply_58 : decode cX7_apply 58 = .ok (.iconst 0, 1) := by decide +kernel
theorem dX7_apply_59 : decode cX7_apply 59 = .ok (.invokevirtual 137, 3) := by decide +kernel
theorem dX7_apply_62 : decode cX7_apply 62 = .ok (.ifCond .ne 13, 3) := by decide +kernel
theorem dX7_apply_65 : decode cX7_apply 65 = .ok (.new 91, 3) := by decide +kernel
theorem dX7_apply_68 : decode cX7_apply 68 = .ok (.dup, 1) := by decide +kernel
theorem dX7_apply_69 : decode cX7_apply 69 = .ok (.ldc 141, 2) := by decide +kernel
theorem dX7_apply_71 : decode cX7_apply 71 = .ok (.invokespecial 95, 3) := by decide +kernel
theorem dX7_apply_74 : decode cX7_apply 74 = .ok (.athrow, 1) := by decide +kernel
theorem dX7_apply_75 : decode cX7_apply 75 = .ok (.aload 5, 2) := by decide +kernel
theorem dX7_apply_77 : decode cX7_apply 77 = .ok (.aload_n 0, 1) := by decide +kernel
theorem dX7_apply_78 : decode cX7_apply 78 = .ok (.getfield 35, 3) := by decide +kernel
theorem dX7_apply_81 : decode cX7_apply 81 = .ok (.invokevirtual 66, 3) := by decide +kernel
theorem dX7_apply_84 : decode cX7_apply 84 = .ok (.aload_n 0, 1) := by decide +kernel
theorem dX7_apply_85 : decode cX7_apply 85 = .ok (.getfield 30, 3) := by decide +kernel
theorem dX7_apply_88 : decode cX7_apply 88 = .ok (.getfield 143, 3) := by decide +kernel
theorem dX7_apply_91 : decode cX7_apply 91 = .ok (.ireturn, 1) := by decide +kernel
theorem dX7_rule_0 : decode cX7_rule 0 = .ok (.iload_n 2, 1) := by decide +kernel
theorem dX7_rule_1 : decode cX7_rule 1 = .ok (.iconst 3, 1) := by decide +kernel
theorem dX7_rule_2 : decode cX7_rule 2 = .ok (.invokestatic 52, 3) := by decide +kernel
theorem dX7_rule_5 : decode cX7_rule 5 = .ok (.iload_n 3, 1) := by decide +kernel
theorem dX7_rule_6 : decode cX7_rule 6 = .ok (.iconst 2, 1) := by decide +kernel
theorem dX7_rule_7 : decode cX7_rule 7 = .ok (.invokestatic 52, 3) := by decide +kernel
theorem dX7_rule_10 : decode cX7_rule 10 = .ok (.iload_n 1, 1) := by decide +kernel
theorem dX7_rule_11 : decode cX7_rule 11 = .ok (.iconst 0, 1) := by decide +kernel
theorem dX7_rule_12 : decode cX7_rule 12 = .ok (.iconst 3, 1) := by decide +kernel
theorem dX7_rule_13 : decode cX7_rule 13 = .ok (.invokestatic 98, 3) := by decide +kernel
theorem dX7_rule_16 : decode cX7_rule 16 = .ok (.iload 4, 2) := by decide +kernel
theorem dX7_rule_18 : decode cX7_rule 18 = .ok (.iconst 0, 1) := by decide +kernel
theorem dX7_rule_19 : decode cX7_rule 19 = .ok (.bipush 99, 2) := by decide +kernel
theorem dX7_rule_21 : decode cX7_rule 21 = .ok (.invokestatic 98, 3) := by decide +kernel
theorem dX7_rule_24 : decode cX7_rule 24 = .ok (.aload_n 0, 1) := by decide +kernel
theorem dX7_rule_25 : decode cX7_rule 25 = .ok (.getfield 144, 3) := by decide +kernel
theorem dX7_rule_28 : decode cX7_rule 28 = .ok (.bipush 8, 2) := by decide +kernel
theorem dX7_rule_30 : decode cX7_rule 30 = .ok (.if_icmp .lt 13, 3) := by decide +kernel
theorem dX7_rule_33 : decode cX7_rule 33 = .ok (.new 91, 3) := by decide +kernel
theorem dX7_rule_36 : decode cX7_rule 36 = .ok (.dup, 1) := by decide +kernel
theorem dX7_rule_37 : decode cX7_rule 37 = .ok (.ldc 147, 2) := by decide +kernel
theorem dX7_rule_39 : decode cX7_rule 39 = .ok (.invokespecial 95, 3) := by decide +kernel
theorem dX7_rule_42 : decode cX7_rule 42 = .ok (.athrow, 1) := by decide +kernel
theorem dX7_rule_43 : decode cX7_rule 43 = .ok (.aload_n 0, 1) := by decide +kernel
theorem dX7_rule_44 : decode cX7_rule 44 = .ok (.getfield 23, 3) := by decide +kernel
theorem dX7_rule_47 : decode cX7_rule 47 = .ok (.aload_n 0, 1) := by decide +kernel
theorem dX7_rule_48 : decode cX7_rule 48 = .ok (.getfield 144, 3) := by decide +kernel
theorem dX7_rule_51 : decode cX7_rule 51 = .ok (.aaload, 1) := by decide +kernel
theorem dX7_rule_52 : decode cX7_rule 52 = .ok (.astore 5, 2) := by decide +kernel
theorem dX7_rule_54 : decode cX7_rule 54 = .ok (.aload 5, 2) := by decide +kernel
theorem dX7_rule_56 : decode cX7_rule 56 = .ok (.iload_n 1, 1) := by decide +kernel
theorem dX7_rule_57 : decode cX7_rule 57 = .ok (.putfield 149, 3) := by decide +kernel
theorem dX7_rule_60 : decode cX7_rule 60 = .ok (.aload 5, 2) := by decide +kernel
theorem dX7_rule_62 : decode cX7_rule 62 = .ok (.iload_n 2, 1) := by decide +kernel
theorem dX7_rule_63 : decode cX7_rule 63 = .ok (.putfield 152, 3) := by decide +kernel
theorem dX7_rule_66 : decode cX7_rule 66 = .ok (.aload 5, 2) := by decide +kernel
theorem dX7_rule_68 : decode cX7_rule 68 = .ok (.iload_n 3, 1) := by decide +kernel
theorem dX7_rule_69 : decode cX7_rule 69 = .ok (.putfield 155, 3) := by decide +kernel
theorem dX7_rule_72 : decode cX7_rule 72 = .ok (.aload 5, 2) := by decide +kernel
theorem dX7_rule_74 : decode cX7_rule 74 = .ok (.iload 4, 2) := by decide +kernel
theorem dX7_rule_76 : decode cX7_rule 76 = .ok (.putfield 158, 3) := by decide +kernel
theorem dX7_rule_79 : decode cX7_rule 79 = .ok (.aload_n 0, 1) := by decide +kernel
theorem dX7_rule_80 : decode cX7_rule 80 = .ok (.dup, 1) := by decide +kernel
theorem dX7_rule_81 : decode cX7_rule 81 = .ok (.getfield 144, 3) := by decide +kernel
theorem dX7_rule_84 : decode cX7_rule 84 = .ok (.iconst 1, 1) := by decide +kernel
theorem dX7_rule_85 : decode cX7_rule 85 = .ok (.iadd, 1) := by decide +kernel
theorem dX7_rule_86 : decode cX7_rule 86 = .ok (.putfield 144, 3) := by decide +kernel
theorem dX7_rule_89 : decode cX7_rule 89 = .ok (.aload_n 0, 1) := by decide +kernel
theorem dX7_rule_90 : decode cX7_rule 90 = .ok (.getfield 144, 3) := by decide +kernel
theorem dX7_rule_93 : decode cX7_rule 93 = .ok (.iconst 1, 1) := by decide +kernel
theorem dX7_rule_94 : decode cX7_rule 94 = .ok (.isub, 1) := by decide +kernel
theorem dX7_rule_95 : decode cX7_rule 95 = .ok (.ireturn, 1) := by decide +kernel
theorem dX7_faults_0 : decode cX7_faults 0 = .ok (.aload_n 0, 1) := by decide +kernel
theorem dX7_faults_1 : decode cX7_faults 1 = .ok (.aload_n 0, 1) := by decide +kernel
theorem dX7_faults_2 : decode cX7_faults 2 = .ok (.iload_n 1, 1) := by decide +kernel
theorem dX7_faults_3 : decode cX7_faults 3 = .ok (.invokevirtual 127, 3) := by decide +kernel
theorem dX7_faults_6 : decode cX7_faults 6 = .ok (.invokevirtual 161, 3) := by decide +kernel
theorem dX7_faults_9 : decode cX7_faults 9 = .ok (.ireturn, 1) := by decide +kernel
theorem dX7_commit_0 : decode cX7_commit 0 = .ok (.iload_n 1, 1) := by decide +kernel
theorem dX7_commit_1 : decode cX7_commit 1 = .ok (.iconst 3, 1) := by decide +kernel
theorem dX7_commit_2 : decode cX7_commit 2 = .ok (.invokestatic 52, 3) := by decide +kernel
theorem dX7_commit_5 : decode cX7_commit 5 = .ok (.iload_n 2, 1) := by decide +kernel
theorem dX7_commit_6 : decode cX7_commit 6 = .ok (.iconst 0, 1) := by decide +kernel
theorem dX7_commit_7 : decode cX7_commit 7 = .ok (.bipush 100, 2) := by decide +kernel
theorem dX7_commit_9 : decode cX7_commit 9 = .ok (.invokestatic 98, 3) := by decide +kernel
theorem dX7_commit_12 : decode cX7_commit 12 = .ok (.aload_n 0, 1) := by decide +kernel
theorem dX7_commit_13 : decode cX7_commit 13 = .ok (.iload_n 1, 1) := by decide +kernel
theorem dX7_commit_14 : decode cX7_commit 14 = .ok (.invokevirtual 74, 3) := by decide +kernel
theorem dX7_commit_17 : decode cX7_commit 17 = .ok (.astore_n 3, 1) := by decide +kernel
theorem dX7_commit_18 : decode cX7_commit 18 = .ok (.aload_n 0, 1) := by decide +kernel
theorem dX7_commit_19 : decode cX7_commit 19 = .ok (.getfield 165, 3) := by decide +kernel
theorem dX7_commit_22 : decode cX7_commit 22 = .ok (.ifCond .gt 12, 3) := by decide +kernel
theorem dX7_commit_25 : decode cX7_commit 25 = .ok (.aload_n 0, 1) := by decide +kernel
theorem dX7_commit_26 : decode cX7_commit 26 = .ok (.getfield 48, 3) := by decide +kernel
theorem dX7_commit_29 : decode cX7_commit 29 = .ok (.bipush 29, 2) := by decide +kernel
theorem dX7_commit_31 : decode cX7_commit 31 = .ok (.if_icmp .lt 13, 3) := by decide +kernel
theorem dX7_commit_34 : decode cX7_commit 34 = .ok (.new 91, 3) := by decide +kernel
theorem dX7_commit_37 : decode cX7_commit 37 = .ok (.dup, 1) := by decide +kernel
theorem dX7_commit_38 : decode cX7_commit 38 = .ok (.ldc 168, 2) := by decide +kernel
theorem dX7_commit_40 : decode cX7_commit 40 = .ok (.invokespecial 95, 3) := by decide +kernel
theorem dX7_commit_43 : decode cX7_commit 43 = .ok (.athrow, 1) := by decide +kernel
theorem dX7_commit_44 : decode cX7_commit 44 = .ok (.aload_n 0, 1) := by decide +kernel
theorem dX7_commit_45 : decode cX7_commit 45 = .ok (.getfield 11, 3) := by decide +kernel
theorem dX7_commit_48 : decode cX7_commit 48 = .ok (.iload_n 1, 1) := by decide +kernel
theorem dX7_commit_49 : decode cX7_commit 49 = .ok (.aaload, 1) := by decide +kernel
theorem dX7_commit_50 : decode cX7_commit 50 = .ok (.astore 4, 2) := by decide +kernel
theorem dX7_commit_52 : decode cX7_commit 52 = .ok (.aload_n 0, 1) := by decide +kernel
theorem dX7_commit_53 : decode cX7_commit 53 = .ok (.getfield 30, 3) := by decide +kernel
theorem dX7_commit_56 : decode cX7_commit 56 = .ok (.aload_n 0, 1) := by decide +kernel
theorem dX7_commit_57 : decode cX7_commit 57 = .ok (.getfield 17, 3) := by decide +kernel
theorem dX7_commit_60 : decode cX7_commit 60 = .ok (.aload 4, 2) := by decide +kernel
theorem dX7_commit_62 : decode cX7_commit 62 = .ok (.getfield 60, 3) := by decide +kernel
theorem dX7_commit_65 : decode cX7_commit 65 = .ok (.aaload, 1) := by decide +kernel
theorem dX7_commit_66 : decode cX7_commit 66 = .ok (.aload_n 3, 1) := by decide +kernel
theorem dX7_commit_67 : decode cX7_commit 67 = .ok (.invokevirtual 130, 3) := by decide +kernel
theorem dX7_commit_70 : decode cX7_commit 70 = .ok (.aload_n 0, 1) := by decide +kernel
theorem dX7_commit_71 : decode cX7_commit 71 = .ok (.getfield 35, 3) := by decide +kernel
theorem dX7_commit_74 : decode cX7_commit 74 = .ok (.aload_n 0, 1) := by decide +kernel
theorem dX7_commit_75 : decode cX7_commit 75 = .ok (.getfield 17, 3) := by decide +kernel
theorem dX7_commit_78 : decode cX7_commit 78 = .ok (.aload_n 0, 1) := by decide +kernel
theorem dX7_commit_79 : decode cX7_commit 79 = .ok (.getfield 48, 3) := by decide +kernel
theorem dX7_commit_82 : decode cX7_commit 82 = .ok (.iconst 1, 1) := by decide +kernel
theorem dX7_commit_83 : decode cX7_commit 83 = .ok (.isub, 1) := by decide +kernel
theorem dX7_commit_84 : decode cX7_commit 84 = .ok (.aaload, 1) := by decide +kernel
theorem dX7_commit_85 : decode cX7_commit 85 = .ok (.invokevirtual 66, 3) := by decide +kernel
theorem dX7_commit_88 : decode cX7_commit 88 = .ok (.aload_n 0, 1) := by decide +kernel
theorem dX7_commit_89 : decode cX7_commit 89 = .ok (.getfield 30, 3) := by decide +kernel
theorem dX7_commit_92 : decode cX7_commit 92 = .ok (.aload_n 0, 1) := by decide +kernel
theorem dX7_commit_93 : decode cX7_commit 93 = .ok (.getfield 35, 3) := by decide +kernel
theorem dX7_commit_96 : decode cX7_commit 96 = .ok (.iconst 1, 1) := by decide +kernel
theorem dX7_commit_97 : decode cX7_commit 97 = .ok (.invokevirtual 137, 3) := by decide +kernel
theorem dX7_commit_100 : decode cX7_commit 100 = .ok (.ifCond .ne 13, 3) := by decide +kernel
theorem dX7_commit_103 : decode cX7_commit 103 = .ok (.new 91, 3) := by decide +kernel
theorem dX7_commit_106 : decode cX7_commit 106 = .ok (.dup, 1) := by decide +kernel
theorem dX7_commit_107 : decode cX7_commit 107 = .ok (.ldc 170, 2) := by decide +kernel
theorem dX7_commit_109 : decode cX7_commit 109 = .ok (.invokespecial 95, 3) := by decide +kernel
theorem dX7_commit_112 : decode cX7_commit 112 = .ok (.athrow, 1) := by decide +kernel
theorem dX7_commit_113 : decode cX7_commit 113 = .ok (.aload_n 0, 1) := by decide +kernel
theorem dX7_commit_114 : decode cX7_commit 114 = .ok (.aload_n 0, 1) := by decide +kernel
theorem dX7_commit_115 : decode cX7_commit 115 = .ok (.getfield 35, 3) := by decide +kernel
theorem dX7_commit_118 : decode cX7_commit 118 = .ok (.invokevirtual 161, 3) := by decide +kernel
theorem dX7_commit_121 : decode cX7_commit 121 = .ok (.ifCond .le 13, 3) := by decide +kernel
theorem dX7_commit_124 : decode cX7_commit 124 = .ok (.new 91, 3) := by decide +kernel
theorem dX7_commit_127 : decode cX7_commit 127 = .ok (.dup, 1) := by decide +kernel
theorem dX7_commit_128 : decode cX7_commit 128 = .ok (.ldc 172, 2) := by decide +kernel
theorem dX7_commit_130 : decode cX7_commit 130 = .ok (.invokespecial 95, 3) := by decide +kernel
theorem dX7_commit_133 : decode cX7_commit 133 = .ok (.athrow, 1) := by decide +kernel
theorem dX7_commit_134 : decode cX7_commit 134 = .ok (.aload_n 0, 1) := by decide +kernel
theorem dX7_commit_135 : decode cX7_commit 135 = .ok (.aload_n 0, 1) := by decide +kernel
theorem dX7_commit_136 : decode cX7_commit 136 = .ok (.getfield 48, 3) := by decide +kernel
theorem dX7_commit_139 : decode cX7_commit 139 = .ok (.iconst 1, 1) := by decide +kernel
theorem dX7_commit_140 : decode cX7_commit 140 = .ok (.isub, 1) := by decide +kernel
theorem dX7_commit_141 : decode cX7_commit 141 = .ok (.putfield 174, 3) := by decide +kernel
theorem dX7_commit_144 : decode cX7_commit 144 = .ok (.aload_n 0, 1) := by decide +kernel
theorem dX7_commit_145 : decode cX7_commit 145 = .ok (.iload_n 2, 1) := by decide +kernel
theorem dX7_commit_146 : decode cX7_commit 146 = .ok (.putfield 165, 3) := by decide +kernel
theorem dX7_commit_149 : decode cX7_commit 149 = .ok (.aload 4, 2) := by decide +kernel
theorem dX7_commit_151 : decode cX7_commit 151 = .ok (.iconst 0, 1) := by decide +kernel
theorem dX7_commit_152 : decode cX7_commit 152 = .ok (.putfield 56, 3) := by decide +kernel
theorem dX7_commit_155 : decode cX7_commit 155 = .ok (.aload_n 0, 1) := by decide +kernel
theorem dX7_commit_156 : decode cX7_commit 156 = .ok (.aload_n 0, 1) := by decide +kernel
theorem dX7_commit_157 : decode cX7_commit 157 = .ok (.getfield 35, 3) := by decide +kernel
theorem dX7_commit_160 : decode cX7_commit 160 = .ok (.invokevirtual 177, 3) := by decide +kernel
theorem dX7_commit_163 : decode cX7_commit 163 = .ok (.aload_n 0, 1) := by decide +kernel
theorem dX7_commit_164 : decode cX7_commit 164 = .ok (.getfield 48, 3) := by decide +kernel
theorem dX7_commit_167 : decode cX7_commit 167 = .ok (.iconst 1, 1) := by decide +kernel
theorem dX7_commit_168 : decode cX7_commit 168 = .ok (.isub, 1) := by decide +kernel
theorem dX7_commit_169 : decode cX7_commit 169 = .ok (.ireturn, 1) := by decide +kernel
theorem dX7_confirm_0 : decode cX7_confirm 0 = .ok (.aload_n 0, 1) := by decide +kernel
theorem dX7_confirm_1 : decode cX7_confirm 1 = .ok (.getfield 165, 3) := by decide +kernel
theorem dX7_confirm_4 : decode cX7_confirm 4 = .ok (.ifCond .gt 13, 3) := by decide +kernel
theorem dX7_confirm_7 : decode cX7_confirm 7 = .ok (.new 91, 3) := by decide +kernel
theorem dX7_confirm_10 : decode cX7_confirm 10 = .ok (.dup, 1) := by decide +kernel
theorem dX7_confirm_11 : decode cX7_confirm 11 = .ok (.ldc 180, 2) := by decide +kernel
theorem dX7_confirm_13 : decode cX7_confirm 13 = .ok (.invokespecial 95, 3) := by decide +kernel
theorem dX7_confirm_16 : decode cX7_confirm 16 = .ok (.athrow, 1) := by decide +kernel
theorem dX7_confirm_17 : decode cX7_confirm 17 = .ok (.aload_n 0, 1) := by decide +kernel
theorem dX7_confirm_18 : decode cX7_confirm 18 = .ok (.getfield 165, 3) := by decide +kernel
theorem dX7_confirm_21 : decode cX7_confirm 21 = .ok (.istore_n 1, 1) := by decide +kernel
theorem dX7_confirm_22 : decode cX7_confirm 22 = .ok (.aload_n 0, 1) := by decide +kernel
theorem dX7_confirm_23 : decode cX7_confirm 23 = .ok (.iconst 0, 1) := by decide +kernel
theorem dX7_confirm_24 : decode cX7_confirm 24 = .ok (.putfield 165, 3) := by decide +kernel
theorem dX7_confirm_27 : decode cX7_confirm 27 = .ok (.iload_n 1, 1) := by decide +kernel
theorem dX7_confirm_28 : decode cX7_confirm 28 = .ok (.ireturn, 1) := by decide +kernel
theorem dX7_advance_0 : decode cX7_advance 0 = .ok (.iload_n 1, 1) := by decide +kernel
theorem dX7_advance_1 : decode cX7_advance 1 = .ok (.iconst 1, 1) := by decide +kernel
theorem dX7_advance_2 : decode cX7_advance 2 = .ok (.bipush 100, 2) := by decide +kernel
theorem dX7_advance_4 : decode cX7_advance 4 = .ok (.invokestatic 98, 3) := by decide +kernel
theorem dX7_advance_7 : decode cX7_advance 7 = .ok (.aload_n 0, 1) := by decide +kernel
theorem dX7_advance_8 : decode cX7_advance 8 = .ok (.getfield 165, 3) := by decide +kernel
theorem dX7_advance_11 : decode cX7_advance 11 = .ok (.iload_n 1, 1) := by decide +kernel
theorem dX7_advance_12 : decode cX7_advance 12 = .ok (.if_icmp .le 16, 3) := by decide +kernel
theorem dX7_advance_15 : decode cX7_advance 15 = .ok (.aload_n 0, 1) := by decide +kernel
theorem dX7_advance_16 : decode cX7_advance 16 = .ok (.dup, 1) := by decide +kernel
theorem dX7_advance_17 : decode cX7_advance 17 = .ok (.getfield 165, 3) := by decide +kernel
theorem dX7_advance_20 : decode cX7_advance 20 = .ok (.iload_n 1, 1) := by decide +kernel
theorem dX7_advance_21 : decode cX7_advance 21 = .ok (.isub, 1) := by decide +kernel
theorem dX7_advance_22 : decode cX7_advance 22 = .ok (.putfield 165, 3) := by decide +kernel
theorem dX7_advance_25 : decode cX7_advance 25 = .ok (.goto 28, 3) := by decide +kernel
theorem dX7_advance_28 : decode cX7_advance 28 = .ok (.aload_n 0, 1) := by decide +kernel
theorem dX7_advance_29 : decode cX7_advance 29 = .ok (.getfield 165, 3) := by decide +kernel
theorem dX7_advance_32 : decode cX7_advance 32 = .ok (.ifCond .le 21, 3) := by decide +kernel
theorem dX7_advance_35 : decode cX7_advance 35 = .ok (.aload_n 0, 1) := by decide +kernel
theorem dX7_advance_36 : decode cX7_advance 36 = .ok (.iconst 0, 1) := by decide +kernel
theorem dX7_advance_37 : decode cX7_advance 37 = .ok (.putfield 165, 3) := by decide +kernel
theorem dX7_advance_40 : decode cX7_advance 40 = .ok (.aload_n 0, 1) := by decide +kernel
theorem dX7_advance_41 : decode cX7_advance 41 = .ok (.aload_n 0, 1) := by decide +kernel
theorem dX7_advance_42 : decode cX7_advance 42 = .ok (.getfield 17, 3) := by decide +kernel
theorem dX7_advance_45 : decode cX7_advance 45 = .ok (.aload_n 0, 1) := by decide +kernel
theorem dX7_advance_46 : decode cX7_advance 46 = .ok (.getfield 174, 3) := by decide +kernel
theorem dX7_advance_49 : decode cX7_advance 49 = .ok (.aaload, 1) := by decide +kernel
theorem dX7_advance_50 : decode cX7_advance 50 = .ok (.invokevirtual 177, 3) := by decide +kernel
theorem dX7_advance_53 : decode cX7_advance 53 = .ok (.aload_n 0, 1) := by decide +kernel
theorem dX7_advance_54 : decode cX7_advance 54 = .ok (.getfield 48, 3) := by decide +kernel
theorem dX7_advance_57 : decode cX7_advance 57 = .ok (.iconst 1, 1) := by decide +kernel
theorem dX7_advance_58 : decode cX7_advance 58 = .ok (.isub, 1) := by decide +kernel
theorem dX7_advance_59 : decode cX7_advance 59 = .ok (.ireturn, 1) := by decide +kernel
theorem dX7_running_0 : decode cX7_running 0 = .ok (.aload_n 0, 1) := by decide +kernel
theorem dX7_running_1 : decode cX7_running 1 = .ok (.getfield 48, 3) := by decide +kernel
theorem dX7_running_4 : decode cX7_running 4 = .ok (.iconst 1, 1) := by decide +kernel
theorem dX7_running_5 : decode cX7_running 5 = .ok (.isub, 1) := by decide +kernel
theorem dX7_running_6 : decode cX7_running 6 = .ok (.ireturn, 1) := by decide +kernel
theorem dX7_waiting_0 : decode cX7_waiting 0 = .ok (.aload_n 0, 1) := by decide +kernel
theorem dX7_waiting_1 : decode cX7_waiting 1 = .ok (.getfield 165, 3) := by decide +kernel
theorem dX7_waiting_4 : decode cX7_waiting 4 = .ok (.ifCond .le 10, 3) := by decide +kernel
theorem dX7_waiting_7 : decode cX7_waiting 7 = .ok (.aload_n 0, 1) := by decide +kernel
theorem dX7_waiting_8 : decode cX7_waiting 8 = .ok (.getfield 165, 3) := by decide +kernel
theorem dX7_waiting_11 : decode cX7_waiting 11 = .ok (.goto 4, 3) := by decide +kernel
theorem dX7_waiting_14 : decode cX7_waiting 14 = .ok (.iconst (-1), 1) := by decide +kernel
theorem dX7_waiting_15 : decode cX7_waiting 15 = .ok (.ireturn, 1) := by decide +kernel
theorem dX7_size_0 : decode cX7_size 0 = .ok (.aload_n 0, 1) := by decide +kernel
theorem dX7_size_1 : decode cX7_size 1 = .ok (.iload_n 1, 1) := by decide +kernel
theorem dX7_size_2 : decode cX7_size 2 = .ok (.iload_n 2, 1) := by decide +kernel
theorem dX7_size_3 : decode cX7_size 3 = .ok (.invokevirtual 182, 3) := by decide +kernel
theorem dX7_size_6 : decode cX7_size 6 = .ok (.getfield 88, 3) := by decide +kernel
theorem dX7_size_9 : decode cX7_size 9 = .ok (.ireturn, 1) := by decide +kernel
theorem dX7_keyAt_0 : decode cX7_keyAt 0 = .ok (.aload_n 0, 1) := by decide +kernel
theorem dX7_keyAt_1 : decode cX7_keyAt 1 = .ok (.iload_n 1, 1) := by decide +kernel
theorem dX7_keyAt_2 : decode cX7_keyAt 2 = .ok (.iload_n 2, 1) := by decide +kernel
theorem dX7_keyAt_3 : decode cX7_keyAt 3 = .ok (.iload_n 3, 1) := by decide +kernel
theorem dX7_keyAt_4 : decode cX7_keyAt 4 = .ok (.invokevirtual 186, 3) := by decide +kernel
theorem dX7_keyAt_7 : decode cX7_keyAt 7 = .ok (.getfield 190, 3) := by decide +kernel
theorem dX7_keyAt_10 : decode cX7_keyAt 10 = .ok (.ireturn, 1) := by decide +kernel
theorem dX7_shown_0 : decode cX7_shown 0 = .ok (.aload_n 0, 1) := by decide +kernel
theorem dX7_shown_1 : decode cX7_shown 1 = .ok (.iload_n 1, 1) := by decide +kernel
theorem dX7_shown_2 : decode cX7_shown 2 = .ok (.iload_n 2, 1) := by decide +kernel
theorem dX7_shown_3 : decode cX7_shown 3 = .ok (.iload_n 3, 1) := by decide +kernel
theorem dX7_shown_4 : decode cX7_shown 4 = .ok (.invokevirtual 186, 3) := by decide +kernel
theorem dX7_shown_7 : decode cX7_shown 7 = .ok (.astore 5, 2) := by decide +kernel
theorem dX7_shown_9 : decode cX7_shown 9 = .ok (.iload 4, 2) := by decide +kernel
theorem dX7_shown_11 : decode cX7_shown 11 = .ok (.iconst 2, 1) := by decide +kernel
theorem dX7_shown_12 : decode cX7_shown 12 = .ok (.invokestatic 52, 3) := by decide +kernel
theorem dX7_shown_15 : decode cX7_shown 15 = .ok (.aload_n 0, 1) := by decide +kernel
theorem dX7_shown_16 : decode cX7_shown 16 = .ok (.iload_n 1, 1) := by decide +kernel
theorem dX7_shown_17 : decode cX7_shown 17 = .ok (.invokevirtual 127, 3) := by decide +kernel
theorem dX7_shown_20 : decode cX7_shown 20 = .ok (.aload 5, 2) := by decide +kernel
theorem dX7_shown_22 : decode cX7_shown 22 = .ok (.iload 4, 2) := by decide +kernel
theorem dX7_shown_24 : decode cX7_shown 24 = .ok (.invokevirtual 193, 3) := by decide +kernel
theorem dX7_shown_27 : decode cX7_shown 27 = .ok (.ireturn, 1) := by decide +kernel
theorem dX7_own_0 : decode cX7_own 0 = .ok (.aload_n 0, 1) := by decide +kernel
theorem dX7_own_1 : decode cX7_own 1 = .ok (.iload_n 1, 1) := by decide +kernel
theorem dX7_own_2 : decode cX7_own 2 = .ok (.iload_n 2, 1) := by decide +kernel
theorem dX7_own_3 : decode cX7_own 3 = .ok (.iload_n 3, 1) := by decide +kernel
theorem dX7_own_4 : decode cX7_own 4 = .ok (.invokevirtual 186, 3) := by decide +kernel
theorem dX7_own_7 : decode cX7_own 7 = .ok (.getfield 197, 3) := by decide +kernel
theorem dX7_own_10 : decode cX7_own 10 = .ok (.astore 4, 2) := by decide +kernel
theorem dX7_own_12 : decode cX7_own 12 = .ok (.sipush 10000, 3) := by decide +kernel
theorem dX7_own_15 : decode cX7_own 15 = .ok (.aload 4, 2) := by decide +kernel
theorem dX7_own_17 : decode cX7_own 17 = .ok (.iconst 0, 1) := by decide +kernel
theorem dX7_own_18 : decode cX7_own 18 = .ok (.iaload, 1) := by decide +kernel
theorem dX7_own_19 : decode cX7_own 19 = .ok (.iconst 1, 1) := by decide +kernel
theorem dX7_own_20 : decode cX7_own 20 = .ok (.iadd, 1) := by decide +kernel
theorem dX7_own_21 : decode cX7_own 21 = .ok (.imul, 1) := by decide +kernel
theorem dX7_own_22 : decode cX7_own 22 = .ok (.bipush 10, 2) := by decide +kernel
theorem dX7_own_24 : decode cX7_own 24 = .ok (.aload 4, 2) := by decide +kernel
theorem dX7_own_26 : decode cX7_own 26 = .ok (.iconst 1, 1) := by decide +kernel
theorem dX7_own_27 : decode cX7_own 27 = .ok (.iaload, 1) := by decide +kernel
theorem dX7_own_28 : decode cX7_own 28 = .ok (.iconst 1, 1) := by decide +kernel
theorem dX7_own_29 : decode cX7_own 29 = .ok (.iadd, 1) := by decide +kernel
theorem dX7_own_30 : decode cX7_own 30 = .ok (.imul, 1) := by decide +kernel
theorem dX7_own_31 : decode cX7_own 31 = .ok (.iadd, 1) := by decide +kernel
theorem dX7_own_32 : decode cX7_own 32 = .ok (.aload 4, 2) := by decide +kernel
theorem dX7_own_34 : decode cX7_own 34 = .ok (.iconst 2, 1) := by decide +kernel
theorem dX7_own_35 : decode cX7_own 35 = .ok (.iaload, 1) := by decide +kernel
theorem dX7_own_36 : decode cX7_own 36 = .ok (.iadd, 1) := by decide +kernel
theorem dX7_own_37 : decode cX7_own 37 = .ok (.iconst 1, 1) := by decide +kernel
theorem dX7_own_38 : decode cX7_own 38 = .ok (.iadd, 1) := by decide +kernel
theorem dX7_own_39 : decode cX7_own 39 = .ok (.ireturn, 1) := by decide +kernel
theorem dX7_same_0 : decode cX7_same 0 = .ok (.aload_n 0, 1) := by decide +kernel
theorem dX7_same_1 : decode cX7_same 1 = .ok (.iload_n 1, 1) := by decide +kernel
theorem dX7_same_2 : decode cX7_same 2 = .ok (.invokevirtual 127, 3) := by decide +kernel
theorem dX7_same_5 : decode cX7_same 5 = .ok (.aload_n 0, 1) := by decide +kernel
theorem dX7_same_6 : decode cX7_same 6 = .ok (.iload_n 2, 1) := by decide +kernel
theorem dX7_same_7 : decode cX7_same 7 = .ok (.invokevirtual 127, 3) := by decide +kernel
theorem dX7_same_10 : decode cX7_same 10 = .ok (.invokevirtual 201, 3) := by decide +kernel
theorem dX7_same_13 : decode cX7_same 13 = .ok (.ireturn, 1) := by decide +kernel
theorem dX7_edits_0 : decode cX7_edits 0 = .ok (.aload_n 0, 1) := by decide +kernel
theorem dX7_edits_1 : decode cX7_edits 1 = .ok (.getfield 30, 3) := by decide +kernel
theorem dX7_edits_4 : decode cX7_edits 4 = .ok (.aload_n 0, 1) := by decide +kernel
theorem dX7_edits_5 : decode cX7_edits 5 = .ok (.iload_n 1, 1) := by decide +kernel
theorem dX7_edits_6 : decode cX7_edits 6 = .ok (.invokevirtual 127, 3) := by decide +kernel
theorem dX7_edits_9 : decode cX7_edits 9 = .ok (.aload_n 0, 1) := by decide +kernel
theorem dX7_edits_10 : decode cX7_edits 10 = .ok (.iload_n 2, 1) := by decide +kernel
theorem dX7_edits_11 : decode cX7_edits 11 = .ok (.invokevirtual 127, 3) := by decide +kernel
theorem dX7_edits_14 : decode cX7_edits 14 = .ok (.invokevirtual 130, 3) := by decide +kernel
theorem dX7_edits_17 : decode cX7_edits 17 = .ok (.aload_n 0, 1) := by decide +kernel
theorem dX7_edits_18 : decode cX7_edits 18 = .ok (.getfield 30, 3) := by decide +kernel
theorem dX7_edits_21 : decode cX7_edits 21 = .ok (.getfield 143, 3) := by decide +kernel
theorem dX7_edits_24 : decode cX7_edits 24 = .ok (.ireturn, 1) := by decide +kernel
theorem dX7_editAt_0 : decode cX7_editAt 0 = .ok (.aload_n 0, 1) := by decide +kernel
theorem dX7_editAt_1 : decode cX7_editAt 1 = .ok (.getfield 30, 3) := by decide +kernel
theorem dX7_editAt_4 : decode cX7_editAt 4 = .ok (.aload_n 0, 1) := by decide +kernel
theorem dX7_editAt_5 : decode cX7_editAt 5 = .ok (.iload_n 1, 1) := by decide +kernel
theorem dX7_editAt_6 : decode cX7_editAt 6 = .ok (.invokevirtual 127, 3) := by decide +kernel
theorem dX7_editAt_9 : decode cX7_editAt 9 = .ok (.aload_n 0, 1) := by decide +kernel
theorem dX7_editAt_10 : decode cX7_editAt 10 = .ok (.iload_n 2, 1) := by decide +kernel
theorem dX7_editAt_11 : decode cX7_editAt 11 = .ok (.invokevirtual 127, 3) := by decide +kernel
theorem dX7_editAt_14 : decode cX7_editAt 14 = .ok (.invokevirtual 130, 3) := by decide +kernel
theorem dX7_editAt_17 : decode cX7_editAt 17 = .ok (.iload_n 3, 1) := by decide +kernel
theorem dX7_editAt_18 : decode cX7_editAt 18 = .ok (.aload_n 0, 1) := by decide +kernel
theorem dX7_editAt_19 : decode cX7_editAt 19 = .ok (.getfield 30, 3) := by decide +kernel
theorem dX7_editAt_22 : decode cX7_editAt 22 = .ok (.getfield 143, 3) := by decide +kernel
theorem dX7_editAt_25 : decode cX7_editAt 25 = .ok (.invokestatic 52, 3) := by decide +kernel
theorem dX7_editAt_28 : decode cX7_editAt 28 = .ok (.aload_n 0, 1) := by decide +kernel
theorem dX7_editAt_29 : decode cX7_editAt 29 = .ok (.getfield 30, 3) := by decide +kernel
theorem dX7_editAt_32 : decode cX7_editAt 32 = .ok (.getfield 205, 3) := by decide +kernel
theorem dX7_editAt_35 : decode cX7_editAt 35 = .ok (.iload_n 3, 1) := by decide +kernel
theorem dX7_editAt_36 : decode cX7_editAt 36 = .ok (.aaload, 1) := by decide +kernel
theorem dX7_editAt_37 : decode cX7_editAt 37 = .ok (.invokevirtual 209, 3) := by decide +kernel
theorem dX7_editAt_40 : decode cX7_editAt 40 = .ok (.ireturn, 1) := by decide +kernel
theorem dX7_needIndex_0 : decode cX7_needIndex 0 = .ok (.iload_n 0, 1) := by decide +kernel
theorem dX7_needIndex_1 : decode cX7_needIndex 1 = .ok (.ifCond .lt 8, 3) := by decide +kernel
theorem dX7_needIndex_4 : decode cX7_needIndex 4 = .ok (.iload_n 0, 1) := by decide +kernel
theorem dX7_needIndex_5 : decode cX7_needIndex 5 = .ok (.iload_n 1, 1) := by decide +kernel
theorem dX7_needIndex_6 : decode cX7_needIndex 6 = .ok (.if_icmp .lt 13, 3) := by decide +kernel
theorem dX7_needIndex_9 : decode cX7_needIndex 9 = .ok (.new 215, 3) := by decide +kernel
theorem dX7_needIndex_12 : decode cX7_needIndex 12 = .ok (.dup, 1) := by decide +kernel
theorem dX7_needIndex_13 : decode cX7_needIndex 13 = .ok (.ldc 217, 2) := by decide +kernel
theorem dX7_needIndex_15 : decode cX7_needIndex 15 = .ok (.invokespecial 219, 3) := by decide +kernel
theorem dX7_needIndex_18 : decode cX7_needIndex 18 = .ok (.athrow, 1) := by decide +kernel
theorem dX7_needIndex_19 : decode cX7_needIndex 19 = .ok (.return_, 1) := by decide +kernel
theorem dX7_needArgument_0 : decode cX7_needArgument 0 = .ok (.iload_n 0, 1) := by decide +kernel
theorem dX7_needArgument_1 : decode cX7_needArgument 1 = .ok (.iload_n 1, 1) := by decide +kernel
theorem dX7_needArgument_2 : decode cX7_needArgument 2 = .ok (.if_icmp .lt 8, 3) := by decide +kernel
theorem dX7_needArgument_5 : decode cX7_needArgument 5 = .ok (.iload_n 0, 1) := by decide +kernel
theorem dX7_needArgument_6 : decode cX7_needArgument 6 = .ok (.iload_n 2, 1) := by decide +kernel
theorem dX7_needArgument_7 : decode cX7_needArgument 7 = .ok (.if_icmp .le 13, 3) := by decide +kernel
theorem dX7_needArgument_10 : decode cX7_needArgument 10 = .ok (.new 220, 3) := by decide +kernel
theorem dX7_needArgument_13 : decode cX7_needArgument 13 = .ok (.dup, 1) := by decide +kernel
theorem dX7_needArgument_14 : decode cX7_needArgument 14 = .ok (.ldc 222, 2) := by decide +kernel
theorem dX7_needArgument_16 : decode cX7_needArgument 16 = .ok (.invokespecial 224, 3) := by decide +kernel
theorem dX7_needArgument_19 : decode cX7_needArgument 19 = .ok (.athrow, 1) := by decide +kernel
theorem dX7_needArgument_20 : decode cX7_needArgument 20 = .ok (.return_, 1) := by decide +kernel
theorem dX7_needEntryName_0 : decode cX7_needEntryName 0 = .ok (.iload_n 0, 1) := by decide +kernel
theorem dX7_needEntryName_1 : decode cX7_needEntryName 1 = .ok (.iconst 3, 1) := by decide +kernel
theorem dX7_needEntryName_2 : decode cX7_needEntryName 2 = .ok (.invokestatic 52, 3) := by decide +kernel
theorem dX7_needEntryName_5 : decode cX7_needEntryName 5 = .ok (.iload_n 1, 1) := by decide +kernel
theorem dX7_needEntryName_6 : decode cX7_needEntryName 6 = .ok (.iconst 3, 1) := by decide +kernel
theorem dX7_needEntryName_7 : decode cX7_needEntryName 7 = .ok (.invokestatic 52, 3) := by decide +kernel
theorem dX7_needEntryName_10 : decode cX7_needEntryName 10 = .ok (.iload_n 2, 1) := by decide +kernel
theorem dX7_needEntryName_11 : decode cX7_needEntryName 11 = .ok (.bipush 10, 2) := by decide +kernel
theorem dX7_needEntryName_13 : decode cX7_needEntryName 13 = .ok (.invokestatic 52, 3) := by decide +kernel
theorem dX7_needEntryName_16 : decode cX7_needEntryName 16 = .ok (.return_, 1) := by decide +kernel
theorem dX7_openConfiguration_0 : decode cX7_openConfiguration 0 = .ok (.aload_n 0, 1) := by decide +kernel
theorem dX7_openConfiguration_1 : decode cX7_openConfiguration 1 = .ok (.getfield 11, 3) := by decide +kernel
theorem dX7_openConfiguration_4 : decode cX7_openConfiguration 4 = .ok (.iload_n 1, 1) := by decide +kernel
theorem dX7_openConfiguration_5 : decode cX7_openConfiguration 5 = .ok (.aaload, 1) := by decide +kernel
theorem dX7_openConfiguration_6 : decode cX7_openConfiguration 6 = .ok (.astore_n 2, 1) := by decide +kernel
theorem dX7_openConfiguration_7 : decode cX7_openConfiguration 7 = .ok (.aload_n 2, 1) := by decide +kernel
theorem dX7_openConfiguration_8 : decode cX7_openConfiguration 8 = .ok (.getfield 56, 3) := by decide +kernel
theorem dX7_openConfiguration_11 : decode cX7_openConfiguration 11 = .ok (.ifCond .ne 13, 3) := by decide +kernel
theorem dX7_openConfiguration_14 : decode cX7_openConfiguration 14 = .ok (.new 91, 3) := by decide +kernel
theorem dX7_openConfiguration_17 : decode cX7_openConfiguration 17 = .ok (.dup, 1) := by decide +kernel
theorem dX7_openConfiguration_18 : decode cX7_openConfiguration 18 = .ok (.ldc 225, 2) := by decide +kernel
theorem dX7_openConfiguration_20 : decode cX7_openConfiguration 20 = .ok (.invokespecial 95, 3) := by decide +kernel
theorem dX7_openConfiguration_23 : decode cX7_openConfiguration 23 = .ok (.athrow, 1) := by decide +kernel
theorem dX7_openConfiguration_24 : decode cX7_openConfiguration 24 = .ok (.aload_n 2, 1) := by decide +kernel
theorem dX7_openConfiguration_25 : decode cX7_openConfiguration 25 = .ok (.getfield 63, 3) := by decide +kernel
theorem dX7_openConfiguration_28 : decode cX7_openConfiguration 28 = .ok (.areturn, 1) := by decide +kernel
theorem dX7_placeOfEntry_0 : decode cX7_placeOfEntry 0 = .ok (.aload_n 0, 1) := by decide +kernel
theorem dX7_placeOfEntry_1 : decode cX7_placeOfEntry 1 = .ok (.iload_n 1, 1) := by decide +kernel
theorem dX7_placeOfEntry_2 : decode cX7_placeOfEntry 2 = .ok (.invokevirtual 82, 3) := by decide +kernel
theorem dX7_placeOfEntry_5 : decode cX7_placeOfEntry 5 = .ok (.istore_n 2, 1) := by decide +kernel
theorem dX7_placeOfEntry_6 : decode cX7_placeOfEntry 6 = .ok (.iload_n 2, 1) := by decide +kernel
theorem dX7_placeOfEntry_7 : decode cX7_placeOfEntry 7 = .ok (.iconst (-1), 1) := by decide +kernel
theorem dX7_placeOfEntry_8 : decode cX7_placeOfEntry 8 = .ok (.if_icmp .ne 13, 3) := by decide +kernel
theorem dX7_placeOfEntry_11 : decode cX7_placeOfEntry 11 = .ok (.new 91, 3) := by decide +kernel
theorem dX7_placeOfEntry_14 : decode cX7_placeOfEntry 14 = .ok (.dup, 1) := by decide +kernel
theorem dX7_placeOfEntry_15 : decode cX7_placeOfEntry 15 = .ok (.ldc 227, 2) := by decide +kernel
theorem dX7_placeOfEntry_17 : decode cX7_placeOfEntry 17 = .ok (.invokespecial 95, 3) := by decide +kernel
theorem dX7_placeOfEntry_20 : decode cX7_placeOfEntry 20 = .ok (.athrow, 1) := by decide +kernel
theorem dX7_placeOfEntry_21 : decode cX7_placeOfEntry 21 = .ok (.iload_n 2, 1) := by decide +kernel
theorem dX7_placeOfEntry_22 : decode cX7_placeOfEntry 22 = .ok (.ireturn, 1) := by decide +kernel
theorem dX7_exchange_0 : decode cX7_exchange 0 = .ok (.aload_n 0, 1) := by decide +kernel
theorem dX7_exchange_1 : decode cX7_exchange 1 = .ok (.iload_n 1, 1) := by decide +kernel
theorem dX7_exchange_2 : decode cX7_exchange 2 = .ok (.invokevirtual 74, 3) := by decide +kernel
theorem dX7_exchange_5 : decode cX7_exchange 5 = .ok (.getfield 78, 3) := by decide +kernel
theorem dX7_exchange_8 : decode cX7_exchange 8 = .ok (.iload_n 2, 1) := by decide +kernel
theorem dX7_exchange_9 : decode cX7_exchange 9 = .ok (.aaload, 1) := by decide +kernel
theorem dX7_exchange_10 : decode cX7_exchange 10 = .ok (.astore 6, 2) := by decide +kernel
theorem dX7_exchange_12 : decode cX7_exchange 12 = .ok (.aload 6, 2) := by decide +kernel
theorem dX7_exchange_14 : decode cX7_exchange 14 = .ok (.getfield 229, 3) := by decide +kernel
theorem dX7_exchange_17 : decode cX7_exchange 17 = .ok (.aload 6, 2) := by decide +kernel
theorem dX7_exchange_19 : decode cX7_exchange 19 = .ok (.iload_n 3, 1) := by decide +kernel
theorem dX7_exchange_20 : decode cX7_exchange 20 = .ok (.invokestatic 109, 3) := by decide +kernel
theorem dX7_exchange_23 : decode cX7_exchange 23 = .ok (.aaload, 1) := by decide +kernel
theorem dX7_exchange_24 : decode cX7_exchange 24 = .ok (.getfield 197, 3) := by decide +kernel
theorem dX7_exchange_27 : decode cX7_exchange 27 = .ok (.astore 7, 2) := by decide +kernel
theorem dX7_exchange_29 : decode cX7_exchange 29 = .ok (.aload 7, 2) := by decide +kernel
theorem dX7_exchange_31 : decode cX7_exchange 31 = .ok (.iload 4, 2) := by decide +kernel
theorem dX7_exchange_33 : decode cX7_exchange 33 = .ok (.iaload, 1) := by decide +kernel
theorem dX7_exchange_34 : decode cX7_exchange 34 = .ok (.istore 8, 2) := by decide +kernel
theorem dX7_exchange_36 : decode cX7_exchange 36 = .ok (.aload 7, 2) := by decide +kernel
theorem dX7_exchange_38 : decode cX7_exchange 38 = .ok (.iload 4, 2) := by decide +kernel
theorem dX7_exchange_40 : decode cX7_exchange 40 = .ok (.iload 5, 2) := by decide +kernel
theorem dX7_exchange_42 : decode cX7_exchange 42 = .ok (.iastore, 1) := by decide +kernel
theorem dX7_exchange_43 : decode cX7_exchange 43 = .ok (.iload 8, 2) := by decide +kernel
theorem dX7_exchange_45 : decode cX7_exchange 45 = .ok (.ireturn, 1) := by decide +kernel
theorem dX7_configurationOf_0 : decode cX7_configurationOf 0 = .ok (.iload_n 1, 1) := by decide +kernel
theorem dX7_configurationOf_1 : decode cX7_configurationOf 1 = .ok (.bipush 10, 2) := by decide +kernel
theorem dX7_configurationOf_3 : decode cX7_configurationOf 3 = .ok (.if_icmp .lt 24, 3) := by decide +kernel
theorem dX7_configurationOf_6 : decode cX7_configurationOf 6 = .ok (.iload_n 1, 1) := by decide +kernel
theorem dX7_configurationOf_7 : decode cX7_configurationOf 7 = .ok (.bipush 10, 2) := by decide +kernel
theorem dX7_configurationOf_9 : decode cX7_configurationOf 9 = .ok (.isub, 1) := by decide +kernel
theorem dX7_configurationOf_10 : decode cX7_configurationOf 10 = .ok (.aload_n 0, 1) := by decide +kernel
theorem dX7_configurationOf_11 : decode cX7_configurationOf 11 = .ok (.getfield 48, 3) := by decide +kernel
theorem dX7_configurationOf_14 : decode cX7_configurationOf 14 = .ok (.invokestatic 52, 3) := by decide +kernel
theorem dX7_configurationOf_17 : decode cX7_configurationOf 17 = .ok (.aload_n 0, 1) := by decide +kernel
theorem dX7_configurationOf_18 : decode cX7_configurationOf 18 = .ok (.getfield 17, 3) := by decide +kernel
theorem dX7_configurationOf_21 : decode cX7_configurationOf 21 = .ok (.iload_n 1, 1) := by decide +kernel
theorem dX7_configurationOf_22 : decode cX7_configurationOf 22 = .ok (.bipush 10, 2) := by decide +kernel
theorem dX7_configurationOf_24 : decode cX7_configurationOf 24 = .ok (.isub, 1) := by decide +kernel
theorem dX7_configurationOf_25 : decode cX7_configurationOf 25 = .ok (.aaload, 1) := by decide +kernel
theorem dX7_configurationOf_26 : decode cX7_configurationOf 26 = .ok (.areturn, 1) := by decide +kernel
theorem dX7_configurationOf_27 : decode cX7_configurationOf 27 = .ok (.iload_n 1, 1) := by decide +kernel
theorem dX7_configurationOf_28 : decode cX7_configurationOf 28 = .ok (.iconst 3, 1) := by decide +kernel
theorem dX7_configurationOf_29 : decode cX7_configurationOf 29 = .ok (.invokestatic 52, 3) := by decide +kernel
theorem dX7_configurationOf_32 : decode cX7_configurationOf 32 = .ok (.aload_n 0, 1) := by decide +kernel
theorem dX7_configurationOf_33 : decode cX7_configurationOf 33 = .ok (.getfield 11, 3) := by decide +kernel
theorem dX7_configurationOf_36 : decode cX7_configurationOf 36 = .ok (.iload_n 1, 1) := by decide +kernel
theorem dX7_configurationOf_37 : decode cX7_configurationOf 37 = .ok (.aaload, 1) := by decide +kernel
theorem dX7_configurationOf_38 : decode cX7_configurationOf 38 = .ok (.getfield 56, 3) := by decide +kernel
theorem dX7_configurationOf_41 : decode cX7_configurationOf 41 = .ok (.ifCond .ne 13, 3) := by decide +kernel
theorem dX7_configurationOf_44 : decode cX7_configurationOf 44 = .ok (.new 215, 3) := by decide +kernel
theorem dX7_configurationOf_47 : decode cX7_configurationOf 47 = .ok (.dup, 1) := by decide +kernel
theorem dX7_configurationOf_48 : decode cX7_configurationOf 48 = .ok (.ldc 225, 2) := by decide +kernel
theorem dX7_configurationOf_50 : decode cX7_configurationOf 50 = .ok (.invokespecial 219, 3) := by decide +kernel
theorem dX7_configurationOf_53 : decode cX7_configurationOf 53 = .ok (.athrow, 1) := by decide +kernel
theorem dX7_configurationOf_54 : decode cX7_configurationOf 54 = .ok (.aload_n 0, 1) := by decide +kernel
theorem dX7_configurationOf_55 : decode cX7_configurationOf 55 = .ok (.getfield 11, 3) := by decide +kernel
theorem dX7_configurationOf_58 : decode cX7_configurationOf 58 = .ok (.iload_n 1, 1) := by decide +kernel
theorem dX7_configurationOf_59 : decode cX7_configurationOf 59 = .ok (.aaload, 1) := by decide +kernel
theorem dX7_configurationOf_60 : decode cX7_configurationOf 60 = .ok (.getfield 63, 3) := by decide +kernel
theorem dX7_configurationOf_63 : decode cX7_configurationOf 63 = .ok (.areturn, 1) := by decide +kernel
theorem dX7_sectionOf_0 : decode cX7_sectionOf 0 = .ok (.aload_n 0, 1) := by decide +kernel
theorem dX7_sectionOf_1 : decode cX7_sectionOf 1 = .ok (.iload_n 1, 1) := by decide +kernel
theorem dX7_sectionOf_2 : decode cX7_sectionOf 2 = .ok (.invokevirtual 127, 3) := by decide +kernel
theorem dX7_sectionOf_5 : decode cX7_sectionOf 5 = .ok (.astore_n 3, 1) := by decide +kernel
theorem dX7_sectionOf_6 : decode cX7_sectionOf 6 = .ok (.iload_n 2, 1) := by decide +kernel
theorem dX7_sectionOf_7 : decode cX7_sectionOf 7 = .ok (.iconst 3, 1) := by decide +kernel
theorem dX7_sectionOf_8 : decode cX7_sectionOf 8 = .ok (.invokestatic 52, 3) := by decide +kernel
theorem dX7_sectionOf_11 : decode cX7_sectionOf 11 = .ok (.aload_n 3, 1) := by decide +kernel
theorem dX7_sectionOf_12 : decode cX7_sectionOf 12 = .ok (.getfield 78, 3) := by decide +kernel
theorem dX7_sectionOf_15 : decode cX7_sectionOf 15 = .ok (.iload_n 2, 1) := by decide +kernel
theorem dX7_sectionOf_16 : decode cX7_sectionOf 16 = .ok (.aaload, 1) := by decide +kernel
theorem dX7_sectionOf_17 : decode cX7_sectionOf 17 = .ok (.areturn, 1) := by decide +kernel
theorem dX7_entryOf_0 : decode cX7_entryOf 0 = .ok (.aload_n 0, 1) := by decide +kernel
theorem dX7_entryOf_1 : decode cX7_entryOf 1 = .ok (.iload_n 1, 1) := by decide +kernel
theorem dX7_entryOf_2 : decode cX7_entryOf 2 = .ok (.iload_n 2, 1) := by decide +kernel
theorem dX7_entryOf_3 : decode cX7_entryOf 3 = .ok (.invokevirtual 182, 3) := by decide +kernel
theorem dX7_entryOf_6 : decode cX7_entryOf 6 = .ok (.astore 4, 2) := by decide +kernel
theorem dX7_entryOf_8 : decode cX7_entryOf 8 = .ok (.iload_n 3, 1) := by decide +kernel
theorem dX7_entryOf_9 : decode cX7_entryOf 9 = .ok (.aload 4, 2) := by decide +kernel
theorem dX7_entryOf_11 : decode cX7_entryOf 11 = .ok (.getfield 88, 3) := by decide +kernel
theorem dX7_entryOf_14 : decode cX7_entryOf 14 = .ok (.invokestatic 52, 3) := by decide +kernel
theorem dX7_entryOf_17 : decode cX7_entryOf 17 = .ok (.aload 4, 2) := by decide +kernel
theorem dX7_entryOf_19 : decode cX7_entryOf 19 = .ok (.getfield 229, 3) := by decide +kernel
theorem dX7_entryOf_22 : decode cX7_entryOf 22 = .ok (.iload_n 3, 1) := by decide +kernel
theorem dX7_entryOf_23 : decode cX7_entryOf 23 = .ok (.aaload, 1) := by decide +kernel
theorem dX7_entryOf_24 : decode cX7_entryOf 24 = .ok (.areturn, 1) := by decide +kernel
theorem dX7_brokenRules_0 : decode cX7_brokenRules 0 = .ok (.iconst 0, 1) := by decide +kernel
theorem dX7_brokenRules_1 : decode cX7_brokenRules 1 = .ok (.istore_n 2, 1) := by decide +kernel
theorem dX7_brokenRules_2 : decode cX7_brokenRules 2 = .ok (.iconst 0, 1) := by decide +kernel
theorem dX7_brokenRules_3 : decode cX7_brokenRules 3 = .ok (.istore_n 3, 1) := by decide +kernel
theorem dX7_brokenRules_4 : decode cX7_brokenRules 4 = .ok (.iload_n 3, 1) := by decide +kernel
theorem dX7_brokenRules_5 : decode cX7_brokenRules 5 = .ok (.aload_n 0, 1) := by decide +kernel
theorem dX7_brokenRules_6 : decode cX7_brokenRules 6 = .ok (.getfield 144, 3) := by decide +kernel
theorem dX7_brokenRules_9 : decode cX7_brokenRules 9 = .ok (.if_icmp .ge 25, 3) := by decide +kernel
theorem dX7_brokenRules_12 : decode cX7_brokenRules 12 = .ok (.aload_n 0, 1) := by decide +kernel
theorem dX7_brokenRules_13 : decode cX7_brokenRules 13 = .ok (.getfield 23, 3) := by decide +kernel
theorem dX7_brokenRules_16 : decode cX7_brokenRules 16 = .ok (.iload_n 3, 1) := by decide +kernel
theorem dX7_brokenRules_17 : decode cX7_brokenRules 17 = .ok (.aaload, 1) := by decide +kernel
theorem dX7_brokenRules_18 : decode cX7_brokenRules 18 = .ok (.aload_n 1, 1) := by decide +kernel
theorem dX7_brokenRules_19 : decode cX7_brokenRules 19 = .ok (.invokevirtual 233, 3) := by decide +kernel
theorem dX7_brokenRules_22 : decode cX7_brokenRules 22 = .ok (.ifCond .ne 6, 3) := by decide +kernel
theorem dX7_brokenRules_25 : decode cX7_brokenRules 25 = .ok (.iinc 2 1, 3) := by decide +kernel
theorem dX7_brokenRules_28 : decode cX7_brokenRules 28 = .ok (.iinc 3 1, 3) := by decide +kernel
theorem dX7_brokenRules_31 : decode cX7_brokenRules 31 = .ok (.goto (-27), 3) := by decide +kernel
theorem dX7_brokenRules_34 : decode cX7_brokenRules 34 = .ok (.iload_n 2, 1) := by decide +kernel
theorem dX7_brokenRules_35 : decode cX7_brokenRules 35 = .ok (.ireturn, 1) := by decide +kernel
theorem dX7_addVersion_0 : decode cX7_addVersion 0 = .ok (.aload_n 0, 1) := by decide +kernel
theorem dX7_addVersion_1 : decode cX7_addVersion 1 = .ok (.getfield 48, 3) := by decide +kernel
theorem dX7_addVersion_4 : decode cX7_addVersion 4 = .ok (.bipush 30, 2) := by decide +kernel
theorem dX7_addVersion_6 : decode cX7_addVersion 6 = .ok (.if_icmp .ge 26, 3) := by decide +kernel
theorem dX7_addVersion_9 : decode cX7_addVersion 9 = .ok (.aload_n 0, 1) := by decide +kernel
theorem dX7_addVersion_10 : decode cX7_addVersion 10 = .ok (.getfield 17, 3) := by decide +kernel
theorem dX7_addVersion_13 : decode cX7_addVersion 13 = .ok (.aload_n 0, 1) := by decide +kernel
theorem dX7_addVersion_14 : decode cX7_addVersion 14 = .ok (.getfield 48, 3) := by decide +kernel
theorem dX7_addVersion_17 : decode cX7_addVersion 17 = .ok (.aaload, 1) := by decide +kernel
theorem dX7_addVersion_18 : decode cX7_addVersion 18 = .ok (.aload_n 1, 1) := by decide +kernel
theorem dX7_addVersion_19 : decode cX7_addVersion 19 = .ok (.invokevirtual 66, 3) := by decide +kernel
theorem dX7_addVersion_22 : decode cX7_addVersion 22 = .ok (.aload_n 0, 1) := by decide +kernel
theorem dX7_addVersion_23 : decode cX7_addVersion 23 = .ok (.dup, 1) := by decide +kernel
theorem dX7_addVersion_24 : decode cX7_addVersion 24 = .ok (.getfield 48, 3) := by decide +kernel
theorem dX7_addVersion_27 : decode cX7_addVersion 27 = .ok (.iconst 1, 1) := by decide +kernel
theorem dX7_addVersion_28 : decode cX7_addVersion 28 = .ok (.iadd, 1) := by decide +kernel
theorem dX7_addVersion_29 : decode cX7_addVersion 29 = .ok (.putfield 48, 3) := by decide +kernel
theorem dX7_addVersion_32 : decode cX7_addVersion 32 = .ok (.return_, 1) := by decide +kernel
theorem dJ9_min_7cf53_0 : decode cJ9_min_7cf53 0 = .ok (.iload_n 0, 1) := by decide +kernel
theorem dJ9_min_7cf53_1 : decode cJ9_min_7cf53 1 = .ok (.iload_n 1, 1) := by decide +kernel
theorem dJ9_min_7cf53_2 : decode cJ9_min_7cf53 2 = .ok (.if_icmp .gt 7, 3) := by decide +kernel
theorem dJ9_min_7cf53_5 : decode cJ9_min_7cf53 5 = .ok (.iload_n 0, 1) := by decide +kernel
theorem dJ9_min_7cf53_6 : decode cJ9_min_7cf53 6 = .ok (.goto 4, 3) := by decide +kernel
theorem dJ9_min_7cf53_9 : decode cJ9_min_7cf53 9 = .ok (.iload_n 1, 1) := by decide +kernel
theorem dJ9_min_7cf53_10 : decode cJ9_min_7cf53 10 = .ok (.ireturn, 1) := by decide +kernel
end
section
theorem dX8_init_0 : decode cX8_init 0 = .ok (.aload_n 0, 1) := by decide +kernel
theorem dX8_init_1 : decode cX8_init 1 = .ok (.invokespecial 1, 3) := by decide +kernel
theorem dX8_init_4 : decode cX8_init 4 = .ok (.aload_n 0, 1) := by decide +kernel
theorem dX8_init_5 : decode cX8_init 5 = .ok (.sipush 945, 3) := by decide +kernel
theorem dX8_init_8 : decode cX8_init 8 = .ok (.newarray .int, 2) := by decide +kernel
theorem dX8_init_10 : decode cX8_init 10 = .ok (.putfield 7, 3) := by decide +kernel
theorem dX8_init_13 : decode cX8_init 13 = .ok (.aload_n 0, 1) := by decide +kernel
theorem dX8_init_14 : decode cX8_init 14 = .ok (.iconst 3, 1) := by decide +kernel
theorem dX8_init_15 : decode cX8_init 15 = .ok (.newarray .int, 2) := by decide +kernel
theorem dX8_init_17 : decode cX8_init 17 = .ok (.putfield 13, 3) := by decide +kernel
theorem dX8_init_20 : decode cX8_init 20 = .ok (.aload_n 0, 1) := by decide +kernel
theorem dX8_init_21 : decode cX8_init 21 = .ok (.iconst 3, 1) := by decide +kernel
theorem dX8_init_22 : decode cX8_init 22 = .ok (.newarray .int, 2) := by decide +kernel
theorem dX8_init_24 : decode cX8_init 24 = .ok (.putfield 16, 3) := by decide +kernel
theorem dX8_init_27 : decode cX8_init 27 = .ok (.aload_n 0, 1) := by decide +kernel
theorem dX8_init_28 : decode cX8_init 28 = .ok (.iconst (-1), 1) := by decide +kernel
theorem dX8_init_29 : decode cX8_init 29 = .ok (.putfield 19, 3) := by decide +kernel
theorem dX8_init_32 : decode cX8_init 32 = .ok (.aload_n 0, 1) := by decide +kernel
theorem dX8_init_33 : decode cX8_init 33 = .ok (.bipush 100, 2) := by decide +kernel
theorem dX8_init_35 : decode cX8_init 35 = .ok (.newarray .int, 2) := by decide +kernel
theorem dX8_init_37 : decode cX8_init 37 = .ok (.putfield 23, 3) := by decide +kernel
theorem dX8_init_40 : decode cX8_init 40 = .ok (.aload_n 0, 1) := by decide +kernel
theorem dX8_init_41 : decode cX8_init 41 = .ok (.bipush 100, 2) := by decide +kernel
theorem dX8_init_43 : decode cX8_init 43 = .ok (.newarray .int, 2) := by decide +kernel
theorem dX8_init_45 : decode cX8_init 45 = .ok (.putfield 26, 3) := by decide +kernel
theorem dX8_init_48 : decode cX8_init 48 = .ok (.aload_n 0, 1) := by decide +kernel
theorem dX8_init_49 : decode cX8_init 49 = .ok (.bipush 100, 2) := by decide +kernel
theorem dX8_init_51 : decode cX8_init 51 = .ok (.newarray .int, 2) := by decide +kernel
theorem dX8_init_53 : decode cX8_init 53 = .ok (.putfield 29, 3) := by decide +kernel
theorem dX8_init_56 : decode cX8_init 56 = .ok (.aload_n 0, 1) := by decide +kernel
theorem dX8_init_57 : decode cX8_init 57 = .ok (.bipush 100, 2) := by decide +kernel
theorem dX8_init_59 : decode cX8_init 59 = .ok (.newarray .int, 2) := by decide +kernel
theorem dX8_init_61 : decode cX8_init 61 = .ok (.putfield 32, 3) := by decide +kernel
theorem dX8_init_64 : decode cX8_init 64 = .ok (.aload_n 0, 1) := by decide +kernel
theorem dX8_init_65 : decode cX8_init 65 = .ok (.bipush 100, 2) := by decide +kernel
theorem dX8_init_67 : decode cX8_init 67 = .ok (.newarray .int, 2) := by decide +kernel
theorem dX8_init_69 : decode cX8_init 69 = .ok (.putfield 35, 3) := by decide +kernel
theorem dX8_init_72 : decode cX8_init 72 = .ok (.aload_n 0, 1) := by decide +kernel
theorem dX8_init_73 : decode cX8_init 73 = .ok (.bipush 100, 2) := by decide +kernel
theorem dX8_init_75 : decode cX8_init 75 = .ok (.newarray .int, 2) := by decide +kernel
theorem dX8_init_77 : decode cX8_init 77 = .ok (.putfield 38, 3) := by decide +kernel
theorem dX8_init_80 : decode cX8_init 80 = .ok (.aload_n 0, 1) := by decide +kernel
theorem dX8_init_81 : decode cX8_init 81 = .ok (.bipush 8, 2) := by decide +kernel
theorem dX8_init_83 : decode cX8_init 83 = .ok (.newarray .int, 2) := by decide +kernel
theorem dX8_init_85 : decode cX8_init 85 = .ok (.putfield 41, 3) := by decide +kernel
theorem dX8_init_88 : decode cX8_init 88 = .ok (.aload_n 0, 1) := by decide +kernel
theorem dX8_init_89 : decode cX8_init 89 = .ok (.bipush 8, 2) := by decide +kernel
theorem dX8_init_91 : decode cX8_init 91 = .ok (.newarray .int, 2) := by decide +kernel
theorem dX8_init_93 : decode cX8_init 93 = .ok (.putfield 44, 3) := by decide +kernel
theorem dX8_init_96 : decode cX8_init 96 = .ok (.aload_n 0, 1) := by decide +kernel
theorem dX8_init_97 : decode cX8_init 97 = .ok (.bipush 8, 2) := by decide +kernel
theorem dX8_init_99 : decode cX8_init 99 = .ok (.newarray .int, 2) := by decide +kernel
theorem dX8_init_101 : decode cX8_init 101 = .ok (.putfield 47, 3) := by decide +kernel
theorem dX8_init_104 : decode cX8_init 104 = .ok (.aload_n 0, 1) := by decide +kernel
theorem dX8_init_105 : decode cX8_init 105 = .ok (.bipush 8, 2) := by decide +kernel
theorem dX8_init_107 : decode cX8_init 107 = .ok (.newarray .int, 2) := by decide +kernel
theorem dX8_init_109 : decode cX8_init 109 = .ok (.putfield 50, 3) := by decide +kernel
theorem dX8_init_112 : decode cX8_init 112 = .ok (.return_, 1) := by decide +kernel
theorem dX8_thrown_0 : decode cX8_thrown 0 = .ok (.aload_n 0, 1) := by decide +kernel
theorem dX8_thrown_1 : decode cX8_thrown 1 = .ok (.getfield 53, 3) := by decide +kernel
theorem dX8_thrown_4 : decode cX8_thrown 4 = .ok (.ireturn, 1) := by decide +kernel
theorem dX8_fails_0 : decode cX8_fails 0 = .ok (.aload_n 0, 1) := by decide +kernel
theorem dX8_fails_1 : decode cX8_fails 1 = .ok (.iload_n 1, 1) := by decide +kernel
theorem dX8_fails_2 : decode cX8_fails 2 = .ok (.putfield 53, 3) := by decide +kernel
theorem dX8_fails_5 : decode cX8_fails 5 = .ok (.iconst 0, 1) := by decide +kernel
theorem dX8_fails_6 : decode cX8_fails 6 = .ok (.ireturn, 1) := by decide +kernel
theorem dX8_in_0 : decode cX8_in 0 = .ok (.iload_n 0, 1) := by decide +kernel
theorem dX8_in_1 : decode cX8_in 1 = .ok (.iload_n 1, 1) := by decide +kernel
theorem dX8_in_2 : decode cX8_in 2 = .ok (.if_icmp .lt 12, 3) := by decide +kernel
theorem dX8_in_5 : decode cX8_in 5 = .ok (.iload_n 0, 1) := by decide +kernel
theorem dX8_in_6 : decode cX8_in 6 = .ok (.iload_n 2, 1) := by decide +kernel
theorem dX8_in_7 : decode cX8_in 7 = .ok (.if_icmp .gt 7, 3) := by decide +kernel
theorem dX8_in_10 : decode cX8_in 10 = .ok (.iconst 1, 1) := by decide +kernel
theorem dX8_in_11 : decode cX8_in 11 = .ok (.goto 4, 3) := by decide +kernel
theorem dX8_in_14 : decode cX8_in 14 = .ok (.iconst 0, 1) := by decide +kernel
theorem dX8_in_15 : decode cX8_in 15 = .ok (.ireturn, 1) := by decide +kernel
theorem dX8_at_0 : decode cX8_at 0 = .ok (.bipush 27, 2) := by decide +kernel
theorem dX8_at_2 : decode cX8_at 2 = .ok (.iload_n 0, 1) := by decide +kernel
theorem dX8_at_3 : decode cX8_at 3 = .ok (.imul, 1) := by decide +kernel
theorem dX8_at_4 : decode cX8_at 4 = .ok (.iconst 3, 1) := by decide +kernel
theorem dX8_at_5 : decode cX8_at 5 = .ok (.iadd, 1) := by decide +kernel
theorem dX8_at_6 : decode cX8_at 6 = .ok (.bipush 6, 2) := by decide +kernel
theorem dX8_at_8 : decode cX8_at 8 = .ok (.iload_n 1, 1) := by decide +kernel
theorem dX8_at_9 : decode cX8_at 9 = .ok (.imul, 1) := by decide +kernel
theorem dX8_at_10 : decode cX8_at 10 = .ok (.iadd, 1) := by decide +kernel
theorem dX8_at_11 : decode cX8_at 11 = .ok (.iload_n 2, 1) := by decide +kernel
theorem dX8_at_12 : decode cX8_at 12 = .ok (.iadd, 1) := by decide +kernel
theorem dX8_at_13 : decode cX8_at 13 = .ok (.ireturn, 1) := by decide +kernel
theorem dX8_many_0 : decode cX8_many 0 = .ok (.aload_n 0, 1) := by decide +kernel
theorem dX8_many_1 : decode cX8_many 1 = .ok (.getfield 7, 3) := by decide +kernel
theorem dX8_many_4 : decode cX8_many 4 = .ok (.bipush 27, 2) := by decide +kernel
theorem dX8_many_6 : decode cX8_many 6 = .ok (.iload_n 1, 1) := by decide +kernel
theorem dX8_many_7 : decode cX8_many 7 = .ok (.imul, 1) := by decide +kernel
theorem dX8_many_8 : decode cX8_many 8 = .ok (.iload_n 2, 1) := by decide +kernel
theorem dX8_many_9 : decode cX8_many 9 = .ok (.iadd, 1) := by decide +kernel
theorem dX8_many_10 : decode cX8_many 10 = .ok (.iaload, 1) := by decide +kernel
theorem dX8_many_11 : decode cX8_many 11 = .ok (.ireturn, 1) := by decide +kernel
theorem dX8_groupAt_0 : decode cX8_groupAt 0 = .ok (.bipush 27, 2) := by decide +kernel
theorem dX8_groupAt_2 : decode cX8_groupAt 2 = .ok (.iload_n 0, 1) := by decide +kernel
theorem dX8_groupAt_3 : decode cX8_groupAt 3 = .ok (.imul, 1) := by decide +kernel
theorem dX8_groupAt_4 : decode cX8_groupAt 4 = .ok (.bipush 21, 2) := by decide +kernel
theorem dX8_groupAt_6 : decode cX8_groupAt 6 = .ok (.iadd, 1) := by decide +kernel
theorem dX8_groupAt_7 : decode cX8_groupAt 7 = .ok (.iconst 2, 1) := by decide +kernel
theorem dX8_groupAt_8 : decode cX8_groupAt 8 = .ok (.iload_n 1, 1) := by decide +kernel
theorem dX8_groupAt_9 : decode cX8_groupAt 9 = .ok (.imul, 1) := by decide +kernel
theorem dX8_groupAt_10 : decode cX8_groupAt 10 = .ok (.iadd, 1) := by decide +kernel
theorem dX8_groupAt_11 : decode cX8_groupAt 11 = .ok (.iload_n 2, 1) := by decide +kernel
theorem dX8_groupAt_12 : decode cX8_groupAt 12 = .ok (.iadd, 1) := by decide +kernel
theorem dX8_groupAt_13 : decode cX8_groupAt 13 = .ok (.ireturn, 1) := by decide +kernel
theorem dX8_key_0 : decode cX8_key 0 = .ok (.iload_n 0, 1) := by decide +kernel
theorem dX8_key_1 : decode cX8_key 1 = .ok (.bipush 16, 2) := by decide +kernel
theorem dX8_key_3 : decode cX8_key 3 = .ok (.irem, 1) := by decide +kernel
theorem dX8_key_4 : decode cX8_key 4 = .ok (.ireturn, 1) := by decide +kernel
theorem dX8_field_0 : decode cX8_field 0 = .ok (.iload_n 0, 1) := by decide +kernel
theorem dX8_field_1 : decode cX8_field 1 = .ok (.iconst 4, 1) := by decide +kernel
theorem dX8_field_2 : decode cX8_field 2 = .ok (.bipush 7, 2) := by decide +kernel
theorem dX8_field_4 : decode cX8_field 4 = .ok (.iload_n 1, 1) := by decide +kernel
theorem dX8_field_5 : decode cX8_field 5 = .ok (.imul, 1) := by decide +kernel
theorem dX8_field_6 : decode cX8_field 6 = .ok (.iadd, 1) := by decide +kernel
theorem dX8_field_7 : decode cX8_field 7 = .ok (.ishr, 1) := by decide +kernel
theorem dX8_field_8 : decode cX8_field 8 = .ok (.bipush 127, 2) := by decide +kernel
theorem dX8_field_10 : decode cX8_field 10 = .ok (.iand, 1) := by decide +kernel
theorem dX8_field_11 : decode cX8_field 11 = .ok (.ireturn, 1) := by decide +kernel
theorem dX8_group_0 : decode cX8_group 0 = .ok (.iload_n 0, 1) := by decide +kernel
theorem dX8_group_1 : decode cX8_group 1 = .ok (.bipush 18, 2) := by decide +kernel
theorem dX8_group_3 : decode cX8_group 3 = .ok (.ishr, 1) := by decide +kernel
theorem dX8_group_4 : decode cX8_group 4 = .ok (.ireturn, 1) := by decide +kernel
theorem dX8_withField_0 : decode cX8_withField 0 = .ok (.iconst 4, 1) := by decide +kernel
theorem dX8_withField_1 : decode cX8_withField 1 = .ok (.bipush 7, 2) := by decide +kernel
theorem dX8_withField_3 : decode cX8_withField 3 = .ok (.iload_n 1, 1) := by decide +kernel
theorem dX8_withField_4 : decode cX8_withField 4 = .ok (.imul, 1) := by decide +kernel
theorem dX8_withField_5 : decode cX8_withField 5 = .ok (.iadd, 1) := by decide +kernel
theorem dX8_withField_6 : decode cX8_withField 6 = .ok (.istore_n 3, 1) := by decide +kernel
theorem dX8_withField_7 : decode cX8_withField 7 = .ok (.iload_n 0, 1) := by decide +kernel
theorem dX8_withField_8 : decode cX8_withField 8 = .ok (.bipush 127, 2) := by decide +kernel
theorem dX8_withField_10 : decode cX8_withField 10 = .ok (.iload_n 3, 1) := by decide +kernel
theorem dX8_withField_11 : decode cX8_withField 11 = .ok (.ishl, 1) := by decide +kernel
theorem dX8_withField_12 : decode cX8_withField 12 = .ok (.iconst (-1), 1) := by decide +kernel
theorem dX8_withField_13 : decode cX8_withField 13 = .ok (.ixor, 1) := by decide +kernel
theorem dX8_withField_14 : decode cX8_withField 14 = .ok (.iand, 1) := by decide +kernel
theorem dX8_withField_15 : decode cX8_withField 15 = .ok (.iload_n 2, 1) := by decide +kernel
theorem dX8_withField_16 : decode cX8_withField 16 = .ok (.iload_n 3, 1) := by decide +kernel
theorem dX8_withField_17 : decode cX8_withField 17 = .ok (.ishl, 1) := by decide +kernel
theorem dX8_withField_18 : decode cX8_withField 18 = .ok (.ior, 1) := by decide +kernel
theorem dX8_withField_19 : decode cX8_withField 19 = .ok (.ireturn, 1) := by decide +kernel
theorem dX8_withGroup_0 : decode cX8_withGroup 0 = .ok (.iload_n 0, 1) := by decide +kernel
theorem dX8_withGroup_1 : decode cX8_withGroup 1 = .ok (.ldc 56, 2) := by decide +kernel
theorem dX8_withGroup_3 : decode cX8_withGroup 3 = .ok (.iand, 1) := by decide +kernel
theorem dX8_withGroup_4 : decode cX8_withGroup 4 = .ok (.iload_n 1, 1) := by decide +kernel
theorem dX8_withGroup_5 : decode cX8_withGroup 5 = .ok (.bipush 18, 2) := by decide +kernel
theorem dX8_withGroup_7 : decode cX8_withGroup 7 = .ok (.ishl, 1) := by decide +kernel
theorem dX8_withGroup_8 : decode cX8_withGroup 8 = .ok (.ior, 1) := by decide +kernel
theorem dX8_withGroup_9 : decode cX8_withGroup 9 = .ok (.ireturn, 1) := by decide +kernel
theorem dX8_find_0 : decode cX8_find 0 = .ok (.iconst 0, 1) := by decide +kernel
theorem dX8_find_1 : decode cX8_find 1 = .ok (.istore 4, 2) := by decide +kernel
theorem dX8_find_3 : decode cX8_find 3 = .ok (.iload 4, 2) := by decide +kernel
theorem dX8_find_5 : decode cX8_find 5 = .ok (.aload_n 0, 1) := by decide +kernel
theorem dX8_find_6 : decode cX8_find 6 = .ok (.iload_n 1, 1) := by decide +kernel
theorem dX8_find_7 : decode cX8_find 7 = .ok (.iload_n 2, 1) := by decide +kernel
theorem dX8_find_8 : decode cX8_find 8 = .ok (.invokevirtual 57, 3) := by decide +kernel
theorem dX8_find_11 : decode cX8_find 11 = .ok (.if_icmp .ge 28, 3) := by decide +kernel
theorem dX8_find_14 : decode cX8_find 14 = .ok (.aload_n 0, 1) := by decide +kernel
theorem dX8_find_15 : decode cX8_find 15 = .ok (.getfield 7, 3) := by decide +kernel
theorem dX8_find_18 : decode cX8_find 18 = .ok (.iload_n 1, 1) := by decide +kernel
theorem dX8_find_19 : decode cX8_find 19 = .ok (.iload_n 2, 1) := by decide +kernel
theorem dX8_find_20 : decode cX8_find 20 = .ok (.iload 4, 2) := by decide +kernel
theorem dX8_find_22 : decode cX8_find 22 = .ok (.invokestatic 61, 3) := by decide +kernel
theorem dX8_find_25 : decode cX8_find 25 = .ok (.iaload, 1) := by decide +kernel
theorem dX8_find_26 : decode cX8_find 26 = .ok (.invokestatic 65, 3) := by decide +kernel
theorem dX8_find_29 : decode cX8_find 29 = .ok (.iload_n 3, 1) := by decide +kernel
theorem dX8_find_30 : decode cX8_find 30 = .ok (.if_icmp .eq 9, 3) := by decide +kernel
theorem dX8_find_33 : decode cX8_find 33 = .ok (.iinc 4 1, 3) := by decide +kernel
theorem dX8_find_36 : decode cX8_find 36 = .ok (.goto (-33), 3) := by decide +kernel
theorem dX8_find_39 : decode cX8_find 39 = .ok (.iload 4, 2) := by decide +kernel
theorem dX8_find_41 : decode cX8_find 41 = .ok (.aload_n 0, 1) := by decide +kernel
theorem dX8_find_42 : decode cX8_find 42 = .ok (.iload_n 1, 1) := by decide +kernel
theorem dX8_find_43 : decode cX8_find 43 = .ok (.iload_n 2, 1) := by decide +kernel
theorem dX8_find_44 : decode cX8_find 44 = .ok (.invokevirtual 57, 3) := by decide +kernel
theorem dX8_find_47 : decode cX8_find 47 = .ok (.if_icmp .ge 8, 3) := by decide +kernel
theorem dX8_find_50 : decode cX8_find 50 = .ok (.iload 4, 2) := by decide +kernel
theorem dX8_find_52 : decode cX8_find 52 = .ok (.goto 4, 3) := by decide +kernel
theorem dX8_find_55 : decode cX8_find 55 = .ok (.iconst (-1), 1) := by decide +kernel
theorem dX8_find_56 : decode cX8_find 56 = .ok (.ireturn, 1) := by decide +kernel
theorem dX8_takes_0 : decode cX8_takes 0 = .ok (.aload_n 0, 1) := by decide +kernel
theorem dX8_takes_1 : decode cX8_takes 1 = .ok (.getfield 7, 3) := by decide +kernel
theorem dX8_takes_4 : decode cX8_takes 4 = .ok (.bipush 27, 2) := by decide +kernel
theorem dX8_takes_6 : decode cX8_takes 6 = .ok (.iload_n 1, 1) := by decide +kernel
theorem dX8_takes_7 : decode cX8_takes 7 = .ok (.imul, 1) := by decide +kernel
theorem dX8_takes_8 : decode cX8_takes 8 = .ok (.iload_n 2, 1) := by decide +kernel
theorem dX8_takes_9 : decode cX8_takes 9 = .ok (.iadd, 1) := by decide +kernel
theorem dX8_takes_10 : decode cX8_takes 10 = .ok (.dup2, 1) := by decide +kernel
theorem dX8_takes_11 : decode cX8_takes 11 = .ok (.iaload, 1) := by decide +kernel
theorem dX8_takes_12 : decode cX8_takes 12 = .ok (.iconst 1, 1) := by decide +kernel
theorem dX8_takes_13 : decode cX8_takes 13 = .ok (.isub, 1) := by decide +kernel
theorem dX8_takes_14 : decode cX8_takes 14 = .ok (.iastore, 1) := by decide +kernel
theorem dX8_takes_15 : decode cX8_takes 15 = .ok (.iload_n 3, 1) := by decide +kernel
theorem dX8_takes_16 : decode cX8_takes 16 = .ok (.istore 4, 2) := by decide +kernel
theorem dX8_takes_18 : decode cX8_takes 18 = .ok (.iload 4, 2) := by decide +kernel
theorem dX8_takes_20 : decode cX8_takes 20 = .ok (.aload_n 0, 1) := by decide +kernel
theorem dX8_takes_21 : decode cX8_takes 21 = .ok (.iload_n 1, 1) := by decide +kernel
theorem dX8_takes_22 : decode cX8_takes 22 = .ok (.iload_n 2, 1) := by decide +kernel
theorem dX8_takes_23 : decode cX8_takes 23 = .ok (.invokevirtual 57, 3) := by decide +kernel
theorem dX8_takes_26 : decode cX8_takes 26 = .ok (.if_icmp .ge 35, 3) := by decide +kernel
theorem dX8_takes_29 : decode cX8_takes 29 = .ok (.aload_n 0, 1) := by decide +kernel
theorem dX8_takes_30 : decode cX8_takes 30 = .ok (.getfield 7, 3) := by decide +kernel
theorem dX8_takes_33 : decode cX8_takes 33 = .ok (.iload_n 1, 1) := by decide +kernel
theorem dX8_takes_34 : decode cX8_takes 34 = .ok (.iload_n 2, 1) := by decide +kernel
theorem dX8_takes_35 : decode cX8_takes 35 = .ok (.iload 4, 2) := by decide +kernel
theorem dX8_takes_37 : decode cX8_takes 37 = .ok (.invokestatic 61, 3) := by decide +kernel
theorem dX8_takes_40 : decode cX8_takes 40 = .ok (.aload_n 0, 1) := by decide +kernel
theorem dX8_takes_41 : decode cX8_takes 41 = .ok (.getfield 7, 3) := by decide +kernel
theorem dX8_takes_44 : decode cX8_takes 44 = .ok (.iload_n 1, 1) := by decide +kernel
theorem dX8_takes_45 : decode cX8_takes 45 = .ok (.iload_n 2, 1) := by decide +kernel
theorem dX8_takes_46 : decode cX8_takes 46 = .ok (.iload 4, 2) := by decide +kernel
theorem dX8_takes_48 : decode cX8_takes 48 = .ok (.iconst 1, 1) := by decide +kernel
theorem dX8_takes_49 : decode cX8_takes 49 = .ok (.iadd, 1) := by decide +kernel
theorem dX8_takes_50 : decode cX8_takes 50 = .ok (.invokestatic 61, 3) := by decide +kernel
theorem dX8_takes_53 : decode cX8_takes 53 = .ok (.iaload, 1) := by decide +kernel
theorem dX8_takes_54 : decode cX8_takes 54 = .ok (.iastore, 1) := by decide +kernel
theorem dX8_takes_55 : decode cX8_takes 55 = .ok (.iinc 4 1, 3) := by decide +kernel
theorem dX8_takes_58 : decode cX8_takes 58 = .ok (.goto (-40), 3) := by decide +kernel
theorem dX8_takes_61 : decode cX8_takes 61 = .ok (.return_, 1) := by decide +kernel
theorem dX8_puts_0 : decode cX8_puts 0 = .ok (.aload_n 0, 1) := by decide +kernel
theorem dX8_puts_1 : decode cX8_puts 1 = .ok (.iload_n 1, 1) := by decide +kernel
theorem dX8_puts_2 : decode cX8_puts 2 = .ok (.iload_n 2, 1) := by decide +kernel
theorem dX8_puts_3 : decode cX8_puts 3 = .ok (.invokevirtual 57, 3) := by decide +kernel
theorem dX8_puts_6 : decode cX8_puts 6 = .ok (.istore 5, 2) := by decide +kernel
theorem dX8_puts_8 : decode cX8_puts 8 = .ok (.iload 5, 2) := by decide +kernel
theorem dX8_puts_10 : decode cX8_puts 10 = .ok (.iload_n 3, 1) := by decide +kernel
theorem dX8_puts_11 : decode cX8_puts 11 = .ok (.if_icmp .le 35, 3) := by decide +kernel
theorem dX8_puts_14 : decode cX8_puts 14 = .ok (.aload_n 0, 1) := by decide +kernel
theorem dX8_puts_15 : decode cX8_puts 15 = .ok (.getfield 7, 3) := by decide +kernel
theorem dX8_puts_18 : decode cX8_puts 18 = .ok (.iload_n 1, 1) := by decide +kernel
theorem dX8_puts_19 : decode cX8_puts 19 = .ok (.iload_n 2, 1) := by decide +kernel
theorem dX8_puts_20 : decode cX8_puts 20 = .ok (.iload 5, 2) := by decide +kernel
theorem dX8_puts_22 : decode cX8_puts 22 = .ok (.invokestatic 61, 3) := by decide +kernel
theorem dX8_puts_25 : decode cX8_puts 25 = .ok (.aload_n 0, 1) := by decide +kernel
theorem dX8_puts_26 : decode cX8_puts 26 = .ok (.getfield 7, 3) := by decide +kernel
theorem dX8_puts_29 : decode cX8_puts 29 = .ok (.iload_n 1, 1) := by decide +kernel
theorem dX8_puts_30 : decode cX8_puts 30 = .ok (.iload_n 2, 1) := by decide +kernel
theorem dX8_puts_31 : decode cX8_puts 31 = .ok (.iload 5, 2) := by decide +kernel
theorem dX8_puts_33 : decode cX8_puts 33 = .ok (.iconst 1, 1) := by decide +kernel
theorem dX8_puts_34 : decode cX8_puts 34 = .ok (.isub, 1) := by decide +kernel
theorem dX8_puts_35 : decode cX8_puts 35 = .ok (.invokestatic 61, 3) := by decide +kernel
theorem dX8_puts_38 : decode cX8_puts 38 = .ok (.iaload, 1) := by decide +kernel
theorem dX8_puts_39 : decode cX8_puts 39 = .ok (.iastore, 1) := by decide +kernel
theorem dX8_puts_40 : decode cX8_puts 40 = .ok (.iinc 5 (-1), 3) := by decide +kernel
theorem dX8_puts_43 : decode cX8_puts 43 = .ok (.goto (-35), 3) := by decide +kernel
theorem dX8_puts_46 : decode cX8_puts 46 = .ok (.aload_n 0, 1) := by decide +kernel
theorem dX8_puts_47 : decode cX8_puts 47 = .ok (.getfield 7, 3) := by decide +kernel
theorem dX8_puts_50 : decode cX8_puts 50 = .ok (.iload_n 1, 1) := by decide +kernel
theorem dX8_puts_51 : decode cX8_puts 51 = .ok (.iload_n 2, 1) := by decide +kernel
theorem dX8_puts_52 : decode cX8_puts 52 = .ok (.iload_n 3, 1) := by decide +kernel
theorem dX8_puts_53 : decode cX8_puts 53 = .ok (.invokestatic 61, 3) := by decide +kernel
theorem dX8_puts_56 : decode cX8_puts 56 = .ok (.iload 4, 2) := by decide +kernel
theorem dX8_puts_58 : decode cX8_puts 58 = .ok (.iastore, 1) := by decide +kernel
theorem dX8_puts_59 : decode cX8_puts 59 = .ok (.aload_n 0, 1) := by decide +kernel
theorem dX8_puts_60 : decode cX8_puts 60 = .ok (.getfield 7, 3) := by decide +kernel
theorem dX8_puts_63 : decode cX8_puts 63 = .ok (.bipush 27, 2) := by decide +kernel
theorem dX8_puts_65 : decode cX8_puts 65 = .ok (.iload_n 1, 1) := by decide +kernel
theorem dX8_puts_66 : decode cX8_puts 66 = .ok (.imul, 1) := by decide +kernel
theorem dX8_puts_67 : decode cX8_puts 67 = .ok (.iload_n 2, 1) := by decide +kernel
theorem dX8_puts_68 : decode cX8_puts 68 = .ok (.iadd, 1) := by decide +kernel
theorem dX8_puts_69 : decode cX8_puts 69 = .ok (.dup2, 1) := by decide +kernel
theorem dX8_puts_70 : decode cX8_puts 70 = .ok (.iaload, 1) := by decide +kernel
theorem dX8_puts_71 : decode cX8_puts 71 = .ok (.iconst 1, 1) := by decide +kernel
theorem dX8_puts_72 : decode cX8_puts 72 = .ok (.iadd, 1) := by decide +kernel
theorem dX8_puts_73 : decode cX8_puts 73 = .ok (.iastore, 1) := by decide +kernel
theorem dX8_puts_74 : decode cX8_puts 74 = .ok (.return_, 1) := by decide +kernel
theorem dX8_shifts_0 : decode cX8_shifts 0 = .ok (.aload_n 0, 1) := by decide +kernel
theorem dX8_shifts_1 : decode cX8_shifts 1 = .ok (.getfield 7, 3) := by decide +kernel
theorem dX8_shifts_4 : decode cX8_shifts 4 = .ok (.iload_n 1, 1) := by decide +kernel
theorem dX8_shifts_5 : decode cX8_shifts 5 = .ok (.iload_n 2, 1) := by decide +kernel
theorem dX8_shifts_6 : decode cX8_shifts 6 = .ok (.iload_n 3, 1) := by decide +kernel
theorem dX8_shifts_7 : decode cX8_shifts 7 = .ok (.invokestatic 61, 3) := by decide +kernel
theorem dX8_shifts_10 : decode cX8_shifts 10 = .ok (.iaload, 1) := by decide +kernel
theorem dX8_shifts_11 : decode cX8_shifts 11 = .ok (.istore 5, 2) := by decide +kernel
theorem dX8_shifts_13 : decode cX8_shifts 13 = .ok (.aload_n 0, 1) := by decide +kernel
theorem dX8_shifts_14 : decode cX8_shifts 14 = .ok (.iload_n 1, 1) := by decide +kernel
theorem dX8_shifts_15 : decode cX8_shifts 15 = .ok (.iload_n 2, 1) := by decide +kernel
theorem dX8_shifts_16 : decode cX8_shifts 16 = .ok (.iload_n 3, 1) := by decide +kernel
theorem dX8_shifts_17 : decode cX8_shifts 17 = .ok (.invokevirtual 69, 3) := by decide +kernel
theorem dX8_shifts_20 : decode cX8_shifts 20 = .ok (.aload_n 0, 1) := by decide +kernel
theorem dX8_shifts_21 : decode cX8_shifts 21 = .ok (.iload_n 1, 1) := by decide +kernel
theorem dX8_shifts_22 : decode cX8_shifts 22 = .ok (.iload_n 2, 1) := by decide +kernel
theorem dX8_shifts_23 : decode cX8_shifts 23 = .ok (.iload 4, 2) := by decide +kernel
theorem dX8_shifts_25 : decode cX8_shifts 25 = .ok (.iload 5, 2) := by decide +kernel
theorem dX8_shifts_27 : decode cX8_shifts 27 = .ok (.invokevirtual 73, 3) := by decide +kernel
theorem dX8_shifts_30 : decode cX8_shifts 30 = .ok (.return_, 1) := by decide +kernel
theorem dX8_copies_0 : decode cX8_copies 0 = .ok (.iconst 0, 1) := by decide +kernel
theorem dX8_copies_1 : decode cX8_copies 1 = .ok (.istore_n 3, 1) := by decide +kernel
theorem dX8_copies_2 : decode cX8_copies 2 = .ok (.iload_n 3, 1) := by decide +kernel
theorem dX8_copies_3 : decode cX8_copies 3 = .ok (.bipush 27, 2) := by decide +kernel
theorem dX8_copies_5 : decode cX8_copies 5 = .ok (.if_icmp .ge 31, 3) := by decide +kernel
theorem dX8_copies_8 : decode cX8_copies 8 = .ok (.aload_n 0, 1) := by decide +kernel
theorem dX8_copies_9 : decode cX8_copies 9 = .ok (.getfield 7, 3) := by decide +kernel
theorem dX8_copies_12 : decode cX8_copies 12 = .ok (.bipush 27, 2) := by decide +kernel
theorem dX8_copies_14 : decode cX8_copies 14 = .ok (.iload_n 2, 1) := by decide +kernel
theorem dX8_copies_15 : decode cX8_copies 15 = .ok (.imul, 1) := by decide +kernel
theorem dX8_copies_16 : decode cX8_copies 16 = .ok (.iload_n 3, 1) := by decide +kernel
theorem dX8_copies_17 : decode cX8_copies 17 = .ok (.iadd, 1) := by decide +kernel
theorem dX8_copies_18 : decode cX8_copies 18 = .ok (.aload_n 0, 1) := by decide +kernel
theorem dX8_copies_19 : decode cX8_copies 19 = .ok (.getfield 7, 3) := by decide +kernel
theorem dX8_copies_22 : decode cX8_copies 22 = .ok (.bipush 27, 2) := by decide +kernel
theorem dX8_copies_24 : decode cX8_copies 24 = .ok (.iload_n 1, 1) := by decide +kernel
theorem dX8_copies_25 : decode cX8_copies 25 = .ok (.imul, 1) := by decide +kernel
theorem dX8_copies_26 : decode cX8_copies 26 = .ok (.iload_n 3, 1) := by decide +kernel
theorem dX8_copies_27 : decode cX8_copies 27 = .ok (.iadd, 1) := by decide +kernel
theorem dX8_copies_28 : decode cX8_copies 28 = .ok (.iaload, 1) := by decide +kernel
theorem dX8_copies_29 : decode cX8_copies 29 = .ok (.iastore, 1) := by decide +kernel
theorem dX8_copies_30 : decode cX8_copies 30 = .ok (.iinc 3 1, 3) := by decide +kernel
theorem dX8_copies_33 : decode cX8_copies 33 = .ok (.goto (-31), 3) := by decide +kernel
theorem dX8_copies_36 : decode cX8_copies 36 = .ok (.return_, 1) := by decide +kernel
theorem dX8_slot_0 : decode cX8_slot 0 = .ok (.iload_n 1, 1) := by decide +kernel
theorem dX8_slot_1 : decode cX8_slot 1 = .ok (.iconst 0, 1) := by decide +kernel
theorem dX8_slot_2 : decode cX8_slot 2 = .ok (.iconst 2, 1) := by decide +kernel
theorem dX8_slot_3 : decode cX8_slot 3 = .ok (.invokestatic 77, 3) := by decide +kernel
theorem dX8_slot_6 : decode cX8_slot 6 = .ok (.ifCond .eq 19, 3) := by decide +kernel
theorem dX8_slot_9 : decode cX8_slot 9 = .ok (.aload_n 0, 1) := by decide +kernel
theorem dX8_slot_10 : decode cX8_slot 10 = .ok (.getfield 13, 3) := by decide +kernel
theorem dX8_slot_13 : decode cX8_slot 13 = .ok (.iload_n 1, 1) := by decide +kernel
theorem dX8_slot_14 : decode cX8_slot 14 = .ok (.iaload, 1) := by decide +kernel
theorem dX8_slot_15 : decode cX8_slot 15 = .ok (.iconst 1, 1) := by decide +kernel
theorem dX8_slot_16 : decode cX8_slot 16 = .ok (.if_icmp .ne 7, 3) := by decide +kernel
theorem dX8_slot_19 : decode cX8_slot 19 = .ok (.iload_n 1, 1) := by decide +kernel
theorem dX8_slot_20 : decode cX8_slot 20 = .ok (.goto 4, 3) := by decide +kernel
theorem dX8_slot_23 : decode cX8_slot 23 = .ok (.iconst (-1), 1) := by decide +kernel
theorem dX8_slot_24 : decode cX8_slot 24 = .ok (.ireturn, 1) := by decide +kernel
theorem dX8_slot_25 : decode cX8_slot 25 = .ok (.iload_n 1, 1) := by decide +kernel
theorem dX8_slot_26 : decode cX8_slot 26 = .ok (.bipush 10, 2) := by decide +kernel
theorem dX8_slot_28 : decode cX8_slot 28 = .ok (.bipush 10, 2) := by decide +kernel
theorem dX8_slot_30 : decode cX8_slot 30 = .ok (.aload_n 0, 1) := by decide +kernel
theorem dX8_slot_31 : decode cX8_slot 31 = .ok (.getfield 81, 3) := by decide +kernel
theorem dX8_slot_34 : decode cX8_slot 34 = .ok (.iadd, 1) := by decide +kernel
theorem dX8_slot_35 : decode cX8_slot 35 = .ok (.invokestatic 77, 3) := by decide +kernel
theorem dX8_slot_38 : decode cX8_slot 38 = .ok (.ifCond .eq 10, 3) := by decide +kernel
theorem dX8_slot_41 : decode cX8_slot 41 = .ok (.iload_n 1, 1) := by decide +kernel
theorem dX8_slot_42 : decode cX8_slot 42 = .ok (.bipush 7, 2) := by decide +kernel
theorem dX8_slot_44 : decode cX8_slot 44 = .ok (.isub, 1) := by decide +kernel
theorem dX8_slot_45 : decode cX8_slot 45 = .ok (.goto 4, 3) := by decide +kernel
theorem dX8_slot_48 : decode cX8_slot 48 = .ok (.iconst (-1), 1) := by decide +kernel
theorem dX8_slot_49 : decode cX8_slot 49 = .ok (.ireturn, 1) := by decide +kernel
theorem dX8_isField_0 : decode cX8_isField 0 = .ok (.iload_n 0, 1) := by decide +kernel
theorem dX8_isField_1 : decode cX8_isField 1 = .ok (.ifCond .eq 8, 3) := by decide +kernel
theorem dX8_isField_4 : decode cX8_isField 4 = .ok (.iload_n 0, 1) := by decide +kernel
theorem dX8_isField_5 : decode cX8_isField 5 = .ok (.iconst 1, 1) := by decide +kernel
theorem dX8_isField_6 : decode cX8_isField 6 = .ok (.if_icmp .ne 7, 3) := by decide +kernel
theorem dX8_isField_9 : decode cX8_isField 9 = .ok (.iconst 1, 1) := by decide +kernel
theorem dX8_isField_10 : decode cX8_isField 10 = .ok (.goto 4, 3) := by decide +kernel
theorem dX8_isField_13 : decode cX8_isField 13 = .ok (.iconst 0, 1) := by decide +kernel
theorem dX8_isField_14 : decode cX8_isField 14 = .ok (.ireturn, 1) := by decide +kernel
theorem dX8_isSection_0 : decode cX8_isSection 0 = .ok (.iload_n 0, 1) := by decide +kernel
theorem dX8_isSection_1 : decode cX8_isSection 1 = .ok (.iconst 0, 1) := by decide +kernel
theorem dX8_isSection_2 : decode cX8_isSection 2 = .ok (.iconst 2, 1) := by decide +kernel
theorem dX8_isSection_3 : decode cX8_isSection 3 = .ok (.invokestatic 77, 3) := by decide +kernel
theorem dX8_isSection_6 : decode cX8_isSection 6 = .ok (.ireturn, 1) := by decide +kernel
theorem dX8_isKey_0 : decode cX8_isKey 0 = .ok (.iload_n 0, 1) := by decide +kernel
theorem dX8_isKey_1 : decode cX8_isKey 1 = .ok (.invokestatic 84, 3) := by decide +kernel
theorem dX8_isKey_4 : decode cX8_isKey 4 = .ok (.ifCond .eq 17, 3) := by decide +kernel
theorem dX8_isKey_7 : decode cX8_isKey 7 = .ok (.iload_n 1, 1) := by decide +kernel
theorem dX8_isKey_8 : decode cX8_isKey 8 = .ok (.iconst 0, 1) := by decide +kernel
theorem dX8_isKey_9 : decode cX8_isKey 9 = .ok (.bipush 9, 2) := by decide +kernel
theorem dX8_isKey_11 : decode cX8_isKey 11 = .ok (.invokestatic 77, 3) := by decide +kernel
theorem dX8_isKey_14 : decode cX8_isKey 14 = .ok (.ifCond .eq 7, 3) := by decide +kernel
theorem dX8_isKey_17 : decode cX8_isKey 17 = .ok (.iconst 1, 1) := by decide +kernel
theorem dX8_isKey_18 : decode cX8_isKey 18 = .ok (.goto 4, 3) := by decide +kernel
theorem dX8_isKey_21 : decode cX8_isKey 21 = .ok (.iconst 0, 1) := by decide +kernel
theorem dX8_isKey_22 : decode cX8_isKey 22 = .ok (.ireturn, 1) := by decide +kernel
theorem dX8_isCandidate_0 : decode cX8_isCandidate 0 = .ok (.iload_n 0, 1) := by decide +kernel
theorem dX8_isCandidate_1 : decode cX8_isCandidate 1 = .ok (.iconst 0, 1) := by decide +kernel
theorem dX8_isCandidate_2 : decode cX8_isCandidate 2 = .ok (.iconst 2, 1) := by decide +kernel
theorem dX8_isCandidate_3 : decode cX8_isCandidate 3 = .ok (.invokestatic 77, 3) := by decide +kernel
theorem dX8_isCandidate_6 : decode cX8_isCandidate 6 = .ok (.ireturn, 1) := by decide +kernel
theorem dX8_open_0 : decode cX8_open 0 = .ok (.aload_n 0, 1) := by decide +kernel
theorem dX8_open_1 : decode cX8_open 1 = .ok (.iload_n 1, 1) := by decide +kernel
theorem dX8_open_2 : decode cX8_open 2 = .ok (.invokestatic 88, 3) := by decide +kernel
theorem dX8_open_5 : decode cX8_open 5 = .ok (.ifCond .eq 7, 3) := by decide +kernel
theorem dX8_open_8 : decode cX8_open 8 = .ok (.iconst 0, 1) := by decide +kernel
theorem dX8_open_9 : decode cX8_open 9 = .ok (.goto 4, 3) := by decide +kernel
theorem dX8_open_12 : decode cX8_open 12 = .ok (.iconst 1, 1) := by decide +kernel
theorem dX8_open_13 : decode cX8_open 13 = .ok (.putfield 53, 3) := by decide +kernel
theorem dX8_open_16 : decode cX8_open 16 = .ok (.aload_n 0, 1) := by decide +kernel
theorem dX8_open_17 : decode cX8_open 17 = .ok (.getfield 53, 3) := by decide +kernel
theorem dX8_open_20 : decode cX8_open 20 = .ok (.ifCond .le 5, 3) := by decide +kernel
theorem dX8_open_23 : decode cX8_open 23 = .ok (.iconst 0, 1) := by decide +kernel
theorem dX8_open_24 : decode cX8_open 24 = .ok (.ireturn, 1) := by decide +kernel
theorem dX8_open_25 : decode cX8_open 25 = .ok (.aload_n 0, 1) := by decide +kernel
theorem dX8_open_26 : decode cX8_open 26 = .ok (.getfield 13, 3) := by decide +kernel
theorem dX8_open_29 : decode cX8_open 29 = .ok (.iload_n 1, 1) := by decide +kernel
theorem dX8_open_30 : decode cX8_open 30 = .ok (.iconst 1, 1) := by decide +kernel
theorem dX8_open_31 : decode cX8_open 31 = .ok (.iastore, 1) := by decide +kernel
theorem dX8_open_32 : decode cX8_open 32 = .ok (.aload_n 0, 1) := by decide +kernel
theorem dX8_open_33 : decode cX8_open 33 = .ok (.getfield 16, 3) := by decide +kernel
theorem dX8_open_36 : decode cX8_open 36 = .ok (.iload_n 1, 1) := by decide +kernel
theorem dX8_open_37 : decode cX8_open 37 = .ok (.aload_n 0, 1) := by decide +kernel
theorem dX8_open_38 : decode cX8_open 38 = .ok (.getfield 81, 3) := by decide +kernel
theorem dX8_open_41 : decode cX8_open 41 = .ok (.iastore, 1) := by decide +kernel
theorem dX8_open_42 : decode cX8_open 42 = .ok (.aload_n 0, 1) := by decide +kernel
theorem dX8_open_43 : decode cX8_open 43 = .ok (.iconst 3, 1) := by decide +kernel
theorem dX8_open_44 : decode cX8_open 44 = .ok (.aload_n 0, 1) := by decide +kernel
theorem dX8_open_45 : decode cX8_open 45 = .ok (.getfield 81, 3) := by decide +kernel
theorem dX8_open_48 : decode cX8_open 48 = .ok (.iadd, 1) := by decide +kernel
theorem dX8_open_49 : decode cX8_open 49 = .ok (.iload_n 1, 1) := by decide +kernel
theorem dX8_open_50 : decode cX8_open 50 = .ok (.invokevirtual 91, 3) := by decide +kernel
theorem dX8_open_53 : decode cX8_open 53 = .ok (.aload_n 0, 1) := by decide +kernel
theorem dX8_open_54 : decode cX8_open 54 = .ok (.getfield 81, 3) := by decide +kernel
theorem dX8_open_57 : decode cX8_open 57 = .ok (.ireturn, 1) := by decide +kernel
theorem dX8_add_0 : decode cX8_add 0 = .ok (.aload_n 0, 1) := by decide +kernel
theorem dX8_add_1 : decode cX8_add 1 = .ok (.iload_n 1, 1) := by decide +kernel
theorem dX8_add_2 : decode cX8_add 2 = .ok (.invokestatic 88, 3) := by decide +kernel
theorem dX8_add_5 : decode cX8_add 5 = .ok (.ifCond .eq 15, 3) := by decide +kernel
theorem dX8_add_8 : decode cX8_add 8 = .ok (.iload_n 2, 1) := by decide +kernel
theorem dX8_add_9 : decode cX8_add 9 = .ok (.iload_n 3, 1) := by decide +kernel
theorem dX8_add_10 : decode cX8_add 10 = .ok (.invokestatic 95, 3) := by decide +kernel
theorem dX8_add_13 : decode cX8_add 13 = .ok (.ifCond .eq 7, 3) := by decide +kernel
theorem dX8_add_16 : decode cX8_add 16 = .ok (.iconst 0, 1) := by decide +kernel
theorem dX8_add_17 : decode cX8_add 17 = .ok (.goto 4, 3) := by decide +kernel
theorem dX8_add_20 : decode cX8_add 20 = .ok (.iconst 1, 1) := by decide +kernel
theorem dX8_add_21 : decode cX8_add 21 = .ok (.putfield 53, 3) := by decide +kernel
theorem dX8_add_24 : decode cX8_add 24 = .ok (.aload_n 0, 1) := by decide +kernel
theorem dX8_add_25 : decode cX8_add 25 = .ok (.getfield 53, 3) := by decide +kernel
theorem dX8_add_28 : decode cX8_add 28 = .ok (.ifCond .le 5, 3) := by decide +kernel
theorem dX8_add_31 : decode cX8_add 31 = .ok (.iconst 0, 1) := by decide +kernel
theorem dX8_add_32 : decode cX8_add 32 = .ok (.ireturn, 1) := by decide +kernel
theorem dX8_add_33 : decode cX8_add 33 = .ok (.aload_n 0, 1) := by decide +kernel
theorem dX8_add_34 : decode cX8_add 34 = .ok (.getfield 13, 3) := by decide +kernel
theorem dX8_add_37 : decode cX8_add 37 = .ok (.iload_n 1, 1) := by decide +kernel
theorem dX8_add_38 : decode cX8_add 38 = .ok (.iaload, 1) := by decide +kernel
theorem dX8_add_39 : decode cX8_add 39 = .ok (.ifCond .eq 25, 3) := by decide +kernel
theorem dX8_add_42 : decode cX8_add 42 = .ok (.aload_n 0, 1) := by decide +kernel
theorem dX8_add_43 : decode cX8_add 43 = .ok (.iload_n 1, 1) := by decide +kernel
theorem dX8_add_44 : decode cX8_add 44 = .ok (.iload_n 2, 1) := by decide +kernel
theorem dX8_add_45 : decode cX8_add 45 = .ok (.iload_n 3, 1) := by decide +kernel
theorem dX8_add_46 : decode cX8_add 46 = .ok (.invokevirtual 99, 3) := by decide +kernel
theorem dX8_add_49 : decode cX8_add 49 = .ok (.iconst (-1), 1) := by decide +kernel
theorem dX8_add_50 : decode cX8_add 50 = .ok (.if_icmp .ne 14, 3) := by decide +kernel
theorem dX8_add_53 : decode cX8_add 53 = .ok (.aload_n 0, 1) := by decide +kernel
theorem dX8_add_54 : decode cX8_add 54 = .ok (.iload_n 1, 1) := by decide +kernel
theorem dX8_add_55 : decode cX8_add 55 = .ok (.iload_n 2, 1) := by decide +kernel
theorem dX8_add_56 : decode cX8_add 56 = .ok (.invokevirtual 57, 3) := by decide +kernel
theorem dX8_add_59 : decode cX8_add 59 = .ok (.bipush 6, 2) := by decide +kernel
theorem dX8_add_61 : decode cX8_add 61 = .ok (.if_icmp .ne 9, 3) := by decide +kernel
theorem dX8_add_64 : decode cX8_add 64 = .ok (.aload_n 0, 1) := by decide +kernel
theorem dX8_add_65 : decode cX8_add 65 = .ok (.iconst 2, 1) := by decide +kernel
theorem dX8_add_66 : decode cX8_add 66 = .ok (.invokevirtual 102, 3) := by decide +kernel
theorem dX8_add_69 : decode cX8_add 69 = .ok (.ireturn, 1) := by decide +kernel
theorem dX8_add_70 : decode cX8_add 70 = .ok (.iload 4, 2) := by decide +kernel
theorem dX8_add_72 : decode cX8_add 72 = .ok (.iconst 0, 1) := by decide +kernel
theorem dX8_add_73 : decode cX8_add 73 = .ok (.aload_n 0, 1) := by decide +kernel
theorem dX8_add_74 : decode cX8_add 74 = .ok (.iload_n 1, 1) := by decide +kernel
theorem dX8_add_75 : decode cX8_add 75 = .ok (.iload_n 2, 1) := by decide +kernel
theorem dX8_add_76 : decode cX8_add 76 = .ok (.invokevirtual 57, 3) := by decide +kernel
theorem dX8_add_79 : decode cX8_add 79 = .ok (.invokestatic 77, 3) := by decide +kernel
theorem dX8_add_82 : decode cX8_add 82 = .ok (.ifCond .ne 9, 3) := by decide +kernel
theorem dX8_add_85 : decode cX8_add 85 = .ok (.aload_n 0, 1) := by decide +kernel
theorem dX8_add_86 : decode cX8_add 86 = .ok (.iconst 3, 1) := by decide +kernel
theorem dX8_add_87 : decode cX8_add 87 = .ok (.invokevirtual 102, 3) := by decide +kernel
theorem dX8_add_90 : decode cX8_add 90 = .ok (.ireturn, 1) := by decide +kernel
theorem dX8_add_91 : decode cX8_add 91 = .ok (.aload_n 0, 1) := by decide +kernel
theorem dX8_add_92 : decode cX8_add 92 = .ok (.iload_n 1, 1) := by decide +kernel
theorem dX8_add_93 : decode cX8_add 93 = .ok (.iload_n 2, 1) := by decide +kernel
theorem dX8_add_94 : decode cX8_add 94 = .ok (.iload 4, 2) := by decide +kernel
theorem dX8_add_96 : decode cX8_add 96 = .ok (.iload_n 3, 1) := by decide +kernel
theorem dX8_add_97 : decode cX8_add 97 = .ok (.invokevirtual 73, 3) := by decide +kernel
theorem dX8_add_100 : decode cX8_add 100 = .ok (.aload_n 0, 1) := by decide +kernel
theorem dX8_add_101 : decode cX8_add 101 = .ok (.iload_n 1, 1) := by decide +kernel
theorem dX8_add_102 : decode cX8_add 102 = .ok (.iload_n 2, 1) := by decide +kernel
theorem dX8_add_103 : decode cX8_add 103 = .ok (.invokevirtual 57, 3) := by decide +kernel
theorem dX8_add_106 : decode cX8_add 106 = .ok (.ireturn, 1) := by decide +kernel
theorem dX8_entry_0 : decode cX8_entry 0 = .ok (.aload_n 0, 1) := by decide +kernel
theorem dX8_entry_1 : decode cX8_entry 1 = .ok (.iload_n 1, 1) := by decide +kernel
theorem dX8_entry_2 : decode cX8_entry 2 = .ok (.invokestatic 88, 3) := by decide +kernel
theorem dX8_entry_5 : decode cX8_entry 5 = .ok (.ifCond .eq 15, 3) := by decide +kernel
theorem dX8_entry_8 : decode cX8_entry 8 = .ok (.iload_n 2, 1) := by decide +kernel
theorem dX8_entry_9 : decode cX8_entry 9 = .ok (.iload_n 3, 1) := by decide +kernel
theorem dX8_entry_10 : decode cX8_entry 10 = .ok (.invokestatic 95, 3) := by decide +kernel
theorem dX8_entry_13 : decode cX8_entry 13 = .ok (.ifCond .eq 7, 3) := by decide +kernel
theorem dX8_entry_16 : decode cX8_entry 16 = .ok (.iconst 0, 1) := by decide +kernel
theorem dX8_entry_17 : decode cX8_entry 17 = .ok (.goto 4, 3) := by decide +kernel
theorem dX8_entry_20 : decode cX8_entry 20 = .ok (.iconst 1, 1) := by decide +kernel
theorem dX8_entry_21 : decode cX8_entry 21 = .ok (.putfield 53, 3) := by decide +kernel
theorem dX8_entry_24 : decode cX8_entry 24 = .ok (.aload_n 0, 1) := by decide +kernel
theorem dX8_entry_25 : decode cX8_entry 25 = .ok (.getfield 53, 3) := by decide +kernel
theorem dX8_entry_28 : decode cX8_entry 28 = .ok (.ifCond .ne 23, 3) := by decide +kernel
theorem dX8_entry_31 : decode cX8_entry 31 = .ok (.aload_n 0, 1) := by decide +kernel
theorem dX8_entry_32 : decode cX8_entry 32 = .ok (.getfield 13, 3) := by decide +kernel
theorem dX8_entry_35 : decode cX8_entry 35 = .ok (.iload_n 1, 1) := by decide +kernel
theorem dX8_entry_36 : decode cX8_entry 36 = .ok (.iaload, 1) := by decide +kernel
theorem dX8_entry_37 : decode cX8_entry 37 = .ok (.iconst 1, 1) := by decide +kernel
theorem dX8_entry_38 : decode cX8_entry 38 = .ok (.if_icmp .ne 13, 3) := by decide +kernel
theorem dX8_entry_41 : decode cX8_entry 41 = .ok (.aload_n 0, 1) := by decide +kernel
theorem dX8_entry_42 : decode cX8_entry 42 = .ok (.iload_n 1, 1) := by decide +kernel
theorem dX8_entry_43 : decode cX8_entry 43 = .ok (.iload_n 2, 1) := by decide +kernel
theorem dX8_entry_44 : decode cX8_entry 44 = .ok (.iload_n 3, 1) := by decide +kernel
theorem dX8_entry_45 : decode cX8_entry 45 = .ok (.invokevirtual 99, 3) := by decide +kernel
theorem dX8_entry_48 : decode cX8_entry 48 = .ok (.goto 4, 3) := by decide +kernel
theorem dX8_entry_51 : decode cX8_entry 51 = .ok (.iconst (-1), 1) := by decide +kernel
theorem dX8_entry_52 : decode cX8_entry 52 = .ok (.istore 5, 2) := by decide +kernel
theorem dX8_entry_54 : decode cX8_entry 54 = .ok (.aload_n 0, 1) := by decide +kernel
theorem dX8_entry_55 : decode cX8_entry 55 = .ok (.aload_n 0, 1) := by decide +kernel
theorem dX8_entry_56 : decode cX8_entry 56 = .ok (.getfield 53, 3) := by decide +kernel
theorem dX8_entry_59 : decode cX8_entry 59 = .ok (.ifCond .ne 14, 3) := by decide +kernel
theorem dX8_entry_62 : decode cX8_entry 62 = .ok (.iload 5, 2) := by decide +kernel
theorem dX8_entry_64 : decode cX8_entry 64 = .ok (.iconst (-1), 1) := by decide +kernel
theorem dX8_entry_65 : decode cX8_entry 65 = .ok (.if_icmp .ne 8, 3) := by decide +kernel
theorem dX8_entry_68 : decode cX8_entry 68 = .ok (.iload 4, 2) := by decide +kernel
theorem dX8_entry_70 : decode cX8_entry 70 = .ok (.goto 7, 3) := by decide +kernel
theorem dX8_entry_73 : decode cX8_entry 73 = .ok (.aload_n 0, 1) := by decide +kernel
theorem dX8_entry_74 : decode cX8_entry 74 = .ok (.getfield 53, 3) := by decide +kernel
theorem dX8_entry_77 : decode cX8_entry 77 = .ok (.putfield 53, 3) := by decide +kernel
theorem dX8_entry_80 : decode cX8_entry 80 = .ok (.iload 5, 2) := by decide +kernel
theorem dX8_entry_82 : decode cX8_entry 82 = .ok (.ireturn, 1) := by decide +kernel
theorem dX8_remove_0 : decode cX8_remove 0 = .ok (.aload_n 0, 1) := by decide +kernel
theorem dX8_remove_1 : decode cX8_remove 1 = .ok (.iload_n 1, 1) := by decide +kernel
theorem dX8_remove_2 : decode cX8_remove 2 = .ok (.iload_n 2, 1) := by decide +kernel
theorem dX8_remove_3 : decode cX8_remove 3 = .ok (.iload_n 3, 1) := by decide +kernel
theorem dX8_remove_4 : decode cX8_remove 4 = .ok (.iconst 2, 1) := by decide +kernel
theorem dX8_remove_5 : decode cX8_remove 5 = .ok (.invokevirtual 105, 3) := by decide +kernel
theorem dX8_remove_8 : decode cX8_remove 8 = .ok (.istore 4, 2) := by decide +kernel
theorem dX8_remove_10 : decode cX8_remove 10 = .ok (.aload_n 0, 1) := by decide +kernel
theorem dX8_remove_11 : decode cX8_remove 11 = .ok (.getfield 53, 3) := by decide +kernel
theorem dX8_remove_14 : decode cX8_remove 14 = .ok (.ifCond .le 5, 3) := by decide +kernel
theorem dX8_remove_17 : decode cX8_remove 17 = .ok (.iconst 0, 1) := by decide +kernel
theorem dX8_remove_18 : decode cX8_remove 18 = .ok (.ireturn, 1) := by decide +kernel
theorem dX8_remove_19 : decode cX8_remove 19 = .ok (.aload_n 0, 1) := by decide +kernel
theorem dX8_remove_20 : decode cX8_remove 20 = .ok (.iload_n 1, 1) := by decide +kernel
theorem dX8_remove_21 : decode cX8_remove 21 = .ok (.iload_n 2, 1) := by decide +kernel
theorem dX8_remove_22 : decode cX8_remove 22 = .ok (.iload 4, 2) := by decide +kernel
theorem dX8_remove_24 : decode cX8_remove 24 = .ok (.invokevirtual 69, 3) := by decide +kernel
theorem dX8_remove_27 : decode cX8_remove 27 = .ok (.iload 4, 2) := by decide +kernel
theorem dX8_remove_29 : decode cX8_remove 29 = .ok (.ireturn, 1) := by decide +kernel
theorem dX8_move_0 : decode cX8_move 0 = .ok (.aload_n 0, 1) := by decide +kernel
theorem dX8_move_1 : decode cX8_move 1 = .ok (.iload_n 1, 1) := by decide +kernel
theorem dX8_move_2 : decode cX8_move 2 = .ok (.iload_n 2, 1) := by decide +kernel
theorem dX8_move_3 : decode cX8_move 3 = .ok (.iload_n 3, 1) := by decide +kernel
theorem dX8_move_4 : decode cX8_move 4 = .ok (.iconst 2, 1) := by decide +kernel
theorem dX8_move_5 : decode cX8_move 5 = .ok (.invokevirtual 105, 3) := by decide +kernel
theorem dX8_move_8 : decode cX8_move 8 = .ok (.istore 5, 2) := by decide +kernel
theorem dX8_move_10 : decode cX8_move 10 = .ok (.aload_n 0, 1) := by decide +kernel
theorem dX8_move_11 : decode cX8_move 11 = .ok (.getfield 53, 3) := by decide +kernel
theorem dX8_move_14 : decode cX8_move 14 = .ok (.ifCond .le 5, 3) := by decide +kernel
theorem dX8_move_17 : decode cX8_move 17 = .ok (.iconst 0, 1) := by decide +kernel
theorem dX8_move_18 : decode cX8_move 18 = .ok (.ireturn, 1) := by decide +kernel
theorem dX8_move_19 : decode cX8_move 19 = .ok (.iload 4, 2) := by decide +kernel
theorem dX8_move_21 : decode cX8_move 21 = .ok (.iconst 0, 1) := by decide +kernel
theorem dX8_move_22 : decode cX8_move 22 = .ok (.aload_n 0, 1) := by decide +kernel
theorem dX8_move_23 : decode cX8_move 23 = .ok (.iload_n 1, 1) := by decide +kernel
theorem dX8_move_24 : decode cX8_move 24 = .ok (.iload_n 2, 1) := by decide +kernel
theorem dX8_move_25 : decode cX8_move 25 = .ok (.invokevirtual 57, 3) := by decide +kernel
theorem dX8_move_28 : decode cX8_move 28 = .ok (.iconst 1, 1) := by decide +kernel
theorem dX8_move_29 : decode cX8_move 29 = .ok (.isub, 1) := by decide +kernel
theorem dX8_move_30 : decode cX8_move 30 = .ok (.invokestatic 77, 3) := by decide +kernel
theorem dX8_move_33 : decode cX8_move 33 = .ok (.ifCond .ne 9, 3) := by decide +kernel
theorem dX8_move_36 : decode cX8_move 36 = .ok (.aload_n 0, 1) := by decide +kernel
theorem dX8_move_37 : decode cX8_move 37 = .ok (.iconst 3, 1) := by decide +kernel
theorem dX8_move_38 : decode cX8_move 38 = .ok (.invokevirtual 102, 3) := by decide +kernel
theorem dX8_move_41 : decode cX8_move 41 = .ok (.ireturn, 1) := by decide +kernel
theorem dX8_move_42 : decode cX8_move 42 = .ok (.aload_n 0, 1) := by decide +kernel
theorem dX8_move_43 : decode cX8_move 43 = .ok (.iload_n 1, 1) := by decide +kernel
theorem dX8_move_44 : decode cX8_move 44 = .ok (.iload_n 2, 1) := by decide +kernel
theorem dX8_move_45 : decode cX8_move 45 = .ok (.iload 5, 2) := by decide +kernel
theorem dX8_move_47 : decode cX8_move 47 = .ok (.iload 4, 2) := by decide +kernel
theorem dX8_move_49 : decode cX8_move 49 = .ok (.invokevirtual 109, 3) := by decide +kernel
theorem dX8_move_52 : decode cX8_move 52 = .ok (.iload 5, 2) := by decide +kernel
theorem dX8_move_54 : decode cX8_move 54 = .ok (.ireturn, 1) := by decide +kernel
theorem dX8_set_0 : decode cX8_set 0 = .ok (.aload_n 0, 1) := by decide +kernel
theorem dX8_set_1 : decode cX8_set 1 = .ok (.iload_n 1, 1) := by decide +kernel
theorem dX8_set_2 : decode cX8_set 2 = .ok (.iload_n 2, 1) := by decide +kernel
theorem dX8_set_3 : decode cX8_set 3 = .ok (.iload_n 3, 1) := by decide +kernel
theorem dX8_set_4 : decode cX8_set 4 = .ok (.iconst 3, 1) := by decide +kernel
theorem dX8_set_5 : decode cX8_set 5 = .ok (.invokevirtual 105, 3) := by decide +kernel
theorem dX8_set_8 : decode cX8_set 8 = .ok (.istore 6, 2) := by decide +kernel
theorem dX8_set_10 : decode cX8_set 10 = .ok (.aload_n 0, 1) := by decide +kernel
theorem dX8_set_11 : decode cX8_set 11 = .ok (.iload 4, 2) := by decide +kernel
theorem dX8_set_13 : decode cX8_set 13 = .ok (.invokestatic 112, 3) := by decide +kernel
theorem dX8_set_16 : decode cX8_set 16 = .ok (.ifCond .ne 7, 3) := by decide +kernel
theorem dX8_set_19 : decode cX8_set 19 = .ok (.iconst 1, 1) := by decide +kernel
theorem dX8_set_20 : decode cX8_set 20 = .ok (.goto 7, 3) := by decide +kernel
theorem dX8_set_23 : decode cX8_set 23 = .ok (.aload_n 0, 1) := by decide +kernel
theorem dX8_set_24 : decode cX8_set 24 = .ok (.getfield 53, 3) := by decide +kernel
theorem dX8_set_27 : decode cX8_set 27 = .ok (.putfield 53, 3) := by decide +kernel
theorem dX8_set_30 : decode cX8_set 30 = .ok (.aload_n 0, 1) := by decide +kernel
theorem dX8_set_31 : decode cX8_set 31 = .ok (.aload_n 0, 1) := by decide +kernel
theorem dX8_set_32 : decode cX8_set 32 = .ok (.getfield 53, 3) := by decide +kernel
theorem dX8_set_35 : decode cX8_set 35 = .ok (.iconst 1, 1) := by decide +kernel
theorem dX8_set_36 : decode cX8_set 36 = .ok (.if_icmp .eq 18, 3) := by decide +kernel
theorem dX8_set_39 : decode cX8_set 39 = .ok (.iload 5, 2) := by decide +kernel
theorem dX8_set_41 : decode cX8_set 41 = .ok (.iconst (-1), 1) := by decide +kernel
theorem dX8_set_42 : decode cX8_set 42 = .ok (.bipush 99, 2) := by decide +kernel
theorem dX8_set_44 : decode cX8_set 44 = .ok (.invokestatic 77, 3) := by decide +kernel
theorem dX8_set_47 : decode cX8_set 47 = .ok (.ifCond .ne 7, 3) := by decide +kernel
theorem dX8_set_50 : decode cX8_set 50 = .ok (.iconst 2, 1) := by decide +kernel
theorem dX8_set_51 : decode cX8_set 51 = .ok (.goto 7, 3) := by decide +kernel
theorem dX8_set_54 : decode cX8_set 54 = .ok (.aload_n 0, 1) := by decide +kernel
theorem dX8_set_55 : decode cX8_set 55 = .ok (.getfield 53, 3) := by decide +kernel
theorem dX8_set_58 : decode cX8_set 58 = .ok (.putfield 53, 3) := by decide +kernel
theorem dX8_set_61 : decode cX8_set 61 = .ok (.aload_n 0, 1) := by decide +kernel
theorem dX8_set_62 : decode cX8_set 62 = .ok (.getfield 53, 3) := by decide +kernel
theorem dX8_set_65 : decode cX8_set 65 = .ok (.ifCond .le 5, 3) := by decide +kernel
theorem dX8_set_68 : decode cX8_set 68 = .ok (.iconst 0, 1) := by decide +kernel
theorem dX8_set_69 : decode cX8_set 69 = .ok (.ireturn, 1) := by decide +kernel
theorem dX8_set_70 : decode cX8_set 70 = .ok (.iload_n 1, 1) := by decide +kernel
theorem dX8_set_71 : decode cX8_set 71 = .ok (.iload_n 2, 1) := by decide +kernel
theorem dX8_set_72 : decode cX8_set 72 = .ok (.iload 6, 2) := by decide +kernel
theorem dX8_set_74 : decode cX8_set 74 = .ok (.invokestatic 61, 3) := by decide +kernel
theorem dX8_set_77 : decode cX8_set 77 = .ok (.istore 7, 2) := by decide +kernel
theorem dX8_set_79 : decode cX8_set 79 = .ok (.aload_n 0, 1) := by decide +kernel
theorem dX8_set_80 : decode cX8_set 80 = .ok (.getfield 7, 3) := by decide +kernel
theorem dX8_set_83 : decode cX8_set 83 = .ok (.iload 7, 2) := by decide +kernel
theorem dX8_set_85 : decode cX8_set 85 = .ok (.iaload, 1) := by decide +kernel
theorem dX8_set_86 : decode cX8_set 86 = .ok (.iload 4, 2) := by decide +kernel
theorem dX8_set_88 : decode cX8_set 88 = .ok (.invokestatic 115, 3) := by decide +kernel
theorem dX8_set_91 : decode cX8_set 91 = .ok (.iconst 1, 1) := by decide +kernel
theorem dX8_set_92 : decode cX8_set 92 = .ok (.isub, 1) := by decide +kernel
theorem dX8_set_93 : decode cX8_set 93 = .ok (.istore 8, 2) := by decide +kernel
theorem dX8_set_95 : decode cX8_set 95 = .ok (.aload_n 0, 1) := by decide +kernel
theorem dX8_set_96 : decode cX8_set 96 = .ok (.getfield 7, 3) := by decide +kernel
theorem dX8_set_99 : decode cX8_set 99 = .ok (.iload 7, 2) := by decide +kernel
theorem dX8_set_101 : decode cX8_set 101 = .ok (.aload_n 0, 1) := by decide +kernel
theorem dX8_set_102 : decode cX8_set 102 = .ok (.getfield 7, 3) := by decide +kernel
theorem dX8_set_105 : decode cX8_set 105 = .ok (.iload 7, 2) := by decide +kernel
theorem dX8_set_107 : decode cX8_set 107 = .ok (.iaload, 1) := by decide +kernel
theorem dX8_set_108 : decode cX8_set 108 = .ok (.iload 4, 2) := by decide +kernel
theorem dX8_set_110 : decode cX8_set 110 = .ok (.iload 5, 2) := by decide +kernel
theorem dX8_set_112 : decode cX8_set 112 = .ok (.iconst 1, 1) := by decide +kernel
theorem dX8_set_113 : decode cX8_set 113 = .ok (.iadd, 1) := by decide +kernel
theorem dX8_set_114 : decode cX8_set 114 = .ok (.invokestatic 118, 3) := by decide +kernel
theorem dX8_set_117 : decode cX8_set 117 = .ok (.iastore, 1) := by decide +kernel
theorem dX8_set_118 : decode cX8_set 118 = .ok (.iload 8, 2) := by decide +kernel
theorem dX8_set_120 : decode cX8_set 120 = .ok (.ireturn, 1) := by decide +kernel
theorem dX8_join_0 : decode cX8_join 0 = .ok (.aload_n 0, 1) := by decide +kernel
theorem dX8_join_1 : decode cX8_join 1 = .ok (.iload_n 1, 1) := by decide +kernel
theorem dX8_join_2 : decode cX8_join 2 = .ok (.iload_n 2, 1) := by decide +kernel
theorem dX8_join_3 : decode cX8_join 3 = .ok (.iload_n 3, 1) := by decide +kernel
theorem dX8_join_4 : decode cX8_join 4 = .ok (.iconst 3, 1) := by decide +kernel
theorem dX8_join_5 : decode cX8_join 5 = .ok (.invokevirtual 105, 3) := by decide +kernel
theorem dX8_join_8 : decode cX8_join 8 = .ok (.istore 5, 2) := by decide +kernel
theorem dX8_join_10 : decode cX8_join 10 = .ok (.aload_n 0, 1) := by decide +kernel
theorem dX8_join_11 : decode cX8_join 11 = .ok (.aload_n 0, 1) := by decide +kernel
theorem dX8_join_12 : decode cX8_join 12 = .ok (.getfield 53, 3) := by decide +kernel
theorem dX8_join_15 : decode cX8_join 15 = .ok (.iconst 1, 1) := by decide +kernel
theorem dX8_join_16 : decode cX8_join 16 = .ok (.if_icmp .eq 17, 3) := by decide +kernel
theorem dX8_join_19 : decode cX8_join 19 = .ok (.iload 4, 2) := by decide +kernel
theorem dX8_join_21 : decode cX8_join 21 = .ok (.iconst (-1), 1) := by decide +kernel
theorem dX8_join_22 : decode cX8_join 22 = .ok (.iconst 2, 1) := by decide +kernel
theorem dX8_join_23 : decode cX8_join 23 = .ok (.invokestatic 77, 3) := by decide +kernel
theorem dX8_join_26 : decode cX8_join 26 = .ok (.ifCond .ne 7, 3) := by decide +kernel
theorem dX8_join_29 : decode cX8_join 29 = .ok (.iconst 2, 1) := by decide +kernel
theorem dX8_join_30 : decode cX8_join 30 = .ok (.goto 7, 3) := by decide +kernel
theorem dX8_join_33 : decode cX8_join 33 = .ok (.aload_n 0, 1) := by decide +kernel
theorem dX8_join_34 : decode cX8_join 34 = .ok (.getfield 53, 3) := by decide +kernel
theorem dX8_join_37 : decode cX8_join 37 = .ok (.putfield 53, 3) := by decide +kernel
theorem dX8_join_40 : decode cX8_join 40 = .ok (.aload_n 0, 1) := by decide +kernel
theorem dX8_join_41 : decode cX8_join 41 = .ok (.getfield 53, 3) := by decide +kernel
theorem dX8_join_44 : decode cX8_join 44 = .ok (.ifCond .le 5, 3) := by decide +kernel
theorem dX8_join_47 : decode cX8_join 47 = .ok (.iconst 0, 1) := by decide +kernel
theorem dX8_join_48 : decode cX8_join 48 = .ok (.ireturn, 1) := by decide +kernel
theorem dX8_join_49 : decode cX8_join 49 = .ok (.iload_n 1, 1) := by decide +kernel
theorem dX8_join_50 : decode cX8_join 50 = .ok (.iload_n 2, 1) := by decide +kernel
theorem dX8_join_51 : decode cX8_join 51 = .ok (.iload 5, 2) := by decide +kernel
theorem dX8_join_53 : decode cX8_join 53 = .ok (.invokestatic 61, 3) := by decide +kernel
theorem dX8_join_56 : decode cX8_join 56 = .ok (.istore 6, 2) := by decide +kernel
theorem dX8_join_58 : decode cX8_join 58 = .ok (.aload_n 0, 1) := by decide +kernel
theorem dX8_join_59 : decode cX8_join 59 = .ok (.getfield 7, 3) := by decide +kernel
theorem dX8_join_62 : decode cX8_join 62 = .ok (.iload 6, 2) := by decide +kernel
theorem dX8_join_64 : decode cX8_join 64 = .ok (.iaload, 1) := by decide +kernel
theorem dX8_join_65 : decode cX8_join 65 = .ok (.invokestatic 121, 3) := by decide +kernel
theorem dX8_join_68 : decode cX8_join 68 = .ok (.iconst 1, 1) := by decide +kernel
theorem dX8_join_69 : decode cX8_join 69 = .ok (.isub, 1) := by decide +kernel
theorem dX8_join_70 : decode cX8_join 70 = .ok (.istore 7, 2) := by decide +kernel
theorem dX8_join_72 : decode cX8_join 72 = .ok (.aload_n 0, 1) := by decide +kernel
theorem dX8_join_73 : decode cX8_join 73 = .ok (.getfield 7, 3) := by decide +kernel
theorem dX8_join_76 : decode cX8_join 76 = .ok (.iload 6, 2) := by decide +kernel
theorem dX8_join_78 : decode cX8_join 78 = .ok (.aload_n 0, 1) := by decide +kernel
theorem dX8_join_79 : decode cX8_join 79 = .ok (.getfield 7, 3) := by decide +kernel
theorem dX8_join_82 : decode cX8_join 82 = .ok (.iload 6, 2) := by decide +kernel
theorem dX8_join_84 : decode cX8_join 84 = .ok (.iaload, 1) := by decide +kernel
theorem dX8_join_85 : decode cX8_join 85 = .ok (.iload 4, 2) := by decide +kernel
theorem dX8_join_87 : decode cX8_join 87 = .ok (.iconst 1, 1) := by decide +kernel
theorem dX8_join_88 : decode cX8_join 88 = .ok (.iadd, 1) := by decide +kernel
theorem dX8_join_89 : decode cX8_join 89 = .ok (.invokestatic 124, 3) := by decide +kernel
theorem dX8_join_92 : decode cX8_join 92 = .ok (.iastore, 1) := by decide +kernel
theorem dX8_join_93 : decode cX8_join 93 = .ok (.iload 7, 2) := by decide +kernel
theorem dX8_join_95 : decode cX8_join 95 = .ok (.ireturn, 1) := by decide +kernel
theorem dX8_setGroup_0 : decode cX8_setGroup 0 = .ok (.aload_n 0, 1) := by decide +kernel
theorem dX8_setGroup_1 : decode cX8_setGroup 1 = .ok (.iload_n 1, 1) := by decide +kernel
theorem dX8_setGroup_2 : decode cX8_setGroup 2 = .ok (.invokestatic 88, 3) := by decide +kernel
theorem dX8_setGroup_5 : decode cX8_setGroup 5 = .ok (.ifCond .eq 19, 3) := by decide +kernel
theorem dX8_setGroup_8 : decode cX8_setGroup 8 = .ok (.iload_n 2, 1) := by decide +kernel
theorem dX8_setGroup_9 : decode cX8_setGroup 9 = .ok (.iconst 0, 1) := by decide +kernel
theorem dX8_setGroup_10 : decode cX8_setGroup 10 = .ok (.iconst 2, 1) := by decide +kernel
theorem dX8_setGroup_11 : decode cX8_setGroup 11 = .ok (.invokestatic 77, 3) := by decide +kernel
theorem dX8_setGroup_14 : decode cX8_setGroup 14 = .ok (.ifCond .eq 10, 3) := by decide +kernel
theorem dX8_setGroup_17 : decode cX8_setGroup 17 = .ok (.iload_n 3, 1) := by decide +kernel
theorem dX8_setGroup_18 : decode cX8_setGroup 18 = .ok (.invokestatic 112, 3) := by decide +kernel
theorem dX8_setGroup_21 : decode cX8_setGroup 21 = .ok (.ifCond .ne 7, 3) := by decide +kernel
theorem dX8_setGroup_24 : decode cX8_setGroup 24 = .ok (.iconst 1, 1) := by decide +kernel
theorem dX8_setGroup_25 : decode cX8_setGroup 25 = .ok (.goto 32, 3) := by decide +kernel
theorem dX8_setGroup_28 : decode cX8_setGroup 28 = .ok (.iload 4, 2) := by decide +kernel
theorem dX8_setGroup_30 : decode cX8_setGroup 30 = .ok (.iconst (-1), 1) := by decide +kernel
theorem dX8_setGroup_31 : decode cX8_setGroup 31 = .ok (.bipush 99, 2) := by decide +kernel
theorem dX8_setGroup_33 : decode cX8_setGroup 33 = .ok (.invokestatic 77, 3) := by decide +kernel
theorem dX8_setGroup_36 : decode cX8_setGroup 36 = .ok (.ifCond .ne 7, 3) := by decide +kernel
theorem dX8_setGroup_39 : decode cX8_setGroup 39 = .ok (.iconst 2, 1) := by decide +kernel
theorem dX8_setGroup_40 : decode cX8_setGroup 40 = .ok (.goto 17, 3) := by decide +kernel
theorem dX8_setGroup_43 : decode cX8_setGroup 43 = .ok (.aload_n 0, 1) := by decide +kernel
theorem dX8_setGroup_44 : decode cX8_setGroup 44 = .ok (.getfield 13, 3) := by decide +kernel
theorem dX8_setGroup_47 : decode cX8_setGroup 47 = .ok (.iload_n 1, 1) := by decide +kernel
theorem dX8_setGroup_48 : decode cX8_setGroup 48 = .ok (.iaload, 1) := by decide +kernel
theorem dX8_setGroup_49 : decode cX8_setGroup 49 = .ok (.ifCond .ne 7, 3) := by decide +kernel
theorem dX8_setGroup_52 : decode cX8_setGroup 52 = .ok (.iconst 3, 1) := by decide +kernel
theorem dX8_setGroup_53 : decode cX8_setGroup 53 = .ok (.goto 4, 3) := by decide +kernel
theorem dX8_setGroup_56 : decode cX8_setGroup 56 = .ok (.iconst 0, 1) := by decide +kernel
theorem dX8_setGroup_57 : decode cX8_setGroup 57 = .ok (.putfield 53, 3) := by decide +kernel
theorem dX8_setGroup_60 : decode cX8_setGroup 60 = .ok (.aload_n 0, 1) := by decide +kernel
theorem dX8_setGroup_61 : decode cX8_setGroup 61 = .ok (.getfield 53, 3) := by decide +kernel
theorem dX8_setGroup_64 : decode cX8_setGroup 64 = .ok (.ifCond .le 5, 3) := by decide +kernel
theorem dX8_setGroup_67 : decode cX8_setGroup 67 = .ok (.iconst 0, 1) := by decide +kernel
theorem dX8_setGroup_68 : decode cX8_setGroup 68 = .ok (.ireturn, 1) := by decide +kernel
theorem dX8_setGroup_69 : decode cX8_setGroup 69 = .ok (.iload_n 1, 1) := by decide +kernel
theorem dX8_setGroup_70 : decode cX8_setGroup 70 = .ok (.iload_n 2, 1) := by decide +kernel
theorem dX8_setGroup_71 : decode cX8_setGroup 71 = .ok (.iload_n 3, 1) := by decide +kernel
theorem dX8_setGroup_72 : decode cX8_setGroup 72 = .ok (.invokestatic 127, 3) := by decide +kernel
theorem dX8_setGroup_75 : decode cX8_setGroup 75 = .ok (.istore 5, 2) := by decide +kernel
theorem dX8_setGroup_77 : decode cX8_setGroup 77 = .ok (.aload_n 0, 1) := by decide +kernel
theorem dX8_setGroup_78 : decode cX8_setGroup 78 = .ok (.getfield 7, 3) := by decide +kernel
theorem dX8_setGroup_81 : decode cX8_setGroup 81 = .ok (.iload 5, 2) := by decide +kernel
theorem dX8_setGroup_83 : decode cX8_setGroup 83 = .ok (.iaload, 1) := by decide +kernel
theorem dX8_setGroup_84 : decode cX8_setGroup 84 = .ok (.iconst 1, 1) := by decide +kernel
theorem dX8_setGroup_85 : decode cX8_setGroup 85 = .ok (.isub, 1) := by decide +kernel
theorem dX8_setGroup_86 : decode cX8_setGroup 86 = .ok (.istore 6, 2) := by decide +kernel
theorem dX8_setGroup_88 : decode cX8_setGroup 88 = .ok (.aload_n 0, 1) := by decide +kernel
theorem dX8_setGroup_89 : decode cX8_setGroup 89 = .ok (.getfield 7, 3) := by decide +kernel
theorem dX8_setGroup_92 : decode cX8_setGroup 92 = .ok (.iload 5, 2) := by decide +kernel
theorem dX8_setGroup_94 : decode cX8_setGroup 94 = .ok (.iload 4, 2) := by decide +kernel
theorem dX8_setGroup_96 : decode cX8_setGroup 96 = .ok (.iconst 1, 1) := by decide +kernel
theorem dX8_setGroup_97 : decode cX8_setGroup 97 = .ok (.iadd, 1) := by decide +kernel
theorem dX8_setGroup_98 : decode cX8_setGroup 98 = .ok (.iastore, 1) := by decide +kernel
theorem dX8_setGroup_99 : decode cX8_setGroup 99 = .ok (.iload 6, 2) := by decide +kernel
theorem dX8_setGroup_101 : decode cX8_setGroup 101 = .ok (.ireturn, 1) := by decide +kernel
theorem dX8_load_0 : decode cX8_load 0 = .ok (.aload_n 0, 1) := by decide +kernel
theorem dX8_load_1 : decode cX8_load 1 = .ok (.iload_n 1, 1) := by decide +kernel
theorem dX8_load_2 : decode cX8_load 2 = .ok (.invokestatic 88, 3) := by decide +kernel
theorem dX8_load_5 : decode cX8_load 5 = .ok (.ifCond .eq 15, 3) := by decide +kernel
theorem dX8_load_8 : decode cX8_load 8 = .ok (.iload_n 2, 1) := by decide +kernel
theorem dX8_load_9 : decode cX8_load 9 = .ok (.iconst 0, 1) := by decide +kernel
theorem dX8_load_10 : decode cX8_load 10 = .ok (.aload_n 0, 1) := by decide +kernel
theorem dX8_load_11 : decode cX8_load 11 = .ok (.getfield 81, 3) := by decide +kernel
theorem dX8_load_14 : decode cX8_load 14 = .ok (.invokestatic 77, 3) := by decide +kernel
theorem dX8_load_17 : decode cX8_load 17 = .ok (.ifCond .ne 7, 3) := by decide +kernel
theorem dX8_load_20 : decode cX8_load 20 = .ok (.iconst 1, 1) := by decide +kernel
theorem dX8_load_21 : decode cX8_load 21 = .ok (.goto 17, 3) := by decide +kernel
theorem dX8_load_24 : decode cX8_load 24 = .ok (.aload_n 0, 1) := by decide +kernel
theorem dX8_load_25 : decode cX8_load 25 = .ok (.getfield 13, 3) := by decide +kernel
theorem dX8_load_28 : decode cX8_load 28 = .ok (.iload_n 1, 1) := by decide +kernel
theorem dX8_load_29 : decode cX8_load 29 = .ok (.iaload, 1) := by decide +kernel
theorem dX8_load_30 : decode cX8_load 30 = .ok (.ifCond .ne 7, 3) := by decide +kernel
theorem dX8_load_33 : decode cX8_load 33 = .ok (.iconst 2, 1) := by decide +kernel
theorem dX8_load_34 : decode cX8_load 34 = .ok (.goto 4, 3) := by decide +kernel
theorem dX8_load_37 : decode cX8_load 37 = .ok (.iconst 0, 1) := by decide +kernel
theorem dX8_load_38 : decode cX8_load 38 = .ok (.putfield 53, 3) := by decide +kernel
theorem dX8_load_41 : decode cX8_load 41 = .ok (.aload_n 0, 1) := by decide +kernel
theorem dX8_load_42 : decode cX8_load 42 = .ok (.getfield 53, 3) := by decide +kernel
theorem dX8_load_45 : decode cX8_load 45 = .ok (.ifCond .ne 11, 3) := by decide +kernel
theorem dX8_load_48 : decode cX8_load 48 = .ok (.aload_n 0, 1) := by decide +kernel
theorem dX8_load_49 : decode cX8_load 49 = .ok (.iconst 3, 1) := by decide +kernel
theorem dX8_load_50 : decode cX8_load 50 = .ok (.iload_n 2, 1) := by decide +kernel
theorem dX8_load_51 : decode cX8_load 51 = .ok (.iadd, 1) := by decide +kernel
theorem dX8_load_52 : decode cX8_load 52 = .ok (.iload_n 1, 1) := by decide +kernel
theorem dX8_load_53 : decode cX8_load 53 = .ok (.invokevirtual 91, 3) := by decide +kernel
theorem dX8_load_56 : decode cX8_load 56 = .ok (.return_, 1) := by decide +kernel
theorem dX8_notes_0 : decode cX8_notes 0 = .ok (.aload_n 0, 1) := by decide +kernel
theorem dX8_notes_1 : decode cX8_notes 1 = .ok (.getfield 23, 3) := by decide +kernel
theorem dX8_notes_4 : decode cX8_notes 4 = .ok (.aload_n 0, 1) := by decide +kernel
theorem dX8_notes_5 : decode cX8_notes 5 = .ok (.getfield 130, 3) := by decide +kernel
theorem dX8_notes_8 : decode cX8_notes 8 = .ok (.iload_n 1, 1) := by decide +kernel
theorem dX8_notes_9 : decode cX8_notes 9 = .ok (.iastore, 1) := by decide +kernel
theorem dX8_notes_10 : decode cX8_notes 10 = .ok (.aload_n 0, 1) := by decide +kernel
theorem dX8_notes_11 : decode cX8_notes 11 = .ok (.getfield 26, 3) := by decide +kernel
theorem dX8_notes_14 : decode cX8_notes 14 = .ok (.aload_n 0, 1) := by decide +kernel
theorem dX8_notes_15 : decode cX8_notes 15 = .ok (.getfield 130, 3) := by decide +kernel
theorem dX8_notes_18 : decode cX8_notes 18 = .ok (.iload_n 2, 1) := by decide +kernel
theorem dX8_notes_19 : decode cX8_notes 19 = .ok (.iastore, 1) := by decide +kernel
theorem dX8_notes_20 : decode cX8_notes 20 = .ok (.aload_n 0, 1) := by decide +kernel
theorem dX8_notes_21 : decode cX8_notes 21 = .ok (.getfield 29, 3) := by decide +kernel
theorem dX8_notes_24 : decode cX8_notes 24 = .ok (.aload_n 0, 1) := by decide +kernel
theorem dX8_notes_25 : decode cX8_notes 25 = .ok (.getfield 130, 3) := by decide +kernel
theorem dX8_notes_28 : decode cX8_notes 28 = .ok (.iload_n 3, 1) := by decide +kernel
theorem dX8_notes_29 : decode cX8_notes 29 = .ok (.iastore, 1) := by decide +kernel
theorem dX8_notes_30 : decode cX8_notes 30 = .ok (.aload_n 0, 1) := by decide +kernel
theorem dX8_notes_31 : decode cX8_notes 31 = .ok (.getfield 32, 3) := by decide +kernel
theorem dX8_notes_34 : decode cX8_notes 34 = .ok (.aload_n 0, 1) := by decide +kernel
theorem dX8_notes_35 : decode cX8_notes 35 = .ok (.getfield 130, 3) := by decide +kernel
theorem dX8_notes_38 : decode cX8_notes 38 = .ok (.iload 4, 2) := by decide +kernel
theorem dX8_notes_40 : decode cX8_notes 40 = .ok (.iastore, 1) := by decide +kernel
theorem dX8_notes_41 : decode cX8_notes 41 = .ok (.aload_n 0, 1) := by decide +kernel
theorem dX8_notes_42 : decode cX8_notes 42 = .ok (.getfield 35, 3) := by decide +kernel
theorem dX8_notes_45 : decode cX8_notes 45 = .ok (.aload_n 0, 1) := by decide +kernel
theorem dX8_notes_46 : decode cX8_notes 46 = .ok (.getfield 130, 3) := by decide +kernel
theorem dX8_notes_49 : decode cX8_notes 49 = .ok (.iload 5, 2) := by decide +kernel
theorem dX8_notes_51 : decode cX8_notes 51 = .ok (.iastore, 1) := by decide +kernel
theorem dX8_notes_52 : decode cX8_notes 52 = .ok (.aload_n 0, 1) := by decide +kernel
theorem dX8_notes_53 : decode cX8_notes 53 = .ok (.getfield 38, 3) := by decide +kernel
theorem dX8_notes_56 : decode cX8_notes 56 = .ok (.aload_n 0, 1) := by decide +kernel
theorem dX8_notes_57 : decode cX8_notes 57 = .ok (.getfield 130, 3) := by decide +kernel
theorem dX8_notes_60 : decode cX8_notes 60 = .ok (.iload 6, 2) := by decide +kernel
theorem dX8_notes_62 : decode cX8_notes 62 = .ok (.iastore, 1) := by decide +kernel
theorem dX8_notes_63 : decode cX8_notes 63 = .ok (.aload_n 0, 1) := by decide +kernel
theorem dX8_notes_64 : decode cX8_notes 64 = .ok (.dup, 1) := by decide +kernel
theorem dX8_notes_65 : decode cX8_notes 65 = .ok (.getfield 130, 3) := by decide +kernel
theorem dX8_notes_68 : decode cX8_notes 68 = .ok (.iconst 1, 1) := by decide +kernel
theorem dX8_notes_69 : decode cX8_notes 69 = .ok (.iadd, 1) := by decide +kernel
theorem dX8_notes_70 : decode cX8_notes 70 = .ok (.putfield 130, 3) := by decide +kernel
theorem dX8_notes_73 : decode cX8_notes 73 = .ok (.return_, 1) := by decide +kernel
theorem dX8_settles_0 : decode cX8_settles 0 = .ok (.iconst 0, 1) := by decide +kernel
theorem dX8_settles_1 : decode cX8_settles 1 = .ok (.istore 4, 2) := by decide +kernel
theorem dX8_settles_3 : decode cX8_settles 3 = .ok (.iload 4, 2) := by decide +kernel
theorem dX8_settles_5 : decode cX8_settles 5 = .ok (.bipush 10, 2) := by decide +kernel
theorem dX8_settles_7 : decode cX8_settles 7 = .ok (.if_icmp .ge 163, 3) := by decide +kernel
theorem dX8_settles_10 : decode cX8_settles 10 = .ok (.aload_n 0, 1) := by decide +kernel
theorem dX8_settles_11 : decode cX8_settles 11 = .ok (.iload_n 1, 1) := by decide +kernel
theorem dX8_settles_12 : decode cX8_settles 12 = .ok (.iload_n 3, 1) := by decide +kernel
theorem dX8_settles_13 : decode cX8_settles 13 = .ok (.iload 4, 2) := by decide +kernel
theorem dX8_settles_15 : decode cX8_settles 15 = .ok (.invokevirtual 99, 3) := by decide +kernel
theorem dX8_settles_18 : decode cX8_settles 18 = .ok (.istore 5, 2) := by decide +kernel
theorem dX8_settles_20 : decode cX8_settles 20 = .ok (.aload_n 0, 1) := by decide +kernel
theorem dX8_settles_21 : decode cX8_settles 21 = .ok (.iload_n 2, 1) := by decide +kernel
theorem dX8_settles_22 : decode cX8_settles 22 = .ok (.iload_n 3, 1) := by decide +kernel
theorem dX8_settles_23 : decode cX8_settles 23 = .ok (.iload 4, 2) := by decide +kernel
theorem dX8_settles_25 : decode cX8_settles 25 = .ok (.invokevirtual 99, 3) := by decide +kernel
theorem dX8_settles_28 : decode cX8_settles 28 = .ok (.istore 6, 2) := by decide +kernel
theorem dX8_settles_30 : decode cX8_settles 30 = .ok (.iload 5, 2) := by decide +kernel
theorem dX8_settles_32 : decode cX8_settles 32 = .ok (.iconst (-1), 1) := by decide +kernel
theorem dX8_settles_33 : decode cX8_settles 33 = .ok (.if_icmp .eq 131, 3) := by decide +kernel
theorem dX8_settles_36 : decode cX8_settles 36 = .ok (.iload 6, 2) := by decide +kernel
theorem dX8_settles_38 : decode cX8_settles 38 = .ok (.iconst (-1), 1) := by decide +kernel
theorem dX8_settles_39 : decode cX8_settles 39 = .ok (.if_icmp .ne 6, 3) := by decide +kernel
theorem dX8_settles_42 : decode cX8_settles 42 = .ok (.goto 122, 3) := by decide +kernel
theorem dX8_settles_45 : decode cX8_settles 45 = .ok (.aload_n 0, 1) := by decide +kernel
theorem dX8_settles_46 : decode cX8_settles 46 = .ok (.getfield 7, 3) := by decide +kernel
theorem dX8_settles_49 : decode cX8_settles 49 = .ok (.iload_n 1, 1) := by decide +kernel
theorem dX8_settles_50 : decode cX8_settles 50 = .ok (.iload_n 3, 1) := by decide +kernel
theorem dX8_settles_51 : decode cX8_settles 51 = .ok (.iload 5, 2) := by decide +kernel
theorem dX8_settles_53 : decode cX8_settles 53 = .ok (.invokestatic 61, 3) := by decide +kernel
theorem dX8_settles_56 : decode cX8_settles 56 = .ok (.iaload, 1) := by decide +kernel
theorem dX8_settles_57 : decode cX8_settles 57 = .ok (.istore 7, 2) := by decide +kernel
theorem dX8_settles_59 : decode cX8_settles 59 = .ok (.aload_n 0, 1) := by decide +kernel
theorem dX8_settles_60 : decode cX8_settles 60 = .ok (.getfield 7, 3) := by decide +kernel
theorem dX8_settles_63 : decode cX8_settles 63 = .ok (.iload_n 2, 1) := by decide +kernel
theorem dX8_settles_64 : decode cX8_settles 64 = .ok (.iload_n 3, 1) := by decide +kernel
theorem dX8_settles_65 : decode cX8_settles 65 = .ok (.iload 6, 2) := by decide +kernel
theorem dX8_settles_67 : decode cX8_settles 67 = .ok (.invokestatic 61, 3) := by decide +kernel
theorem dX8_settles_70 : decode cX8_settles 70 = .ok (.iaload, 1) := by decide +kernel
theorem dX8_settles_71 : decode cX8_settles 71 = .ok (.istore 8, 2) := by decide +kernel
theorem dX8_settles_73 : decode cX8_settles 73 = .ok (.iconst 0, 1) := by decide +kernel
theorem dX8_settles_74 : decode cX8_settles 74 = .ok (.istore 9, 2) := by decide +kernel
theorem dX8_settles_76 : decode cX8_settles 76 = .ok (.iload 9, 2) := by decide +kernel
theorem dX8_settles_78 : decode cX8_settles 78 = .ok (.iconst 2, 1) := by decide +kernel
theorem dX8_settles_79 : decode cX8_settles 79 = .ok (.if_icmp .ge 52, 3) := by decide +kernel
theorem dX8_settles_82 : decode cX8_settles 82 = .ok (.iload 7, 2) := by decide +kernel
theorem dX8_settles_84 : decode cX8_settles 84 = .ok (.iload 9, 2) := by decide +kernel
theorem dX8_settles_86 : decode cX8_settles 86 = .ok (.invokestatic 115, 3) := by decide +kernel
theorem dX8_settles_89 : decode cX8_settles 89 = .ok (.iload 8, 2) := by decide +kernel
theorem dX8_settles_91 : decode cX8_settles 91 = .ok (.iload 9, 2) := by decide +kernel
theorem dX8_settles_93 : decode cX8_settles 93 = .ok (.invokestatic 115, 3) := by decide +kernel
theorem dX8_settles_96 : decode cX8_settles 96 = .ok (.if_icmp .eq 29, 3) := by decide +kernel
theorem dX8_settles_99 : decode cX8_settles 99 = .ok (.aload_n 0, 1) := by decide +kernel
theorem dX8_settles_100 : decode cX8_settles 100 = .ok (.iconst 4, 1) := by decide +kernel
theorem dX8_settles_101 : decode cX8_settles 101 = .ok (.iload 9, 2) := by decide +kernel
theorem dX8_settles_103 : decode cX8_settles 103 = .ok (.iadd, 1) := by decide +kernel
theorem dX8_settles_104 : decode cX8_settles 104 = .ok (.iload_n 3, 1) := by decide +kernel
theorem dX8_settles_105 : decode cX8_settles 105 = .ok (.iload 4, 2) := by decide +kernel
theorem dX8_settles_107 : decode cX8_settles 107 = .ok (.iload 7, 2) := by decide +kernel
theorem dX8_settles_109 : decode cX8_settles 109 = .ok (.iload 9, 2) := by decide +kernel
theorem dX8_settles_111 : decode cX8_settles 111 = .ok (.invokestatic 115, 3) := by decide +kernel
theorem dX8_settles_114 : decode cX8_settles 114 = .ok (.iload 8, 2) := by decide +kernel
theorem dX8_settles_116 : decode cX8_settles 116 = .ok (.iload 9, 2) := by decide +kernel
theorem dX8_settles_118 : decode cX8_settles 118 = .ok (.invokestatic 115, 3) := by decide +kernel
theorem dX8_settles_121 : decode cX8_settles 121 = .ok (.iconst 0, 1) := by decide +kernel
theorem dX8_settles_122 : decode cX8_settles 122 = .ok (.invokevirtual 132, 3) := by decide +kernel
theorem dX8_settles_125 : decode cX8_settles 125 = .ok (.iinc 9 1, 3) := by decide +kernel
theorem dX8_settles_128 : decode cX8_settles 128 = .ok (.goto (-52), 3) := by decide +kernel
theorem dX8_settles_131 : decode cX8_settles 131 = .ok (.iload 7, 2) := by decide +kernel
theorem dX8_settles_133 : decode cX8_settles 133 = .ok (.invokestatic 121, 3) := by decide +kernel
theorem dX8_settles_136 : decode cX8_settles 136 = .ok (.iload 8, 2) := by decide +kernel
theorem dX8_settles_138 : decode cX8_settles 138 = .ok (.invokestatic 121, 3) := by decide +kernel
theorem dX8_settles_141 : decode cX8_settles 141 = .ok (.if_icmp .eq 23, 3) := by decide +kernel
theorem dX8_settles_144 : decode cX8_settles 144 = .ok (.aload_n 0, 1) := by decide +kernel
theorem dX8_settles_145 : decode cX8_settles 145 = .ok (.bipush 6, 2) := by decide +kernel
theorem dX8_settles_147 : decode cX8_settles 147 = .ok (.iload_n 3, 1) := by decide +kernel
theorem dX8_settles_148 : decode cX8_settles 148 = .ok (.iload 4, 2) := by decide +kernel
theorem dX8_settles_150 : decode cX8_settles 150 = .ok (.iload 7, 2) := by decide +kernel
theorem dX8_settles_152 : decode cX8_settles 152 = .ok (.invokestatic 121, 3) := by decide +kernel
theorem dX8_settles_155 : decode cX8_settles 155 = .ok (.iload 8, 2) := by decide +kernel
theorem dX8_settles_157 : decode cX8_settles 157 = .ok (.invokestatic 121, 3) := by decide +kernel
theorem dX8_settles_160 : decode cX8_settles 160 = .ok (.iconst 0, 1) := by decide +kernel
theorem dX8_settles_161 : decode cX8_settles 161 = .ok (.invokevirtual 132, 3) := by decide +kernel
theorem dX8_settles_164 : decode cX8_settles 164 = .ok (.iinc 4 1, 3) := by decide +kernel
theorem dX8_settles_167 : decode cX8_settles 167 = .ok (.goto (-164), 3) := by decide +kernel
theorem dX8_settles_170 : decode cX8_settles 170 = .ok (.return_, 1) := by decide +kernel
theorem dX8_lists_0 : decode cX8_lists 0 = .ok (.aload_n 0, 1) := by decide +kernel
theorem dX8_lists_1 : decode cX8_lists 1 = .ok (.iconst 0, 1) := by decide +kernel
theorem dX8_lists_2 : decode cX8_lists 2 = .ok (.putfield 130, 3) := by decide +kernel
theorem dX8_lists_5 : decode cX8_lists 5 = .ok (.aload_n 0, 1) := by decide +kernel
theorem dX8_lists_6 : decode cX8_lists 6 = .ok (.iload_n 1, 1) := by decide +kernel
theorem dX8_lists_7 : decode cX8_lists 7 = .ok (.bipush 33, 2) := by decide +kernel
theorem dX8_lists_9 : decode cX8_lists 9 = .ok (.invokevirtual 91, 3) := by decide +kernel
theorem dX8_lists_12 : decode cX8_lists 12 = .ok (.iconst 0, 1) := by decide +kernel
theorem dX8_lists_13 : decode cX8_lists 13 = .ok (.istore_n 3, 1) := by decide +kernel
theorem dX8_lists_14 : decode cX8_lists 14 = .ok (.iload_n 3, 1) := by decide +kernel
theorem dX8_lists_15 : decode cX8_lists 15 = .ok (.iconst 3, 1) := by decide +kernel
theorem dX8_lists_16 : decode cX8_lists 16 = .ok (.if_icmp .ge 213, 3) := by decide +kernel
theorem dX8_lists_19 : decode cX8_lists 19 = .ok (.aload_n 0, 1) := by decide +kernel
theorem dX8_lists_20 : decode cX8_lists 20 = .ok (.bipush 33, 2) := by decide +kernel
theorem dX8_lists_22 : decode cX8_lists 22 = .ok (.iload_n 3, 1) := by decide +kernel
theorem dX8_lists_23 : decode cX8_lists 23 = .ok (.invokevirtual 57, 3) := by decide +kernel
theorem dX8_lists_26 : decode cX8_lists 26 = .ok (.iconst 1, 1) := by decide +kernel
theorem dX8_lists_27 : decode cX8_lists 27 = .ok (.isub, 1) := by decide +kernel
theorem dX8_lists_28 : decode cX8_lists 28 = .ok (.istore 4, 2) := by decide +kernel
theorem dX8_lists_30 : decode cX8_lists 30 = .ok (.iload 4, 2) := by decide +kernel
theorem dX8_lists_32 : decode cX8_lists 32 = .ok (.ifCond .lt 65, 3) := by decide +kernel
theorem dX8_lists_35 : decode cX8_lists 35 = .ok (.aload_n 0, 1) := by decide +kernel
theorem dX8_lists_36 : decode cX8_lists 36 = .ok (.getfield 7, 3) := by decide +kernel
theorem dX8_lists_39 : decode cX8_lists 39 = .ok (.bipush 33, 2) := by decide +kernel
theorem dX8_lists_41 : decode cX8_lists 41 = .ok (.iload_n 3, 1) := by decide +kernel
theorem dX8_lists_42 : decode cX8_lists 42 = .ok (.iload 4, 2) := by decide +kernel
theorem dX8_lists_44 : decode cX8_lists 44 = .ok (.invokestatic 61, 3) := by decide +kernel
theorem dX8_lists_47 : decode cX8_lists 47 = .ok (.iaload, 1) := by decide +kernel
theorem dX8_lists_48 : decode cX8_lists 48 = .ok (.istore 5, 2) := by decide +kernel
theorem dX8_lists_50 : decode cX8_lists 50 = .ok (.aload_n 0, 1) := by decide +kernel
theorem dX8_lists_51 : decode cX8_lists 51 = .ok (.iload_n 2, 1) := by decide +kernel
theorem dX8_lists_52 : decode cX8_lists 52 = .ok (.iload_n 3, 1) := by decide +kernel
theorem dX8_lists_53 : decode cX8_lists 53 = .ok (.iload 5, 2) := by decide +kernel
theorem dX8_lists_55 : decode cX8_lists 55 = .ok (.invokestatic 65, 3) := by decide +kernel
theorem dX8_lists_58 : decode cX8_lists 58 = .ok (.invokevirtual 99, 3) := by decide +kernel
theorem dX8_lists_61 : decode cX8_lists 61 = .ok (.iconst (-1), 1) := by decide +kernel
theorem dX8_lists_62 : decode cX8_lists 62 = .ok (.if_icmp .ne 29, 3) := by decide +kernel
theorem dX8_lists_65 : decode cX8_lists 65 = .ok (.aload_n 0, 1) := by decide +kernel
theorem dX8_lists_66 : decode cX8_lists 66 = .ok (.iconst 1, 1) := by decide +kernel
theorem dX8_lists_67 : decode cX8_lists 67 = .ok (.iload_n 3, 1) := by decide +kernel
theorem dX8_lists_68 : decode cX8_lists 68 = .ok (.iload 5, 2) := by decide +kernel
theorem dX8_lists_70 : decode cX8_lists 70 = .ok (.invokestatic 65, 3) := by decide +kernel
theorem dX8_lists_73 : decode cX8_lists 73 = .ok (.iload 4, 2) := by decide +kernel
theorem dX8_lists_75 : decode cX8_lists 75 = .ok (.iload 4, 2) := by decide +kernel
theorem dX8_lists_77 : decode cX8_lists 77 = .ok (.iload 5, 2) := by decide +kernel
theorem dX8_lists_79 : decode cX8_lists 79 = .ok (.invokevirtual 132, 3) := by decide +kernel
theorem dX8_lists_82 : decode cX8_lists 82 = .ok (.aload_n 0, 1) := by decide +kernel
theorem dX8_lists_83 : decode cX8_lists 83 = .ok (.bipush 33, 2) := by decide +kernel
theorem dX8_lists_85 : decode cX8_lists 85 = .ok (.iload_n 3, 1) := by decide +kernel
theorem dX8_lists_86 : decode cX8_lists 86 = .ok (.iload 4, 2) := by decide +kernel
theorem dX8_lists_88 : decode cX8_lists 88 = .ok (.invokevirtual 69, 3) := by decide +kernel
theorem dX8_lists_91 : decode cX8_lists 91 = .ok (.iinc 4 (-1), 3) := by decide +kernel
theorem dX8_lists_94 : decode cX8_lists 94 = .ok (.goto (-64), 3) := by decide +kernel
theorem dX8_lists_97 : decode cX8_lists 97 = .ok (.iconst 0, 1) := by decide +kernel
theorem dX8_lists_98 : decode cX8_lists 98 = .ok (.istore 4, 2) := by decide +kernel
theorem dX8_lists_100 : decode cX8_lists 100 = .ok (.iload 4, 2) := by decide +kernel
theorem dX8_lists_102 : decode cX8_lists 102 = .ok (.aload_n 0, 1) := by decide +kernel
theorem dX8_lists_103 : decode cX8_lists 103 = .ok (.iload_n 2, 1) := by decide +kernel
theorem dX8_lists_104 : decode cX8_lists 104 = .ok (.iload_n 3, 1) := by decide +kernel
theorem dX8_lists_105 : decode cX8_lists 105 = .ok (.invokevirtual 57, 3) := by decide +kernel
theorem dX8_lists_108 : decode cX8_lists 108 = .ok (.if_icmp .ge 108, 3) := by decide +kernel
theorem dX8_lists_111 : decode cX8_lists 111 = .ok (.aload_n 0, 1) := by decide +kernel
theorem dX8_lists_112 : decode cX8_lists 112 = .ok (.getfield 7, 3) := by decide +kernel
theorem dX8_lists_115 : decode cX8_lists 115 = .ok (.iload_n 2, 1) := by decide +kernel
theorem dX8_lists_116 : decode cX8_lists 116 = .ok (.iload_n 3, 1) := by decide +kernel
theorem dX8_lists_117 : decode cX8_lists 117 = .ok (.iload 4, 2) := by decide +kernel
theorem dX8_lists_119 : decode cX8_lists 119 = .ok (.invokestatic 61, 3) := by decide +kernel
theorem dX8_lists_122 : decode cX8_lists 122 = .ok (.iaload, 1) := by decide +kernel
theorem dX8_lists_123 : decode cX8_lists 123 = .ok (.istore 5, 2) := by decide +kernel
theorem dX8_lists_125 : decode cX8_lists 125 = .ok (.aload_n 0, 1) := by decide +kernel
theorem dX8_lists_126 : decode cX8_lists 126 = .ok (.bipush 33, 2) := by decide +kernel
theorem dX8_lists_128 : decode cX8_lists 128 = .ok (.iload_n 3, 1) := by decide +kernel
theorem dX8_lists_129 : decode cX8_lists 129 = .ok (.iload 5, 2) := by decide +kernel
theorem dX8_lists_131 : decode cX8_lists 131 = .ok (.invokestatic 65, 3) := by decide +kernel
theorem dX8_lists_134 : decode cX8_lists 134 = .ok (.invokevirtual 99, 3) := by decide +kernel
theorem dX8_lists_137 : decode cX8_lists 137 = .ok (.istore 6, 2) := by decide +kernel
theorem dX8_lists_139 : decode cX8_lists 139 = .ok (.iload 6, 2) := by decide +kernel
theorem dX8_lists_141 : decode cX8_lists 141 = .ok (.iconst (-1), 1) := by decide +kernel
theorem dX8_lists_142 : decode cX8_lists 142 = .ok (.if_icmp .ne 34, 3) := by decide +kernel
theorem dX8_lists_145 : decode cX8_lists 145 = .ok (.aload_n 0, 1) := by decide +kernel
theorem dX8_lists_146 : decode cX8_lists 146 = .ok (.iconst 2, 1) := by decide +kernel
theorem dX8_lists_147 : decode cX8_lists 147 = .ok (.iload_n 3, 1) := by decide +kernel
theorem dX8_lists_148 : decode cX8_lists 148 = .ok (.iload 5, 2) := by decide +kernel
theorem dX8_lists_150 : decode cX8_lists 150 = .ok (.invokestatic 65, 3) := by decide +kernel
theorem dX8_lists_153 : decode cX8_lists 153 = .ok (.iload 4, 2) := by decide +kernel
theorem dX8_lists_155 : decode cX8_lists 155 = .ok (.iload 4, 2) := by decide +kernel
theorem dX8_lists_157 : decode cX8_lists 157 = .ok (.iload 5, 2) := by decide +kernel
theorem dX8_lists_159 : decode cX8_lists 159 = .ok (.invokevirtual 132, 3) := by decide +kernel
theorem dX8_lists_162 : decode cX8_lists 162 = .ok (.aload_n 0, 1) := by decide +kernel
theorem dX8_lists_163 : decode cX8_lists 163 = .ok (.bipush 33, 2) := by decide +kernel
theorem dX8_lists_165 : decode cX8_lists 165 = .ok (.iload_n 3, 1) := by decide +kernel
theorem dX8_lists_166 : decode cX8_lists 166 = .ok (.iload 4, 2) := by decide +kernel
theorem dX8_lists_168 : decode cX8_lists 168 = .ok (.iload 5, 2) := by decide +kernel
theorem dX8_lists_170 : decode cX8_lists 170 = .ok (.invokevirtual 73, 3) := by decide +kernel
theorem dX8_lists_173 : decode cX8_lists 173 = .ok (.goto 37, 3) := by decide +kernel
theorem dX8_lists_176 : decode cX8_lists 176 = .ok (.iload 6, 2) := by decide +kernel
theorem dX8_lists_178 : decode cX8_lists 178 = .ok (.iload 4, 2) := by decide +kernel
theorem dX8_lists_180 : decode cX8_lists 180 = .ok (.if_icmp .eq 30, 3) := by decide +kernel
theorem dX8_lists_183 : decode cX8_lists 183 = .ok (.aload_n 0, 1) := by decide +kernel
theorem dX8_lists_184 : decode cX8_lists 184 = .ok (.iconst 3, 1) := by decide +kernel
theorem dX8_lists_185 : decode cX8_lists 185 = .ok (.iload_n 3, 1) := by decide +kernel
theorem dX8_lists_186 : decode cX8_lists 186 = .ok (.iload 5, 2) := by decide +kernel
theorem dX8_lists_188 : decode cX8_lists 188 = .ok (.invokestatic 65, 3) := by decide +kernel
theorem dX8_lists_191 : decode cX8_lists 191 = .ok (.iload 6, 2) := by decide +kernel
theorem dX8_lists_193 : decode cX8_lists 193 = .ok (.iload 4, 2) := by decide +kernel
theorem dX8_lists_195 : decode cX8_lists 195 = .ok (.iconst 0, 1) := by decide +kernel
theorem dX8_lists_196 : decode cX8_lists 196 = .ok (.invokevirtual 132, 3) := by decide +kernel
theorem dX8_lists_199 : decode cX8_lists 199 = .ok (.aload_n 0, 1) := by decide +kernel
theorem dX8_lists_200 : decode cX8_lists 200 = .ok (.bipush 33, 2) := by decide +kernel
theorem dX8_lists_202 : decode cX8_lists 202 = .ok (.iload_n 3, 1) := by decide +kernel
theorem dX8_lists_203 : decode cX8_lists 203 = .ok (.iload 6, 2) := by decide +kernel
theorem dX8_lists_205 : decode cX8_lists 205 = .ok (.iload 4, 2) := by decide +kernel
theorem dX8_lists_207 : decode cX8_lists 207 = .ok (.invokevirtual 109, 3) := by decide +kernel
theorem dX8_lists_210 : decode cX8_lists 210 = .ok (.iinc 4 1, 3) := by decide +kernel
theorem dX8_lists_213 : decode cX8_lists 213 = .ok (.goto (-113), 3) := by decide +kernel
theorem dX8_lists_216 : decode cX8_lists 216 = .ok (.aload_n 0, 1) := by decide +kernel
theorem dX8_lists_217 : decode cX8_lists 217 = .ok (.iload_n 1, 1) := by decide +kernel
theorem dX8_lists_218 : decode cX8_lists 218 = .ok (.iload_n 2, 1) := by decide +kernel
theorem dX8_lists_219 : decode cX8_lists 219 = .ok (.iload_n 3, 1) := by decide +kernel
theorem dX8_lists_220 : decode cX8_lists 220 = .ok (.invokevirtual 136, 3) := by decide +kernel
theorem dX8_lists_223 : decode cX8_lists 223 = .ok (.iinc 3 1, 3) := by decide +kernel
theorem dX8_lists_226 : decode cX8_lists 226 = .ok (.goto (-212), 3) := by decide +kernel
theorem dX8_lists_229 : decode cX8_lists 229 = .ok (.iconst 0, 1) := by decide +kernel
theorem dX8_lists_230 : decode cX8_lists 230 = .ok (.istore_n 3, 1) := by decide +kernel
theorem dX8_lists_231 : decode cX8_lists 231 = .ok (.iload_n 3, 1) := by decide +kernel
theorem dX8_lists_232 : decode cX8_lists 232 = .ok (.iconst 3, 1) := by decide +kernel
theorem dX8_lists_233 : decode cX8_lists 233 = .ok (.if_icmp .ge 73, 3) := by decide +kernel
theorem dX8_lists_236 : decode cX8_lists 236 = .ok (.iconst 0, 1) := by decide +kernel
theorem dX8_lists_237 : decode cX8_lists 237 = .ok (.istore 4, 2) := by decide +kernel
theorem dX8_lists_239 : decode cX8_lists 239 = .ok (.iload 4, 2) := by decide +kernel
theorem dX8_lists_241 : decode cX8_lists 241 = .ok (.iconst 2, 1) := by decide +kernel
theorem dX8_lists_242 : decode cX8_lists 242 = .ok (.if_icmp .ge 58, 3) := by decide +kernel
theorem dX8_lists_245 : decode cX8_lists 245 = .ok (.aload_n 0, 1) := by decide +kernel
theorem dX8_lists_246 : decode cX8_lists 246 = .ok (.getfield 7, 3) := by decide +kernel
theorem dX8_lists_249 : decode cX8_lists 249 = .ok (.iload_n 1, 1) := by decide +kernel
theorem dX8_lists_250 : decode cX8_lists 250 = .ok (.iload_n 3, 1) := by decide +kernel
theorem dX8_lists_251 : decode cX8_lists 251 = .ok (.iload 4, 2) := by decide +kernel
theorem dX8_lists_253 : decode cX8_lists 253 = .ok (.invokestatic 127, 3) := by decide +kernel
theorem dX8_lists_256 : decode cX8_lists 256 = .ok (.iaload, 1) := by decide +kernel
theorem dX8_lists_257 : decode cX8_lists 257 = .ok (.istore 5, 2) := by decide +kernel
theorem dX8_lists_259 : decode cX8_lists 259 = .ok (.aload_n 0, 1) := by decide +kernel
theorem dX8_lists_260 : decode cX8_lists 260 = .ok (.getfield 7, 3) := by decide +kernel
theorem dX8_lists_263 : decode cX8_lists 263 = .ok (.iload_n 2, 1) := by decide +kernel
theorem dX8_lists_264 : decode cX8_lists 264 = .ok (.iload_n 3, 1) := by decide +kernel
theorem dX8_lists_265 : decode cX8_lists 265 = .ok (.iload 4, 2) := by decide +kernel
theorem dX8_lists_267 : decode cX8_lists 267 = .ok (.invokestatic 127, 3) := by decide +kernel
theorem dX8_lists_270 : decode cX8_lists 270 = .ok (.iaload, 1) := by decide +kernel
theorem dX8_lists_271 : decode cX8_lists 271 = .ok (.istore 6, 2) := by decide +kernel
theorem dX8_lists_273 : decode cX8_lists 273 = .ok (.iload 5, 2) := by decide +kernel
theorem dX8_lists_275 : decode cX8_lists 275 = .ok (.iload 6, 2) := by decide +kernel
theorem dX8_lists_277 : decode cX8_lists 277 = .ok (.if_icmp .eq 17, 3) := by decide +kernel
theorem dX8_lists_280 : decode cX8_lists 280 = .ok (.aload_n 0, 1) := by decide +kernel
theorem dX8_lists_281 : decode cX8_lists 281 = .ok (.bipush 7, 2) := by decide +kernel
theorem dX8_lists_283 : decode cX8_lists 283 = .ok (.iload_n 3, 1) := by decide +kernel
theorem dX8_lists_284 : decode cX8_lists 284 = .ok (.iload 4, 2) := by decide +kernel
theorem dX8_lists_286 : decode cX8_lists 286 = .ok (.iload 5, 2) := by decide +kernel
theorem dX8_lists_288 : decode cX8_lists 288 = .ok (.iload 6, 2) := by decide +kernel
theorem dX8_lists_290 : decode cX8_lists 290 = .ok (.iconst 0, 1) := by decide +kernel
theorem dX8_lists_291 : decode cX8_lists 291 = .ok (.invokevirtual 132, 3) := by decide +kernel
theorem dX8_lists_294 : decode cX8_lists 294 = .ok (.iinc 4 1, 3) := by decide +kernel
theorem dX8_lists_297 : decode cX8_lists 297 = .ok (.goto (-58), 3) := by decide +kernel
theorem dX8_lists_300 : decode cX8_lists 300 = .ok (.iinc 3 1, 3) := by decide +kernel
theorem dX8_lists_303 : decode cX8_lists 303 = .ok (.goto (-72), 3) := by decide +kernel
theorem dX8_lists_306 : decode cX8_lists 306 = .ok (.return_, 1) := by decide +kernel
theorem dX8_does_0 : decode cX8_does 0 = .ok (.aload_n 0, 1) := by decide +kernel
theorem dX8_does_1 : decode cX8_does 1 = .ok (.getfield 26, 3) := by decide +kernel
theorem dX8_does_4 : decode cX8_does 4 = .ok (.iload_n 2, 1) := by decide +kernel
theorem dX8_does_5 : decode cX8_does 5 = .ok (.iaload, 1) := by decide +kernel
theorem dX8_does_6 : decode cX8_does 6 = .ok (.istore 5, 2) := by decide +kernel
theorem dX8_does_8 : decode cX8_does 8 = .ok (.iload_n 3, 1) := by decide +kernel
theorem dX8_does_9 : decode cX8_does 9 = .ok (.ifCond .eq 12, 3) := by decide +kernel
theorem dX8_does_12 : decode cX8_does 12 = .ok (.aload_n 0, 1) := by decide +kernel
theorem dX8_does_13 : decode cX8_does 13 = .ok (.getfield 35, 3) := by decide +kernel
theorem dX8_does_16 : decode cX8_does 16 = .ok (.iload_n 2, 1) := by decide +kernel
theorem dX8_does_17 : decode cX8_does 17 = .ok (.iaload, 1) := by decide +kernel
theorem dX8_does_18 : decode cX8_does 18 = .ok (.goto 9, 3) := by decide +kernel
theorem dX8_does_21 : decode cX8_does 21 = .ok (.aload_n 0, 1) := by decide +kernel
theorem dX8_does_22 : decode cX8_does 22 = .ok (.getfield 32, 3) := by decide +kernel
theorem dX8_does_25 : decode cX8_does 25 = .ok (.iload_n 2, 1) := by decide +kernel
theorem dX8_does_26 : decode cX8_does 26 = .ok (.iaload, 1) := by decide +kernel
theorem dX8_does_27 : decode cX8_does 27 = .ok (.istore 6, 2) := by decide +kernel
theorem dX8_does_29 : decode cX8_does 29 = .ok (.iload_n 3, 1) := by decide +kernel
theorem dX8_does_30 : decode cX8_does 30 = .ok (.ifCond .eq 12, 3) := by decide +kernel
theorem dX8_does_33 : decode cX8_does 33 = .ok (.aload_n 0, 1) := by decide +kernel
theorem dX8_does_34 : decode cX8_does 34 = .ok (.getfield 32, 3) := by decide +kernel
theorem dX8_does_37 : decode cX8_does 37 = .ok (.iload_n 2, 1) := by decide +kernel
theorem dX8_does_38 : decode cX8_does 38 = .ok (.iaload, 1) := by decide +kernel
theorem dX8_does_39 : decode cX8_does 39 = .ok (.goto 9, 3) := by decide +kernel
theorem dX8_does_42 : decode cX8_does 42 = .ok (.aload_n 0, 1) := by decide +kernel
theorem dX8_does_43 : decode cX8_does 43 = .ok (.getfield 35, 3) := by decide +kernel
theorem dX8_does_46 : decode cX8_does 46 = .ok (.iload_n 2, 1) := by decide +kernel
theorem dX8_does_47 : decode cX8_does 47 = .ok (.iaload, 1) := by decide +kernel
theorem dX8_does_48 : decode cX8_does 48 = .ok (.istore 7, 2) := by decide +kernel
theorem dX8_does_50 : decode cX8_does 50 = .ok (.iload_n 3, 1) := by decide +kernel
theorem dX8_does_51 : decode cX8_does 51 = .ok (.ifCond .eq 13, 3) := by decide +kernel
theorem dX8_does_54 : decode cX8_does 54 = .ok (.aload_n 0, 1) := by decide +kernel
theorem dX8_does_55 : decode cX8_does 55 = .ok (.getfield 23, 3) := by decide +kernel
theorem dX8_does_58 : decode cX8_does 58 = .ok (.iload_n 2, 1) := by decide +kernel
theorem dX8_does_59 : decode cX8_does 59 = .ok (.iaload, 1) := by decide +kernel
theorem dX8_does_60 : decode cX8_does 60 = .ok (.iconst 2, 1) := by decide +kernel
theorem dX8_does_61 : decode cX8_does 61 = .ok (.if_icmp .le 12, 3) := by decide +kernel
theorem dX8_does_64 : decode cX8_does 64 = .ok (.aload_n 0, 1) := by decide +kernel
theorem dX8_does_65 : decode cX8_does 65 = .ok (.getfield 23, 3) := by decide +kernel
theorem dX8_does_68 : decode cX8_does 68 = .ok (.iload_n 2, 1) := by decide +kernel
theorem dX8_does_69 : decode cX8_does 69 = .ok (.iaload, 1) := by decide +kernel
theorem dX8_does_70 : decode cX8_does 70 = .ok (.goto 11, 3) := by decide +kernel
theorem dX8_does_73 : decode cX8_does 73 = .ok (.iconst 3, 1) := by decide +kernel
theorem dX8_does_74 : decode cX8_does 74 = .ok (.aload_n 0, 1) := by decide +kernel
theorem dX8_does_75 : decode cX8_does 75 = .ok (.getfield 23, 3) := by decide +kernel
theorem dX8_does_78 : decode cX8_does 78 = .ok (.iload_n 2, 1) := by decide +kernel
theorem dX8_does_79 : decode cX8_does 79 = .ok (.iaload, 1) := by decide +kernel
theorem dX8_does_80 : decode cX8_does 80 = .ok (.isub, 1) := by decide +kernel
theorem dX8_does_81 : decode cX8_does 81 = .ok (.istore 8, 2) := by decide +kernel
theorem dX8_does_83 : decode cX8_does 83 = .ok (.iload 8, 2) := by decide +kernel
theorem dX8_does_85 : decode cX8_does 85 = .ok (.bipush 7, 2) := by decide +kernel
theorem dX8_does_87 : decode cX8_does 87 = .ok (.if_icmp .ne 63, 3) := by decide +kernel
theorem dX8_does_90 : decode cX8_does 90 = .ok (.iload_n 1, 1) := by decide +kernel
theorem dX8_does_91 : decode cX8_does 91 = .ok (.iload 5, 2) := by decide +kernel
theorem dX8_does_93 : decode cX8_does 93 = .ok (.aload_n 0, 1) := by decide +kernel
theorem dX8_does_94 : decode cX8_does 94 = .ok (.getfield 29, 3) := by decide +kernel
theorem dX8_does_97 : decode cX8_does 97 = .ok (.iload_n 2, 1) := by decide +kernel
theorem dX8_does_98 : decode cX8_does 98 = .ok (.iaload, 1) := by decide +kernel
theorem dX8_does_99 : decode cX8_does 99 = .ok (.invokestatic 127, 3) := by decide +kernel
theorem dX8_does_102 : decode cX8_does 102 = .ok (.istore 9, 2) := by decide +kernel
theorem dX8_does_104 : decode cX8_does 104 = .ok (.aload_n 0, 1) := by decide +kernel
theorem dX8_does_105 : decode cX8_does 105 = .ok (.getfield 7, 3) := by decide +kernel
theorem dX8_does_108 : decode cX8_does 108 = .ok (.iload 9, 2) := by decide +kernel
theorem dX8_does_110 : decode cX8_does 110 = .ok (.iaload, 1) := by decide +kernel
theorem dX8_does_111 : decode cX8_does 111 = .ok (.iload 6, 2) := by decide +kernel
theorem dX8_does_113 : decode cX8_does 113 = .ok (.if_icmp .ne 7, 3) := by decide +kernel
theorem dX8_does_116 : decode cX8_does 116 = .ok (.iconst 1, 1) := by decide +kernel
theorem dX8_does_117 : decode cX8_does 117 = .ok (.goto 4, 3) := by decide +kernel
theorem dX8_does_120 : decode cX8_does 120 = .ok (.iconst 0, 1) := by decide +kernel
theorem dX8_does_121 : decode cX8_does 121 = .ok (.istore 10, 2) := by decide +kernel
theorem dX8_does_123 : decode cX8_does 123 = .ok (.aload_n 0, 1) := by decide +kernel
theorem dX8_does_124 : decode cX8_does 124 = .ok (.getfield 7, 3) := by decide +kernel
theorem dX8_does_127 : decode cX8_does 127 = .ok (.iload 9, 2) := by decide +kernel
theorem dX8_does_129 : decode cX8_does 129 = .ok (.iload 10, 2) := by decide +kernel
theorem dX8_does_131 : decode cX8_does 131 = .ok (.ifCond .eq 8, 3) := by decide +kernel
theorem dX8_does_134 : decode cX8_does 134 = .ok (.iload 7, 2) := by decide +kernel
theorem dX8_does_136 : decode cX8_does 136 = .ok (.goto 10, 3) := by decide +kernel
theorem dX8_does_139 : decode cX8_does 139 = .ok (.aload_n 0, 1) := by decide +kernel
theorem dX8_does_140 : decode cX8_does 140 = .ok (.getfield 7, 3) := by decide +kernel
theorem dX8_does_143 : decode cX8_does 143 = .ok (.iload 9, 2) := by decide +kernel
theorem dX8_does_145 : decode cX8_does 145 = .ok (.iaload, 1) := by decide +kernel
theorem dX8_does_146 : decode cX8_does 146 = .ok (.iastore, 1) := by decide +kernel
theorem dX8_does_147 : decode cX8_does 147 = .ok (.iload 10, 2) := by decide +kernel
theorem dX8_does_149 : decode cX8_does 149 = .ok (.ireturn, 1) := by decide +kernel
theorem dX8_does_150 : decode cX8_does 150 = .ok (.aload_n 0, 1) := by decide +kernel
theorem dX8_does_151 : decode cX8_does 151 = .ok (.iload_n 1, 1) := by decide +kernel
theorem dX8_does_152 : decode cX8_does 152 = .ok (.iload 5, 2) := by decide +kernel
theorem dX8_does_154 : decode cX8_does 154 = .ok (.invokevirtual 57, 3) := by decide +kernel
theorem dX8_does_157 : decode cX8_does 157 = .ok (.istore 9, 2) := by decide +kernel
theorem dX8_does_159 : decode cX8_does 159 = .ok (.aload_n 0, 1) := by decide +kernel
theorem dX8_does_160 : decode cX8_does 160 = .ok (.iload_n 1, 1) := by decide +kernel
theorem dX8_does_161 : decode cX8_does 161 = .ok (.iload 5, 2) := by decide +kernel
theorem dX8_does_163 : decode cX8_does 163 = .ok (.aload_n 0, 1) := by decide +kernel
theorem dX8_does_164 : decode cX8_does 164 = .ok (.getfield 29, 3) := by decide +kernel
theorem dX8_does_167 : decode cX8_does 167 = .ok (.iload_n 2, 1) := by decide +kernel
theorem dX8_does_168 : decode cX8_does 168 = .ok (.iaload, 1) := by decide +kernel
theorem dX8_does_169 : decode cX8_does 169 = .ok (.invokevirtual 99, 3) := by decide +kernel
theorem dX8_does_172 : decode cX8_does 172 = .ok (.istore 10, 2) := by decide +kernel
theorem dX8_does_174 : decode cX8_does 174 = .ok (.iload 8, 2) := by decide +kernel
theorem dX8_does_176 : decode cX8_does 176 = .ok (.iconst 2, 1) := by decide +kernel
theorem dX8_does_177 : decode cX8_does 177 = .ok (.if_icmp .ne 63, 3) := by decide +kernel
theorem dX8_does_180 : decode cX8_does 180 = .ok (.iload 6, 2) := by decide +kernel
theorem dX8_does_182 : decode cX8_does 182 = .ok (.iload 9, 2) := by decide +kernel
theorem dX8_does_184 : decode cX8_does 184 = .ok (.if_icmp .ge 8, 3) := by decide +kernel
theorem dX8_does_187 : decode cX8_does 187 = .ok (.iload 6, 2) := by decide +kernel
theorem dX8_does_189 : decode cX8_does 189 = .ok (.goto 5, 3) := by decide +kernel
theorem dX8_does_192 : decode cX8_does 192 = .ok (.iload 9, 2) := by decide +kernel
theorem dX8_does_194 : decode cX8_does 194 = .ok (.istore 11, 2) := by decide +kernel
theorem dX8_does_196 : decode cX8_does 196 = .ok (.iload 10, 2) := by decide +kernel
theorem dX8_does_198 : decode cX8_does 198 = .ok (.iconst (-1), 1) := by decide +kernel
theorem dX8_does_199 : decode cX8_does 199 = .ok (.if_icmp .ne 22, 3) := by decide +kernel
theorem dX8_does_202 : decode cX8_does 202 = .ok (.iload 9, 2) := by decide +kernel
theorem dX8_does_204 : decode cX8_does 204 = .ok (.bipush 6, 2) := by decide +kernel
theorem dX8_does_206 : decode cX8_does 206 = .ok (.if_icmp .eq 15, 3) := by decide +kernel
theorem dX8_does_209 : decode cX8_does 209 = .ok (.iload 4, 2) := by decide +kernel
theorem dX8_does_211 : decode cX8_does 211 = .ok (.ifCond .ne 12, 3) := by decide +kernel
theorem dX8_does_214 : decode cX8_does 214 = .ok (.iload 11, 2) := by decide +kernel
theorem dX8_does_216 : decode cX8_does 216 = .ok (.iload 6, 2) := by decide +kernel
theorem dX8_does_218 : decode cX8_does 218 = .ok (.if_icmp .eq 5, 3) := by decide +kernel
theorem dX8_does_221 : decode cX8_does 221 = .ok (.iconst 0, 1) := by decide +kernel
theorem dX8_does_222 : decode cX8_does 222 = .ok (.ireturn, 1) := by decide +kernel
theorem dX8_does_223 : decode cX8_does 223 = .ok (.aload_n 0, 1) := by decide +kernel
theorem dX8_does_224 : decode cX8_does 224 = .ok (.iload_n 1, 1) := by decide +kernel
theorem dX8_does_225 : decode cX8_does 225 = .ok (.iload 5, 2) := by decide +kernel
theorem dX8_does_227 : decode cX8_does 227 = .ok (.iload 11, 2) := by decide +kernel
theorem dX8_does_229 : decode cX8_does 229 = .ok (.aload_n 0, 1) := by decide +kernel
theorem dX8_does_230 : decode cX8_does 230 = .ok (.getfield 38, 3) := by decide +kernel
theorem dX8_does_233 : decode cX8_does 233 = .ok (.iload_n 2, 1) := by decide +kernel
theorem dX8_does_234 : decode cX8_does 234 = .ok (.iaload, 1) := by decide +kernel
theorem dX8_does_235 : decode cX8_does 235 = .ok (.invokevirtual 73, 3) := by decide +kernel
theorem dX8_does_238 : decode cX8_does 238 = .ok (.iconst 1, 1) := by decide +kernel
theorem dX8_does_239 : decode cX8_does 239 = .ok (.ireturn, 1) := by decide +kernel
theorem dX8_does_240 : decode cX8_does 240 = .ok (.iload 10, 2) := by decide +kernel
theorem dX8_does_242 : decode cX8_does 242 = .ok (.iconst (-1), 1) := by decide +kernel
theorem dX8_does_243 : decode cX8_does 243 = .ok (.if_icmp .ne 5, 3) := by decide +kernel
theorem dX8_does_246 : decode cX8_does 246 = .ok (.iconst 0, 1) := by decide +kernel
theorem dX8_does_247 : decode cX8_does 247 = .ok (.ireturn, 1) := by decide +kernel
theorem dX8_does_248 : decode cX8_does 248 = .ok (.iload 8, 2) := by decide +kernel
theorem dX8_does_250 : decode cX8_does 250 = .ok (.iconst 1, 1) := by decide +kernel
theorem dX8_does_251 : decode cX8_does 251 = .ok (.if_icmp .ne 50, 3) := by decide +kernel
theorem dX8_does_254 : decode cX8_does 254 = .ok (.aload_n 0, 1) := by decide +kernel
theorem dX8_does_255 : decode cX8_does 255 = .ok (.getfield 7, 3) := by decide +kernel
theorem dX8_does_258 : decode cX8_does 258 = .ok (.iload_n 1, 1) := by decide +kernel
theorem dX8_does_259 : decode cX8_does 259 = .ok (.iload 5, 2) := by decide +kernel
theorem dX8_does_261 : decode cX8_does 261 = .ok (.iload 10, 2) := by decide +kernel
theorem dX8_does_263 : decode cX8_does 263 = .ok (.invokestatic 61, 3) := by decide +kernel
theorem dX8_does_266 : decode cX8_does 266 = .ok (.iaload, 1) := by decide +kernel
theorem dX8_does_267 : decode cX8_does 267 = .ok (.aload_n 0, 1) := by decide +kernel
theorem dX8_does_268 : decode cX8_does 268 = .ok (.getfield 38, 3) := by decide +kernel
theorem dX8_does_271 : decode cX8_does 271 = .ok (.iload_n 2, 1) := by decide +kernel
theorem dX8_does_272 : decode cX8_does 272 = .ok (.iaload, 1) := by decide +kernel
theorem dX8_does_273 : decode cX8_does 273 = .ok (.if_icmp .ne 15, 3) := by decide +kernel
theorem dX8_does_276 : decode cX8_does 276 = .ok (.iload 4, 2) := by decide +kernel
theorem dX8_does_278 : decode cX8_does 278 = .ok (.ifCond .ne 12, 3) := by decide +kernel
theorem dX8_does_281 : decode cX8_does 281 = .ok (.iload 10, 2) := by decide +kernel
theorem dX8_does_283 : decode cX8_does 283 = .ok (.iload 6, 2) := by decide +kernel
theorem dX8_does_285 : decode cX8_does 285 = .ok (.if_icmp .eq 5, 3) := by decide +kernel
theorem dX8_does_288 : decode cX8_does 288 = .ok (.iconst 0, 1) := by decide +kernel
theorem dX8_does_289 : decode cX8_does 289 = .ok (.ireturn, 1) := by decide +kernel
theorem dX8_does_290 : decode cX8_does 290 = .ok (.aload_n 0, 1) := by decide +kernel
theorem dX8_does_291 : decode cX8_does 291 = .ok (.iload_n 1, 1) := by decide +kernel
theorem dX8_does_292 : decode cX8_does 292 = .ok (.iload 5, 2) := by decide +kernel
theorem dX8_does_294 : decode cX8_does 294 = .ok (.iload 10, 2) := by decide +kernel
theorem dX8_does_296 : decode cX8_does 296 = .ok (.invokevirtual 69, 3) := by decide +kernel
theorem dX8_does_299 : decode cX8_does 299 = .ok (.iconst 1, 1) := by decide +kernel
theorem dX8_does_300 : decode cX8_does 300 = .ok (.ireturn, 1) := by decide +kernel
theorem dX8_does_301 : decode cX8_does 301 = .ok (.iload 8, 2) := by decide +kernel
theorem dX8_does_303 : decode cX8_does 303 = .ok (.iconst 3, 1) := by decide +kernel
theorem dX8_does_304 : decode cX8_does 304 = .ok (.if_icmp .ne 55, 3) := by decide +kernel
theorem dX8_does_307 : decode cX8_does 307 = .ok (.iload 7, 2) := by decide +kernel
theorem dX8_does_309 : decode cX8_does 309 = .ok (.iload 9, 2) := by decide +kernel
theorem dX8_does_311 : decode cX8_does 311 = .ok (.if_icmp .ge 8, 3) := by decide +kernel
theorem dX8_does_314 : decode cX8_does 314 = .ok (.iload 7, 2) := by decide +kernel
theorem dX8_does_316 : decode cX8_does 316 = .ok (.goto 7, 3) := by decide +kernel
theorem dX8_does_319 : decode cX8_does 319 = .ok (.iload 9, 2) := by decide +kernel
theorem dX8_does_321 : decode cX8_does 321 = .ok (.iconst 1, 1) := by decide +kernel
theorem dX8_does_322 : decode cX8_does 322 = .ok (.isub, 1) := by decide +kernel
theorem dX8_does_323 : decode cX8_does 323 = .ok (.istore 11, 2) := by decide +kernel
theorem dX8_does_325 : decode cX8_does 325 = .ok (.iload 4, 2) := by decide +kernel
theorem dX8_does_327 : decode cX8_does 327 = .ok (.ifCond .ne 19, 3) := by decide +kernel
theorem dX8_does_330 : decode cX8_does 330 = .ok (.iload 10, 2) := by decide +kernel
theorem dX8_does_332 : decode cX8_does 332 = .ok (.iload 6, 2) := by decide +kernel
theorem dX8_does_334 : decode cX8_does 334 = .ok (.if_icmp .ne 10, 3) := by decide +kernel
theorem dX8_does_337 : decode cX8_does 337 = .ok (.iload 11, 2) := by decide +kernel
theorem dX8_does_339 : decode cX8_does 339 = .ok (.iload 7, 2) := by decide +kernel
theorem dX8_does_341 : decode cX8_does 341 = .ok (.if_icmp .eq 5, 3) := by decide +kernel
theorem dX8_does_344 : decode cX8_does 344 = .ok (.iconst 0, 1) := by decide +kernel
theorem dX8_does_345 : decode cX8_does 345 = .ok (.ireturn, 1) := by decide +kernel
theorem dX8_does_346 : decode cX8_does 346 = .ok (.aload_n 0, 1) := by decide +kernel
theorem dX8_does_347 : decode cX8_does 347 = .ok (.iload_n 1, 1) := by decide +kernel
theorem dX8_does_348 : decode cX8_does 348 = .ok (.iload 5, 2) := by decide +kernel
theorem dX8_does_350 : decode cX8_does 350 = .ok (.iload 10, 2) := by decide +kernel
theorem dX8_does_352 : decode cX8_does 352 = .ok (.iload 11, 2) := by decide +kernel
theorem dX8_does_354 : decode cX8_does 354 = .ok (.invokevirtual 109, 3) := by decide +kernel
theorem dX8_does_357 : decode cX8_does 357 = .ok (.iconst 1, 1) := by decide +kernel
theorem dX8_does_358 : decode cX8_does 358 = .ok (.ireturn, 1) := by decide +kernel
theorem dX8_does_359 : decode cX8_does 359 = .ok (.iload_n 1, 1) := by decide +kernel
theorem dX8_does_360 : decode cX8_does 360 = .ok (.iload 5, 2) := by decide +kernel
theorem dX8_does_362 : decode cX8_does 362 = .ok (.iload 10, 2) := by decide +kernel
theorem dX8_does_364 : decode cX8_does 364 = .ok (.invokestatic 61, 3) := by decide +kernel
theorem dX8_does_367 : decode cX8_does 367 = .ok (.istore 11, 2) := by decide +kernel
theorem dX8_does_369 : decode cX8_does 369 = .ok (.iload 8, 2) := by decide +kernel
theorem dX8_does_371 : decode cX8_does 371 = .ok (.bipush 6, 2) := by decide +kernel
theorem dX8_does_373 : decode cX8_does 373 = .ok (.if_icmp .ne 16, 3) := by decide +kernel
theorem dX8_does_376 : decode cX8_does 376 = .ok (.aload_n 0, 1) := by decide +kernel
theorem dX8_does_377 : decode cX8_does 377 = .ok (.getfield 7, 3) := by decide +kernel
theorem dX8_does_380 : decode cX8_does 380 = .ok (.iload 11, 2) := by decide +kernel
theorem dX8_does_382 : decode cX8_does 382 = .ok (.iaload, 1) := by decide +kernel
theorem dX8_does_383 : decode cX8_does 383 = .ok (.invokestatic 121, 3) := by decide +kernel
theorem dX8_does_386 : decode cX8_does 386 = .ok (.goto 17, 3) := by decide +kernel
theorem dX8_does_389 : decode cX8_does 389 = .ok (.aload_n 0, 1) := by decide +kernel
theorem dX8_does_390 : decode cX8_does 390 = .ok (.getfield 7, 3) := by decide +kernel
theorem dX8_does_393 : decode cX8_does 393 = .ok (.iload 11, 2) := by decide +kernel
theorem dX8_does_395 : decode cX8_does 395 = .ok (.iaload, 1) := by decide +kernel
theorem dX8_does_396 : decode cX8_does 396 = .ok (.iload 8, 2) := by decide +kernel
theorem dX8_does_398 : decode cX8_does 398 = .ok (.iconst 4, 1) := by decide +kernel
theorem dX8_does_399 : decode cX8_does 399 = .ok (.isub, 1) := by decide +kernel
theorem dX8_does_400 : decode cX8_does 400 = .ok (.invokestatic 115, 3) := by decide +kernel
theorem dX8_does_403 : decode cX8_does 403 = .ok (.istore 12, 2) := by decide +kernel
theorem dX8_does_405 : decode cX8_does 405 = .ok (.iload 12, 2) := by decide +kernel
theorem dX8_does_407 : decode cX8_does 407 = .ok (.iload 6, 2) := by decide +kernel
theorem dX8_does_409 : decode cX8_does 409 = .ok (.if_icmp .eq 5, 3) := by decide +kernel
theorem dX8_does_412 : decode cX8_does 412 = .ok (.iconst 0, 1) := by decide +kernel
theorem dX8_does_413 : decode cX8_does 413 = .ok (.ireturn, 1) := by decide +kernel
theorem dX8_does_414 : decode cX8_does 414 = .ok (.aload_n 0, 1) := by decide +kernel
theorem dX8_does_415 : decode cX8_does 415 = .ok (.getfield 7, 3) := by decide +kernel
theorem dX8_does_418 : decode cX8_does 418 = .ok (.iload 11, 2) := by decide +kernel
theorem dX8_does_420 : decode cX8_does 420 = .ok (.iload 8, 2) := by decide +kernel
theorem dX8_does_422 : decode cX8_does 422 = .ok (.bipush 6, 2) := by decide +kernel
theorem dX8_does_424 : decode cX8_does 424 = .ok (.if_icmp .ne 18, 3) := by decide +kernel
theorem dX8_does_427 : decode cX8_does 427 = .ok (.aload_n 0, 1) := by decide +kernel
theorem dX8_does_428 : decode cX8_does 428 = .ok (.getfield 7, 3) := by decide +kernel
theorem dX8_does_431 : decode cX8_does 431 = .ok (.iload 11, 2) := by decide +kernel
theorem dX8_does_433 : decode cX8_does 433 = .ok (.iaload, 1) := by decide +kernel
theorem dX8_does_434 : decode cX8_does 434 = .ok (.iload 7, 2) := by decide +kernel
theorem dX8_does_436 : decode cX8_does 436 = .ok (.invokestatic 124, 3) := by decide +kernel
theorem dX8_does_439 : decode cX8_does 439 = .ok (.goto 19, 3) := by decide +kernel
theorem dX8_does_442 : decode cX8_does 442 = .ok (.aload_n 0, 1) := by decide +kernel
theorem dX8_does_443 : decode cX8_does 443 = .ok (.getfield 7, 3) := by decide +kernel
theorem dX8_does_446 : decode cX8_does 446 = .ok (.iload 11, 2) := by decide +kernel
theorem dX8_does_448 : decode cX8_does 448 = .ok (.iaload, 1) := by decide +kernel
theorem dX8_does_449 : decode cX8_does 449 = .ok (.iload 8, 2) := by decide +kernel
theorem dX8_does_451 : decode cX8_does 451 = .ok (.iconst 4, 1) := by decide +kernel
theorem dX8_does_452 : decode cX8_does 452 = .ok (.isub, 1) := by decide +kernel
theorem dX8_does_453 : decode cX8_does 453 = .ok (.iload 7, 2) := by decide +kernel
theorem dX8_does_455 : decode cX8_does 455 = .ok (.invokestatic 118, 3) := by decide +kernel
theorem dX8_does_458 : decode cX8_does 458 = .ok (.iastore, 1) := by decide +kernel
theorem dX8_does_459 : decode cX8_does 459 = .ok (.iconst 1, 1) := by decide +kernel
theorem dX8_does_460 : decode cX8_does 460 = .ok (.ireturn, 1) := by decide +kernel
theorem dX8_doesAll_0 : decode cX8_doesAll 0 = .ok (.iconst 1, 1) := by decide +kernel
theorem dX8_doesAll_1 : decode cX8_doesAll 1 = .ok (.istore_n 3, 1) := by decide +kernel
theorem dX8_doesAll_2 : decode cX8_doesAll 2 = .ok (.iconst 0, 1) := by decide +kernel
theorem dX8_doesAll_3 : decode cX8_doesAll 3 = .ok (.istore 4, 2) := by decide +kernel
theorem dX8_doesAll_5 : decode cX8_doesAll 5 = .ok (.iload 4, 2) := by decide +kernel
theorem dX8_doesAll_7 : decode cX8_doesAll 7 = .ok (.aload_n 0, 1) := by decide +kernel
theorem dX8_doesAll_8 : decode cX8_doesAll 8 = .ok (.getfield 130, 3) := by decide +kernel
theorem dX8_doesAll_11 : decode cX8_doesAll 11 = .ok (.if_icmp .ge 40, 3) := by decide +kernel
theorem dX8_doesAll_14 : decode cX8_doesAll 14 = .ok (.iload_n 3, 1) := by decide +kernel
theorem dX8_doesAll_15 : decode cX8_doesAll 15 = .ok (.ifCond .eq 36, 3) := by decide +kernel
theorem dX8_doesAll_18 : decode cX8_doesAll 18 = .ok (.aload_n 0, 1) := by decide +kernel
theorem dX8_doesAll_19 : decode cX8_doesAll 19 = .ok (.bipush 34, 2) := by decide +kernel
theorem dX8_doesAll_21 : decode cX8_doesAll 21 = .ok (.iload_n 1, 1) := by decide +kernel
theorem dX8_doesAll_22 : decode cX8_doesAll 22 = .ok (.ifCond .eq 15, 3) := by decide +kernel
theorem dX8_doesAll_25 : decode cX8_doesAll 25 = .ok (.aload_n 0, 1) := by decide +kernel
theorem dX8_doesAll_26 : decode cX8_doesAll 26 = .ok (.getfield 130, 3) := by decide +kernel
theorem dX8_doesAll_29 : decode cX8_doesAll 29 = .ok (.iconst 1, 1) := by decide +kernel
theorem dX8_doesAll_30 : decode cX8_doesAll 30 = .ok (.isub, 1) := by decide +kernel
theorem dX8_doesAll_31 : decode cX8_doesAll 31 = .ok (.iload 4, 2) := by decide +kernel
theorem dX8_doesAll_33 : decode cX8_doesAll 33 = .ok (.isub, 1) := by decide +kernel
theorem dX8_doesAll_34 : decode cX8_doesAll 34 = .ok (.goto 5, 3) := by decide +kernel
theorem dX8_doesAll_37 : decode cX8_doesAll 37 = .ok (.iload 4, 2) := by decide +kernel
theorem dX8_doesAll_39 : decode cX8_doesAll 39 = .ok (.iload_n 1, 1) := by decide +kernel
theorem dX8_doesAll_40 : decode cX8_doesAll 40 = .ok (.iload_n 2, 1) := by decide +kernel
theorem dX8_doesAll_41 : decode cX8_doesAll 41 = .ok (.invokevirtual 139, 3) := by decide +kernel
theorem dX8_doesAll_44 : decode cX8_doesAll 44 = .ok (.istore_n 3, 1) := by decide +kernel
theorem dX8_doesAll_45 : decode cX8_doesAll 45 = .ok (.iinc 4 1, 3) := by decide +kernel
theorem dX8_doesAll_48 : decode cX8_doesAll 48 = .ok (.goto (-43), 3) := by decide +kernel
theorem dX8_doesAll_51 : decode cX8_doesAll 51 = .ok (.iload_n 3, 1) := by decide +kernel
theorem dX8_doesAll_52 : decode cX8_doesAll 52 = .ok (.ireturn, 1) := by decide +kernel
theorem dX8_apply_0 : decode cX8_apply 0 = .ok (.aload_n 0, 1) := by decide +kernel
theorem dX8_apply_1 : decode cX8_apply 1 = .ok (.iload_n 1, 1) := by decide +kernel
theorem dX8_apply_2 : decode cX8_apply 2 = .ok (.invokestatic 88, 3) := by decide +kernel
theorem dX8_apply_5 : decode cX8_apply 5 = .ok (.ifCond .eq 25, 3) := by decide +kernel
theorem dX8_apply_8 : decode cX8_apply 8 = .ok (.aload_n 0, 1) := by decide +kernel
theorem dX8_apply_9 : decode cX8_apply 9 = .ok (.iload_n 2, 1) := by decide +kernel
theorem dX8_apply_10 : decode cX8_apply 10 = .ok (.invokevirtual 143, 3) := by decide +kernel
theorem dX8_apply_13 : decode cX8_apply 13 = .ok (.iconst (-1), 1) := by decide +kernel
theorem dX8_apply_14 : decode cX8_apply 14 = .ok (.if_icmp .eq 16, 3) := by decide +kernel
theorem dX8_apply_17 : decode cX8_apply 17 = .ok (.aload_n 0, 1) := by decide +kernel
theorem dX8_apply_18 : decode cX8_apply 18 = .ok (.iload_n 3, 1) := by decide +kernel
theorem dX8_apply_19 : decode cX8_apply 19 = .ok (.invokevirtual 143, 3) := by decide +kernel
theorem dX8_apply_22 : decode cX8_apply 22 = .ok (.iconst (-1), 1) := by decide +kernel
theorem dX8_apply_23 : decode cX8_apply 23 = .ok (.if_icmp .eq 7, 3) := by decide +kernel
theorem dX8_apply_26 : decode cX8_apply 26 = .ok (.iconst 0, 1) := by decide +kernel
theorem dX8_apply_27 : decode cX8_apply 27 = .ok (.goto 4, 3) := by decide +kernel
theorem dX8_apply_30 : decode cX8_apply 30 = .ok (.iconst 1, 1) := by decide +kernel
theorem dX8_apply_31 : decode cX8_apply 31 = .ok (.putfield 53, 3) := by decide +kernel
theorem dX8_apply_34 : decode cX8_apply 34 = .ok (.aload_n 0, 1) := by decide +kernel
theorem dX8_apply_35 : decode cX8_apply 35 = .ok (.getfield 53, 3) := by decide +kernel
theorem dX8_apply_38 : decode cX8_apply 38 = .ok (.ifCond .le 5, 3) := by decide +kernel
theorem dX8_apply_41 : decode cX8_apply 41 = .ok (.iconst 0, 1) := by decide +kernel
theorem dX8_apply_42 : decode cX8_apply 42 = .ok (.ireturn, 1) := by decide +kernel
theorem dX8_apply_43 : decode cX8_apply 43 = .ok (.aload_n 0, 1) := by decide +kernel
theorem dX8_apply_44 : decode cX8_apply 44 = .ok (.getfield 13, 3) := by decide +kernel
theorem dX8_apply_47 : decode cX8_apply 47 = .ok (.iload_n 1, 1) := by decide +kernel
theorem dX8_apply_48 : decode cX8_apply 48 = .ok (.iaload, 1) := by decide +kernel
theorem dX8_apply_49 : decode cX8_apply 49 = .ok (.ifCond .ne 9, 3) := by decide +kernel
theorem dX8_apply_52 : decode cX8_apply 52 = .ok (.aload_n 0, 1) := by decide +kernel
theorem dX8_apply_53 : decode cX8_apply 53 = .ok (.iconst 2, 1) := by decide +kernel
theorem dX8_apply_54 : decode cX8_apply 54 = .ok (.invokevirtual 102, 3) := by decide +kernel
theorem dX8_apply_57 : decode cX8_apply 57 = .ok (.ireturn, 1) := by decide +kernel
theorem dX8_apply_58 : decode cX8_apply 58 = .ok (.aload_n 0, 1) := by decide +kernel
theorem dX8_apply_59 : decode cX8_apply 59 = .ok (.aload_n 0, 1) := by decide +kernel
theorem dX8_apply_60 : decode cX8_apply 60 = .ok (.iload_n 2, 1) := by decide +kernel
theorem dX8_apply_61 : decode cX8_apply 61 = .ok (.invokevirtual 143, 3) := by decide +kernel
theorem dX8_apply_64 : decode cX8_apply 64 = .ok (.aload_n 0, 1) := by decide +kernel
theorem dX8_apply_65 : decode cX8_apply 65 = .ok (.iload_n 3, 1) := by decide +kernel
theorem dX8_apply_66 : decode cX8_apply 66 = .ok (.invokevirtual 143, 3) := by decide +kernel
theorem dX8_apply_69 : decode cX8_apply 69 = .ok (.invokevirtual 146, 3) := by decide +kernel
theorem dX8_apply_72 : decode cX8_apply 72 = .ok (.aload_n 0, 1) := by decide +kernel
theorem dX8_apply_73 : decode cX8_apply 73 = .ok (.iload_n 1, 1) := by decide +kernel
theorem dX8_apply_74 : decode cX8_apply 74 = .ok (.bipush 34, 2) := by decide +kernel
theorem dX8_apply_76 : decode cX8_apply 76 = .ok (.invokevirtual 91, 3) := by decide +kernel
theorem dX8_apply_79 : decode cX8_apply 79 = .ok (.aload_n 0, 1) := by decide +kernel
theorem dX8_apply_80 : decode cX8_apply 80 = .ok (.iload 4, 2) := by decide +kernel
theorem dX8_apply_82 : decode cX8_apply 82 = .ok (.iconst 0, 1) := by decide +kernel
theorem dX8_apply_83 : decode cX8_apply 83 = .ok (.invokevirtual 149, 3) := by decide +kernel
theorem dX8_apply_86 : decode cX8_apply 86 = .ok (.ifCond .ne 9, 3) := by decide +kernel
theorem dX8_apply_89 : decode cX8_apply 89 = .ok (.aload_n 0, 1) := by decide +kernel
theorem dX8_apply_90 : decode cX8_apply 90 = .ok (.iconst 2, 1) := by decide +kernel
theorem dX8_apply_91 : decode cX8_apply 91 = .ok (.invokevirtual 102, 3) := by decide +kernel
theorem dX8_apply_94 : decode cX8_apply 94 = .ok (.ireturn, 1) := by decide +kernel
theorem dX8_apply_95 : decode cX8_apply 95 = .ok (.aload_n 0, 1) := by decide +kernel
theorem dX8_apply_96 : decode cX8_apply 96 = .ok (.bipush 34, 2) := by decide +kernel
theorem dX8_apply_98 : decode cX8_apply 98 = .ok (.iload_n 1, 1) := by decide +kernel
theorem dX8_apply_99 : decode cX8_apply 99 = .ok (.invokevirtual 91, 3) := by decide +kernel
theorem dX8_apply_102 : decode cX8_apply 102 = .ok (.aload_n 0, 1) := by decide +kernel
theorem dX8_apply_103 : decode cX8_apply 103 = .ok (.getfield 130, 3) := by decide +kernel
theorem dX8_apply_106 : decode cX8_apply 106 = .ok (.ireturn, 1) := by decide +kernel
theorem dX8_rule_0 : decode cX8_rule 0 = .ok (.aload_n 0, 1) := by decide +kernel
theorem dX8_rule_1 : decode cX8_rule 1 = .ok (.iload_n 2, 1) := by decide +kernel
theorem dX8_rule_2 : decode cX8_rule 2 = .ok (.invokestatic 84, 3) := by decide +kernel
theorem dX8_rule_5 : decode cX8_rule 5 = .ok (.ifCond .eq 10, 3) := by decide +kernel
theorem dX8_rule_8 : decode cX8_rule 8 = .ok (.iload_n 3, 1) := by decide +kernel
theorem dX8_rule_9 : decode cX8_rule 9 = .ok (.invokestatic 112, 3) := by decide +kernel
theorem dX8_rule_12 : decode cX8_rule 12 = .ok (.ifCond .ne 7, 3) := by decide +kernel
theorem dX8_rule_15 : decode cX8_rule 15 = .ok (.iconst 1, 1) := by decide +kernel
theorem dX8_rule_16 : decode cX8_rule 16 = .ok (.goto 41, 3) := by decide +kernel
theorem dX8_rule_19 : decode cX8_rule 19 = .ok (.iload_n 1, 1) := by decide +kernel
theorem dX8_rule_20 : decode cX8_rule 20 = .ok (.iconst 0, 1) := by decide +kernel
theorem dX8_rule_21 : decode cX8_rule 21 = .ok (.iconst 3, 1) := by decide +kernel
theorem dX8_rule_22 : decode cX8_rule 22 = .ok (.invokestatic 77, 3) := by decide +kernel
theorem dX8_rule_25 : decode cX8_rule 25 = .ok (.ifCond .eq 14, 3) := by decide +kernel
theorem dX8_rule_28 : decode cX8_rule 28 = .ok (.iload 4, 2) := by decide +kernel
theorem dX8_rule_30 : decode cX8_rule 30 = .ok (.iconst 0, 1) := by decide +kernel
theorem dX8_rule_31 : decode cX8_rule 31 = .ok (.bipush 99, 2) := by decide +kernel
theorem dX8_rule_33 : decode cX8_rule 33 = .ok (.invokestatic 77, 3) := by decide +kernel
theorem dX8_rule_36 : decode cX8_rule 36 = .ok (.ifCond .ne 7, 3) := by decide +kernel
theorem dX8_rule_39 : decode cX8_rule 39 = .ok (.iconst 2, 1) := by decide +kernel
theorem dX8_rule_40 : decode cX8_rule 40 = .ok (.goto 17, 3) := by decide +kernel
theorem dX8_rule_43 : decode cX8_rule 43 = .ok (.aload_n 0, 1) := by decide +kernel
theorem dX8_rule_44 : decode cX8_rule 44 = .ok (.getfield 153, 3) := by decide +kernel
theorem dX8_rule_47 : decode cX8_rule 47 = .ok (.bipush 8, 2) := by decide +kernel
theorem dX8_rule_49 : decode cX8_rule 49 = .ok (.if_icmp .ne 7, 3) := by decide +kernel
theorem dX8_rule_52 : decode cX8_rule 52 = .ok (.iconst 3, 1) := by decide +kernel
theorem dX8_rule_53 : decode cX8_rule 53 = .ok (.goto 4, 3) := by decide +kernel
theorem dX8_rule_56 : decode cX8_rule 56 = .ok (.iconst 0, 1) := by decide +kernel
theorem dX8_rule_57 : decode cX8_rule 57 = .ok (.putfield 53, 3) := by decide +kernel
theorem dX8_rule_60 : decode cX8_rule 60 = .ok (.aload_n 0, 1) := by decide +kernel
theorem dX8_rule_61 : decode cX8_rule 61 = .ok (.getfield 53, 3) := by decide +kernel
theorem dX8_rule_64 : decode cX8_rule 64 = .ok (.ifCond .le 5, 3) := by decide +kernel
theorem dX8_rule_67 : decode cX8_rule 67 = .ok (.iconst 0, 1) := by decide +kernel
theorem dX8_rule_68 : decode cX8_rule 68 = .ok (.ireturn, 1) := by decide +kernel
theorem dX8_rule_69 : decode cX8_rule 69 = .ok (.aload_n 0, 1) := by decide +kernel
theorem dX8_rule_70 : decode cX8_rule 70 = .ok (.getfield 41, 3) := by decide +kernel
theorem dX8_rule_73 : decode cX8_rule 73 = .ok (.aload_n 0, 1) := by decide +kernel
theorem dX8_rule_74 : decode cX8_rule 74 = .ok (.getfield 153, 3) := by decide +kernel
theorem dX8_rule_77 : decode cX8_rule 77 = .ok (.iload_n 1, 1) := by decide +kernel
theorem dX8_rule_78 : decode cX8_rule 78 = .ok (.iastore, 1) := by decide +kernel
theorem dX8_rule_79 : decode cX8_rule 79 = .ok (.aload_n 0, 1) := by decide +kernel
theorem dX8_rule_80 : decode cX8_rule 80 = .ok (.getfield 44, 3) := by decide +kernel
theorem dX8_rule_83 : decode cX8_rule 83 = .ok (.aload_n 0, 1) := by decide +kernel
theorem dX8_rule_84 : decode cX8_rule 84 = .ok (.getfield 153, 3) := by decide +kernel
theorem dX8_rule_87 : decode cX8_rule 87 = .ok (.iload_n 2, 1) := by decide +kernel
theorem dX8_rule_88 : decode cX8_rule 88 = .ok (.iastore, 1) := by decide +kernel
theorem dX8_rule_89 : decode cX8_rule 89 = .ok (.aload_n 0, 1) := by decide +kernel
theorem dX8_rule_90 : decode cX8_rule 90 = .ok (.getfield 47, 3) := by decide +kernel
theorem dX8_rule_93 : decode cX8_rule 93 = .ok (.aload_n 0, 1) := by decide +kernel
theorem dX8_rule_94 : decode cX8_rule 94 = .ok (.getfield 153, 3) := by decide +kernel
theorem dX8_rule_97 : decode cX8_rule 97 = .ok (.iload_n 3, 1) := by decide +kernel
theorem dX8_rule_98 : decode cX8_rule 98 = .ok (.iastore, 1) := by decide +kernel
theorem dX8_rule_99 : decode cX8_rule 99 = .ok (.aload_n 0, 1) := by decide +kernel
theorem dX8_rule_100 : decode cX8_rule 100 = .ok (.getfield 50, 3) := by decide +kernel
theorem dX8_rule_103 : decode cX8_rule 103 = .ok (.aload_n 0, 1) := by decide +kernel
theorem dX8_rule_104 : decode cX8_rule 104 = .ok (.getfield 153, 3) := by decide +kernel
theorem dX8_rule_107 : decode cX8_rule 107 = .ok (.iload 4, 2) := by decide +kernel
theorem dX8_rule_109 : decode cX8_rule 109 = .ok (.iastore, 1) := by decide +kernel
theorem dX8_rule_110 : decode cX8_rule 110 = .ok (.aload_n 0, 1) := by decide +kernel
theorem dX8_rule_111 : decode cX8_rule 111 = .ok (.dup, 1) := by decide +kernel
theorem dX8_rule_112 : decode cX8_rule 112 = .ok (.getfield 153, 3) := by decide +kernel
theorem dX8_rule_115 : decode cX8_rule 115 = .ok (.iconst 1, 1) := by decide +kernel
theorem dX8_rule_116 : decode cX8_rule 116 = .ok (.iadd, 1) := by decide +kernel
theorem dX8_rule_117 : decode cX8_rule 117 = .ok (.putfield 153, 3) := by decide +kernel
theorem dX8_rule_120 : decode cX8_rule 120 = .ok (.aload_n 0, 1) := by decide +kernel
theorem dX8_rule_121 : decode cX8_rule 121 = .ok (.getfield 153, 3) := by decide +kernel
theorem dX8_rule_124 : decode cX8_rule 124 = .ok (.iconst 1, 1) := by decide +kernel
theorem dX8_rule_125 : decode cX8_rule 125 = .ok (.isub, 1) := by decide +kernel
theorem dX8_rule_126 : decode cX8_rule 126 = .ok (.ireturn, 1) := by decide +kernel
theorem dX8_shows_0 : decode cX8_shows 0 = .ok (.aload_n 0, 1) := by decide +kernel
theorem dX8_shows_1 : decode cX8_shows 1 = .ok (.getfield 7, 3) := by decide +kernel
theorem dX8_shows_4 : decode cX8_shows 4 = .ok (.iload_n 1, 1) := by decide +kernel
theorem dX8_shows_5 : decode cX8_shows 5 = .ok (.iload_n 2, 1) := by decide +kernel
theorem dX8_shows_6 : decode cX8_shows 6 = .ok (.iload_n 3, 1) := by decide +kernel
theorem dX8_shows_7 : decode cX8_shows 7 = .ok (.invokestatic 61, 3) := by decide +kernel
theorem dX8_shows_10 : decode cX8_shows 10 = .ok (.iaload, 1) := by decide +kernel
theorem dX8_shows_11 : decode cX8_shows 11 = .ok (.istore 5, 2) := by decide +kernel
theorem dX8_shows_13 : decode cX8_shows 13 = .ok (.iload 5, 2) := by decide +kernel
theorem dX8_shows_15 : decode cX8_shows 15 = .ok (.iload 4, 2) := by decide +kernel
theorem dX8_shows_17 : decode cX8_shows 17 = .ok (.invokestatic 115, 3) := by decide +kernel
theorem dX8_shows_20 : decode cX8_shows 20 = .ok (.istore 6, 2) := by decide +kernel
theorem dX8_shows_22 : decode cX8_shows 22 = .ok (.iload 6, 2) := by decide +kernel
theorem dX8_shows_24 : decode cX8_shows 24 = .ok (.ifCond .gt 11, 3) := by decide +kernel
theorem dX8_shows_27 : decode cX8_shows 27 = .ok (.iload 5, 2) := by decide +kernel
theorem dX8_shows_29 : decode cX8_shows 29 = .ok (.invokestatic 121, 3) := by decide +kernel
theorem dX8_shows_32 : decode cX8_shows 32 = .ok (.ifCond .ne 8, 3) := by decide +kernel
theorem dX8_shows_35 : decode cX8_shows 35 = .ok (.iload 6, 2) := by decide +kernel
theorem dX8_shows_37 : decode cX8_shows 37 = .ok (.goto 21, 3) := by decide +kernel
theorem dX8_shows_40 : decode cX8_shows 40 = .ok (.aload_n 0, 1) := by decide +kernel
theorem dX8_shows_41 : decode cX8_shows 41 = .ok (.getfield 7, 3) := by decide +kernel
theorem dX8_shows_44 : decode cX8_shows 44 = .ok (.iload_n 1, 1) := by decide +kernel
theorem dX8_shows_45 : decode cX8_shows 45 = .ok (.iload 5, 2) := by decide +kernel
theorem dX8_shows_47 : decode cX8_shows 47 = .ok (.invokestatic 121, 3) := by decide +kernel
theorem dX8_shows_50 : decode cX8_shows 50 = .ok (.iconst 1, 1) := by decide +kernel
theorem dX8_shows_51 : decode cX8_shows 51 = .ok (.isub, 1) := by decide +kernel
theorem dX8_shows_52 : decode cX8_shows 52 = .ok (.iload 4, 2) := by decide +kernel
theorem dX8_shows_54 : decode cX8_shows 54 = .ok (.invokestatic 127, 3) := by decide +kernel
theorem dX8_shows_57 : decode cX8_shows 57 = .ok (.iaload, 1) := by decide +kernel
theorem dX8_shows_58 : decode cX8_shows 58 = .ok (.iconst 1, 1) := by decide +kernel
theorem dX8_shows_59 : decode cX8_shows 59 = .ok (.isub, 1) := by decide +kernel
theorem dX8_shows_60 : decode cX8_shows 60 = .ok (.ireturn, 1) := by decide +kernel
theorem dX8_isKept_0 : decode cX8_isKept 0 = .ok (.aload_n 0, 1) := by decide +kernel
theorem dX8_isKept_1 : decode cX8_isKept 1 = .ok (.getfield 44, 3) := by decide +kernel
theorem dX8_isKept_4 : decode cX8_isKept 4 = .ok (.iload_n 2, 1) := by decide +kernel
theorem dX8_isKept_5 : decode cX8_isKept 5 = .ok (.iaload, 1) := by decide +kernel
theorem dX8_isKept_6 : decode cX8_isKept 6 = .ok (.istore_n 3, 1) := by decide +kernel
theorem dX8_isKept_7 : decode cX8_isKept 7 = .ok (.aload_n 0, 1) := by decide +kernel
theorem dX8_isKept_8 : decode cX8_isKept 8 = .ok (.getfield 47, 3) := by decide +kernel
theorem dX8_isKept_11 : decode cX8_isKept 11 = .ok (.iload_n 2, 1) := by decide +kernel
theorem dX8_isKept_12 : decode cX8_isKept 12 = .ok (.iaload, 1) := by decide +kernel
theorem dX8_isKept_13 : decode cX8_isKept 13 = .ok (.istore 4, 2) := by decide +kernel
theorem dX8_isKept_15 : decode cX8_isKept 15 = .ok (.aload_n 0, 1) := by decide +kernel
theorem dX8_isKept_16 : decode cX8_isKept 16 = .ok (.getfield 50, 3) := by decide +kernel
theorem dX8_isKept_19 : decode cX8_isKept 19 = .ok (.iload_n 2, 1) := by decide +kernel
theorem dX8_isKept_20 : decode cX8_isKept 20 = .ok (.iaload, 1) := by decide +kernel
theorem dX8_isKept_21 : decode cX8_isKept 21 = .ok (.istore 5, 2) := by decide +kernel
theorem dX8_isKept_23 : decode cX8_isKept 23 = .ok (.iconst 1, 1) := by decide +kernel
theorem dX8_isKept_24 : decode cX8_isKept 24 = .ok (.istore 6, 2) := by decide +kernel
theorem dX8_isKept_26 : decode cX8_isKept 26 = .ok (.iconst 0, 1) := by decide +kernel
theorem dX8_isKept_27 : decode cX8_isKept 27 = .ok (.istore 7, 2) := by decide +kernel
theorem dX8_isKept_29 : decode cX8_isKept 29 = .ok (.iload 7, 2) := by decide +kernel
theorem dX8_isKept_31 : decode cX8_isKept 31 = .ok (.aload_n 0, 1) := by decide +kernel
theorem dX8_isKept_32 : decode cX8_isKept 32 = .ok (.iload_n 1, 1) := by decide +kernel
theorem dX8_isKept_33 : decode cX8_isKept 33 = .ok (.iload_n 3, 1) := by decide +kernel
theorem dX8_isKept_34 : decode cX8_isKept 34 = .ok (.invokevirtual 57, 3) := by decide +kernel
theorem dX8_isKept_37 : decode cX8_isKept 37 = .ok (.if_icmp .ge 182, 3) := by decide +kernel
theorem dX8_isKept_40 : decode cX8_isKept 40 = .ok (.aload_n 0, 1) := by decide +kernel
theorem dX8_isKept_41 : decode cX8_isKept 41 = .ok (.iload_n 1, 1) := by decide +kernel
theorem dX8_isKept_42 : decode cX8_isKept 42 = .ok (.iload_n 3, 1) := by decide +kernel
theorem dX8_isKept_43 : decode cX8_isKept 43 = .ok (.iload 7, 2) := by decide +kernel
theorem dX8_isKept_45 : decode cX8_isKept 45 = .ok (.iload 4, 2) := by decide +kernel
theorem dX8_isKept_47 : decode cX8_isKept 47 = .ok (.invokevirtual 156, 3) := by decide +kernel
theorem dX8_isKept_50 : decode cX8_isKept 50 = .ok (.istore 8, 2) := by decide +kernel
theorem dX8_isKept_52 : decode cX8_isKept 52 = .ok (.aload_n 0, 1) := by decide +kernel
theorem dX8_isKept_53 : decode cX8_isKept 53 = .ok (.getfield 41, 3) := by decide +kernel
theorem dX8_isKept_56 : decode cX8_isKept 56 = .ok (.iload_n 2, 1) := by decide +kernel
theorem dX8_isKept_57 : decode cX8_isKept 57 = .ok (.iaload, 1) := by decide +kernel
theorem dX8_isKept_58 : decode cX8_isKept 58 = .ok (.ifCond .ne 24, 3) := by decide +kernel
theorem dX8_isKept_61 : decode cX8_isKept 61 = .ok (.iload 6, 2) := by decide +kernel
theorem dX8_isKept_63 : decode cX8_isKept 63 = .ok (.ifCond .eq 13, 3) := by decide +kernel
theorem dX8_isKept_66 : decode cX8_isKept 66 = .ok (.iload 8, 2) := by decide +kernel
theorem dX8_isKept_68 : decode cX8_isKept 68 = .ok (.iconst (-1), 1) := by decide +kernel
theorem dX8_isKept_69 : decode cX8_isKept 69 = .ok (.if_icmp .eq 7, 3) := by decide +kernel
theorem dX8_isKept_72 : decode cX8_isKept 72 = .ok (.iconst 1, 1) := by decide +kernel
theorem dX8_isKept_73 : decode cX8_isKept 73 = .ok (.goto 4, 3) := by decide +kernel
theorem dX8_isKept_76 : decode cX8_isKept 76 = .ok (.iconst 0, 1) := by decide +kernel
theorem dX8_isKept_77 : decode cX8_isKept 77 = .ok (.istore 6, 2) := by decide +kernel
theorem dX8_isKept_79 : decode cX8_isKept 79 = .ok (.goto 134, 3) := by decide +kernel
theorem dX8_isKept_82 : decode cX8_isKept 82 = .ok (.aload_n 0, 1) := by decide +kernel
theorem dX8_isKept_83 : decode cX8_isKept 83 = .ok (.getfield 41, 3) := by decide +kernel
theorem dX8_isKept_86 : decode cX8_isKept 86 = .ok (.iload_n 2, 1) := by decide +kernel
theorem dX8_isKept_87 : decode cX8_isKept 87 = .ok (.iaload, 1) := by decide +kernel
theorem dX8_isKept_88 : decode cX8_isKept 88 = .ok (.iconst 1, 1) := by decide +kernel
theorem dX8_isKept_89 : decode cX8_isKept 89 = .ok (.if_icmp .ne 25, 3) := by decide +kernel
theorem dX8_isKept_92 : decode cX8_isKept 92 = .ok (.iload 6, 2) := by decide +kernel
theorem dX8_isKept_94 : decode cX8_isKept 94 = .ok (.ifCond .eq 14, 3) := by decide +kernel
theorem dX8_isKept_97 : decode cX8_isKept 97 = .ok (.iload 8, 2) := by decide +kernel
theorem dX8_isKept_99 : decode cX8_isKept 99 = .ok (.iload 5, 2) := by decide +kernel
theorem dX8_isKept_101 : decode cX8_isKept 101 = .ok (.if_icmp .gt 7, 3) := by decide +kernel
theorem dX8_isKept_104 : decode cX8_isKept 104 = .ok (.iconst 1, 1) := by decide +kernel
theorem dX8_isKept_105 : decode cX8_isKept 105 = .ok (.goto 4, 3) := by decide +kernel
theorem dX8_isKept_108 : decode cX8_isKept 108 = .ok (.iconst 0, 1) := by decide +kernel
theorem dX8_isKept_109 : decode cX8_isKept 109 = .ok (.istore 6, 2) := by decide +kernel
theorem dX8_isKept_111 : decode cX8_isKept 111 = .ok (.goto 102, 3) := by decide +kernel
theorem dX8_isKept_114 : decode cX8_isKept 114 = .ok (.aload_n 0, 1) := by decide +kernel
theorem dX8_isKept_115 : decode cX8_isKept 115 = .ok (.getfield 41, 3) := by decide +kernel
theorem dX8_isKept_118 : decode cX8_isKept 118 = .ok (.iload_n 2, 1) := by decide +kernel
theorem dX8_isKept_119 : decode cX8_isKept 119 = .ok (.iaload, 1) := by decide +kernel
theorem dX8_isKept_120 : decode cX8_isKept 120 = .ok (.iconst 2, 1) := by decide +kernel
theorem dX8_isKept_121 : decode cX8_isKept 121 = .ok (.if_icmp .ne 43, 3) := by decide +kernel
theorem dX8_isKept_124 : decode cX8_isKept 124 = .ok (.iload 6, 2) := by decide +kernel
theorem dX8_isKept_126 : decode cX8_isKept 126 = .ok (.ifCond .eq 32, 3) := by decide +kernel
theorem dX8_isKept_129 : decode cX8_isKept 129 = .ok (.iload 8, 2) := by decide +kernel
theorem dX8_isKept_131 : decode cX8_isKept 131 = .ok (.iconst (-1), 1) := by decide +kernel
theorem dX8_isKept_132 : decode cX8_isKept 132 = .ok (.if_icmp .eq 22, 3) := by decide +kernel
theorem dX8_isKept_135 : decode cX8_isKept 135 = .ok (.iload 5, 2) := by decide +kernel
theorem dX8_isKept_137 : decode cX8_isKept 137 = .ok (.iconst 3, 1) := by decide +kernel
theorem dX8_isKept_138 : decode cX8_isKept 138 = .ok (.if_icmp .ge 20, 3) := by decide +kernel
theorem dX8_isKept_141 : decode cX8_isKept 141 = .ok (.aload_n 0, 1) := by decide +kernel
theorem dX8_isKept_142 : decode cX8_isKept 142 = .ok (.iload_n 1, 1) := by decide +kernel
theorem dX8_isKept_143 : decode cX8_isKept 143 = .ok (.iload 5, 2) := by decide +kernel
theorem dX8_isKept_145 : decode cX8_isKept 145 = .ok (.iload 8, 2) := by decide +kernel
theorem dX8_isKept_147 : decode cX8_isKept 147 = .ok (.invokevirtual 99, 3) := by decide +kernel
theorem dX8_isKept_150 : decode cX8_isKept 150 = .ok (.iconst (-1), 1) := by decide +kernel
theorem dX8_isKept_151 : decode cX8_isKept 151 = .ok (.if_icmp .eq 7, 3) := by decide +kernel
theorem dX8_isKept_154 : decode cX8_isKept 154 = .ok (.iconst 1, 1) := by decide +kernel
theorem dX8_isKept_155 : decode cX8_isKept 155 = .ok (.goto 4, 3) := by decide +kernel
theorem dX8_isKept_158 : decode cX8_isKept 158 = .ok (.iconst 0, 1) := by decide +kernel
theorem dX8_isKept_159 : decode cX8_isKept 159 = .ok (.istore 6, 2) := by decide +kernel
theorem dX8_isKept_161 : decode cX8_isKept 161 = .ok (.goto 52, 3) := by decide +kernel
theorem dX8_isKept_164 : decode cX8_isKept 164 = .ok (.iconst 0, 1) := by decide +kernel
theorem dX8_isKept_165 : decode cX8_isKept 165 = .ok (.istore 9, 2) := by decide +kernel
theorem dX8_isKept_167 : decode cX8_isKept 167 = .ok (.iload 9, 2) := by decide +kernel
theorem dX8_isKept_169 : decode cX8_isKept 169 = .ok (.iload 7, 2) := by decide +kernel
theorem dX8_isKept_171 : decode cX8_isKept 171 = .ok (.if_icmp .ge 42, 3) := by decide +kernel
theorem dX8_isKept_174 : decode cX8_isKept 174 = .ok (.iload 6, 2) := by decide +kernel
theorem dX8_isKept_176 : decode cX8_isKept 176 = .ok (.ifCond .eq 28, 3) := by decide +kernel
theorem dX8_isKept_179 : decode cX8_isKept 179 = .ok (.iload 8, 2) := by decide +kernel
theorem dX8_isKept_181 : decode cX8_isKept 181 = .ok (.iconst (-1), 1) := by decide +kernel
theorem dX8_isKept_182 : decode cX8_isKept 182 = .ok (.if_icmp .eq 18, 3) := by decide +kernel
theorem dX8_isKept_185 : decode cX8_isKept 185 = .ok (.aload_n 0, 1) := by decide +kernel
theorem dX8_isKept_186 : decode cX8_isKept 186 = .ok (.iload_n 1, 1) := by decide +kernel
theorem dX8_isKept_187 : decode cX8_isKept 187 = .ok (.iload_n 3, 1) := by decide +kernel
theorem dX8_isKept_188 : decode cX8_isKept 188 = .ok (.iload 9, 2) := by decide +kernel
theorem dX8_isKept_190 : decode cX8_isKept 190 = .ok (.iload 4, 2) := by decide +kernel
theorem dX8_isKept_192 : decode cX8_isKept 192 = .ok (.invokevirtual 156, 3) := by decide +kernel
theorem dX8_isKept_195 : decode cX8_isKept 195 = .ok (.iload 8, 2) := by decide +kernel
theorem dX8_isKept_197 : decode cX8_isKept 197 = .ok (.if_icmp .eq 7, 3) := by decide +kernel
theorem dX8_isKept_200 : decode cX8_isKept 200 = .ok (.iconst 1, 1) := by decide +kernel
theorem dX8_isKept_201 : decode cX8_isKept 201 = .ok (.goto 4, 3) := by decide +kernel
theorem dX8_isKept_204 : decode cX8_isKept 204 = .ok (.iconst 0, 1) := by decide +kernel
theorem dX8_isKept_205 : decode cX8_isKept 205 = .ok (.istore 6, 2) := by decide +kernel
theorem dX8_isKept_207 : decode cX8_isKept 207 = .ok (.iinc 9 1, 3) := by decide +kernel
theorem dX8_isKept_210 : decode cX8_isKept 210 = .ok (.goto (-43), 3) := by decide +kernel
theorem dX8_isKept_213 : decode cX8_isKept 213 = .ok (.iinc 7 1, 3) := by decide +kernel
theorem dX8_isKept_216 : decode cX8_isKept 216 = .ok (.goto (-187), 3) := by decide +kernel
theorem dX8_isKept_219 : decode cX8_isKept 219 = .ok (.iload 6, 2) := by decide +kernel
theorem dX8_isKept_221 : decode cX8_isKept 221 = .ok (.ireturn, 1) := by decide +kernel
theorem dX8_faultsOf_0 : decode cX8_faultsOf 0 = .ok (.iconst 0, 1) := by decide +kernel
theorem dX8_faultsOf_1 : decode cX8_faultsOf 1 = .ok (.istore_n 2, 1) := by decide +kernel
theorem dX8_faultsOf_2 : decode cX8_faultsOf 2 = .ok (.iconst 0, 1) := by decide +kernel
theorem dX8_faultsOf_3 : decode cX8_faultsOf 3 = .ok (.istore_n 3, 1) := by decide +kernel
theorem dX8_faultsOf_4 : decode cX8_faultsOf 4 = .ok (.iload_n 3, 1) := by decide +kernel
theorem dX8_faultsOf_5 : decode cX8_faultsOf 5 = .ok (.aload_n 0, 1) := by decide +kernel
theorem dX8_faultsOf_6 : decode cX8_faultsOf 6 = .ok (.getfield 153, 3) := by decide +kernel
theorem dX8_faultsOf_9 : decode cX8_faultsOf 9 = .ok (.if_icmp .ge 26, 3) := by decide +kernel
theorem dX8_faultsOf_12 : decode cX8_faultsOf 12 = .ok (.iload_n 2, 1) := by decide +kernel
theorem dX8_faultsOf_13 : decode cX8_faultsOf 13 = .ok (.aload_n 0, 1) := by decide +kernel
theorem dX8_faultsOf_14 : decode cX8_faultsOf 14 = .ok (.iload_n 1, 1) := by decide +kernel
theorem dX8_faultsOf_15 : decode cX8_faultsOf 15 = .ok (.iload_n 3, 1) := by decide +kernel
theorem dX8_faultsOf_16 : decode cX8_faultsOf 16 = .ok (.invokevirtual 159, 3) := by decide +kernel
theorem dX8_faultsOf_19 : decode cX8_faultsOf 19 = .ok (.ifCond .eq 7, 3) := by decide +kernel
theorem dX8_faultsOf_22 : decode cX8_faultsOf 22 = .ok (.iconst 0, 1) := by decide +kernel
theorem dX8_faultsOf_23 : decode cX8_faultsOf 23 = .ok (.goto 4, 3) := by decide +kernel
theorem dX8_faultsOf_26 : decode cX8_faultsOf 26 = .ok (.iconst 1, 1) := by decide +kernel
theorem dX8_faultsOf_27 : decode cX8_faultsOf 27 = .ok (.iadd, 1) := by decide +kernel
theorem dX8_faultsOf_28 : decode cX8_faultsOf 28 = .ok (.istore_n 2, 1) := by decide +kernel
theorem dX8_faultsOf_29 : decode cX8_faultsOf 29 = .ok (.iinc 3 1, 3) := by decide +kernel
theorem dX8_faultsOf_32 : decode cX8_faultsOf 32 = .ok (.goto (-28), 3) := by decide +kernel
theorem dX8_faultsOf_35 : decode cX8_faultsOf 35 = .ok (.iload_n 2, 1) := by decide +kernel
theorem dX8_faultsOf_36 : decode cX8_faultsOf 36 = .ok (.ireturn, 1) := by decide +kernel
theorem dX8_isThere_0 : decode cX8_isThere 0 = .ok (.aload_n 0, 1) := by decide +kernel
theorem dX8_isThere_1 : decode cX8_isThere 1 = .ok (.aload_n 0, 1) := by decide +kernel
theorem dX8_isThere_2 : decode cX8_isThere 2 = .ok (.iload_n 1, 1) := by decide +kernel
theorem dX8_isThere_3 : decode cX8_isThere 3 = .ok (.invokevirtual 143, 3) := by decide +kernel
theorem dX8_isThere_6 : decode cX8_isThere 6 = .ok (.iconst (-1), 1) := by decide +kernel
theorem dX8_isThere_7 : decode cX8_isThere 7 = .ok (.if_icmp .eq 7, 3) := by decide +kernel
theorem dX8_isThere_10 : decode cX8_isThere 10 = .ok (.iconst 0, 1) := by decide +kernel
theorem dX8_isThere_11 : decode cX8_isThere 11 = .ok (.goto 4, 3) := by decide +kernel
theorem dX8_isThere_14 : decode cX8_isThere 14 = .ok (.iconst 1, 1) := by decide +kernel
theorem dX8_isThere_15 : decode cX8_isThere 15 = .ok (.putfield 53, 3) := by decide +kernel
theorem dX8_isThere_18 : decode cX8_isThere 18 = .ok (.aload_n 0, 1) := by decide +kernel
theorem dX8_isThere_19 : decode cX8_isThere 19 = .ok (.getfield 53, 3) := by decide +kernel
theorem dX8_isThere_22 : decode cX8_isThere 22 = .ok (.ifCond .ne 7, 3) := by decide +kernel
theorem dX8_isThere_25 : decode cX8_isThere 25 = .ok (.iconst 1, 1) := by decide +kernel
theorem dX8_isThere_26 : decode cX8_isThere 26 = .ok (.goto 4, 3) := by decide +kernel
theorem dX8_isThere_29 : decode cX8_isThere 29 = .ok (.iconst 0, 1) := by decide +kernel
theorem dX8_isThere_30 : decode cX8_isThere 30 = .ok (.ireturn, 1) := by decide +kernel
theorem dX8_faults_0 : decode cX8_faults 0 = .ok (.aload_n 0, 1) := by decide +kernel
theorem dX8_faults_1 : decode cX8_faults 1 = .ok (.iload_n 1, 1) := by decide +kernel
theorem dX8_faults_2 : decode cX8_faults 2 = .ok (.invokevirtual 162, 3) := by decide +kernel
theorem dX8_faults_5 : decode cX8_faults 5 = .ok (.ifCond .eq 15, 3) := by decide +kernel
theorem dX8_faults_8 : decode cX8_faults 8 = .ok (.aload_n 0, 1) := by decide +kernel
theorem dX8_faults_9 : decode cX8_faults 9 = .ok (.aload_n 0, 1) := by decide +kernel
theorem dX8_faults_10 : decode cX8_faults 10 = .ok (.iload_n 1, 1) := by decide +kernel
theorem dX8_faults_11 : decode cX8_faults 11 = .ok (.invokevirtual 143, 3) := by decide +kernel
theorem dX8_faults_14 : decode cX8_faults 14 = .ok (.invokevirtual 165, 3) := by decide +kernel
theorem dX8_faults_17 : decode cX8_faults 17 = .ok (.goto 4, 3) := by decide +kernel
theorem dX8_faults_20 : decode cX8_faults 20 = .ok (.iconst 0, 1) := by decide +kernel
theorem dX8_faults_21 : decode cX8_faults 21 = .ok (.ireturn, 1) := by decide +kernel
theorem dX8_commit_0 : decode cX8_commit 0 = .ok (.aload_n 0, 1) := by decide +kernel
theorem dX8_commit_1 : decode cX8_commit 1 = .ok (.iload_n 1, 1) := by decide +kernel
theorem dX8_commit_2 : decode cX8_commit 2 = .ok (.invokestatic 88, 3) := by decide +kernel
theorem dX8_commit_5 : decode cX8_commit 5 = .ok (.ifCond .ne 7, 3) := by decide +kernel
theorem dX8_commit_8 : decode cX8_commit 8 = .ok (.iconst 1, 1) := by decide +kernel
theorem dX8_commit_9 : decode cX8_commit 9 = .ok (.goto 50, 3) := by decide +kernel
theorem dX8_commit_12 : decode cX8_commit 12 = .ok (.iload_n 2, 1) := by decide +kernel
theorem dX8_commit_13 : decode cX8_commit 13 = .ok (.iconst 0, 1) := by decide +kernel
theorem dX8_commit_14 : decode cX8_commit 14 = .ok (.bipush 100, 2) := by decide +kernel
theorem dX8_commit_16 : decode cX8_commit 16 = .ok (.invokestatic 77, 3) := by decide +kernel
theorem dX8_commit_19 : decode cX8_commit 19 = .ok (.ifCond .ne 7, 3) := by decide +kernel
theorem dX8_commit_22 : decode cX8_commit 22 = .ok (.iconst 2, 1) := by decide +kernel
theorem dX8_commit_23 : decode cX8_commit 23 = .ok (.goto 36, 3) := by decide +kernel
theorem dX8_commit_26 : decode cX8_commit 26 = .ok (.aload_n 0, 1) := by decide +kernel
theorem dX8_commit_27 : decode cX8_commit 27 = .ok (.getfield 13, 3) := by decide +kernel
theorem dX8_commit_30 : decode cX8_commit 30 = .ok (.iload_n 1, 1) := by decide +kernel
theorem dX8_commit_31 : decode cX8_commit 31 = .ok (.iaload, 1) := by decide +kernel
theorem dX8_commit_32 : decode cX8_commit 32 = .ok (.ifCond .eq 22, 3) := by decide +kernel
theorem dX8_commit_35 : decode cX8_commit 35 = .ok (.aload_n 0, 1) := by decide +kernel
theorem dX8_commit_36 : decode cX8_commit 36 = .ok (.getfield 19, 3) := by decide +kernel
theorem dX8_commit_39 : decode cX8_commit 39 = .ok (.iconst (-1), 1) := by decide +kernel
theorem dX8_commit_40 : decode cX8_commit 40 = .ok (.if_icmp .ne 14, 3) := by decide +kernel
theorem dX8_commit_43 : decode cX8_commit 43 = .ok (.aload_n 0, 1) := by decide +kernel
theorem dX8_commit_44 : decode cX8_commit 44 = .ok (.getfield 81, 3) := by decide +kernel
theorem dX8_commit_47 : decode cX8_commit 47 = .ok (.iconst 1, 1) := by decide +kernel
theorem dX8_commit_48 : decode cX8_commit 48 = .ok (.iadd, 1) := by decide +kernel
theorem dX8_commit_49 : decode cX8_commit 49 = .ok (.bipush 29, 2) := by decide +kernel
theorem dX8_commit_51 : decode cX8_commit 51 = .ok (.if_icmp .lt 7, 3) := by decide +kernel
theorem dX8_commit_54 : decode cX8_commit 54 = .ok (.iconst 3, 1) := by decide +kernel
theorem dX8_commit_55 : decode cX8_commit 55 = .ok (.goto 4, 3) := by decide +kernel
theorem dX8_commit_58 : decode cX8_commit 58 = .ok (.iconst 0, 1) := by decide +kernel
theorem dX8_commit_59 : decode cX8_commit 59 = .ok (.putfield 53, 3) := by decide +kernel
theorem dX8_commit_62 : decode cX8_commit 62 = .ok (.aload_n 0, 1) := by decide +kernel
theorem dX8_commit_63 : decode cX8_commit 63 = .ok (.getfield 53, 3) := by decide +kernel
theorem dX8_commit_66 : decode cX8_commit 66 = .ok (.ifCond .le 5, 3) := by decide +kernel
theorem dX8_commit_69 : decode cX8_commit 69 = .ok (.iconst 0, 1) := by decide +kernel
theorem dX8_commit_70 : decode cX8_commit 70 = .ok (.ireturn, 1) := by decide +kernel
theorem dX8_commit_71 : decode cX8_commit 71 = .ok (.aload_n 0, 1) := by decide +kernel
theorem dX8_commit_72 : decode cX8_commit 72 = .ok (.iconst 3, 1) := by decide +kernel
theorem dX8_commit_73 : decode cX8_commit 73 = .ok (.aload_n 0, 1) := by decide +kernel
theorem dX8_commit_74 : decode cX8_commit 74 = .ok (.getfield 16, 3) := by decide +kernel
theorem dX8_commit_77 : decode cX8_commit 77 = .ok (.iload_n 1, 1) := by decide +kernel
theorem dX8_commit_78 : decode cX8_commit 78 = .ok (.iaload, 1) := by decide +kernel
theorem dX8_commit_79 : decode cX8_commit 79 = .ok (.iadd, 1) := by decide +kernel
theorem dX8_commit_80 : decode cX8_commit 80 = .ok (.iload_n 1, 1) := by decide +kernel
theorem dX8_commit_81 : decode cX8_commit 81 = .ok (.invokevirtual 146, 3) := by decide +kernel
theorem dX8_commit_84 : decode cX8_commit 84 = .ok (.aload_n 0, 1) := by decide +kernel
theorem dX8_commit_85 : decode cX8_commit 85 = .ok (.iconst 3, 1) := by decide +kernel
theorem dX8_commit_86 : decode cX8_commit 86 = .ok (.aload_n 0, 1) := by decide +kernel
theorem dX8_commit_87 : decode cX8_commit 87 = .ok (.getfield 81, 3) := by decide +kernel
theorem dX8_commit_90 : decode cX8_commit 90 = .ok (.iadd, 1) := by decide +kernel
theorem dX8_commit_91 : decode cX8_commit 91 = .ok (.bipush 34, 2) := by decide +kernel
theorem dX8_commit_93 : decode cX8_commit 93 = .ok (.invokevirtual 91, 3) := by decide +kernel
theorem dX8_commit_96 : decode cX8_commit 96 = .ok (.aload_n 0, 1) := by decide +kernel
theorem dX8_commit_97 : decode cX8_commit 97 = .ok (.iconst 0, 1) := by decide +kernel
theorem dX8_commit_98 : decode cX8_commit 98 = .ok (.iconst 1, 1) := by decide +kernel
theorem dX8_commit_99 : decode cX8_commit 99 = .ok (.invokevirtual 149, 3) := by decide +kernel
theorem dX8_commit_102 : decode cX8_commit 102 = .ok (.ifCond .eq 12, 3) := by decide +kernel
theorem dX8_commit_105 : decode cX8_commit 105 = .ok (.aload_n 0, 1) := by decide +kernel
theorem dX8_commit_106 : decode cX8_commit 106 = .ok (.bipush 34, 2) := by decide +kernel
theorem dX8_commit_108 : decode cX8_commit 108 = .ok (.invokevirtual 165, 3) := by decide +kernel
theorem dX8_commit_111 : decode cX8_commit 111 = .ok (.ifCond .le 9, 3) := by decide +kernel
theorem dX8_commit_114 : decode cX8_commit 114 = .ok (.aload_n 0, 1) := by decide +kernel
theorem dX8_commit_115 : decode cX8_commit 115 = .ok (.iconst 3, 1) := by decide +kernel
theorem dX8_commit_116 : decode cX8_commit 116 = .ok (.invokevirtual 102, 3) := by decide +kernel
theorem dX8_commit_119 : decode cX8_commit 119 = .ok (.ireturn, 1) := by decide +kernel
theorem dX8_commit_120 : decode cX8_commit 120 = .ok (.aload_n 0, 1) := by decide +kernel
theorem dX8_commit_121 : decode cX8_commit 121 = .ok (.dup, 1) := by decide +kernel
theorem dX8_commit_122 : decode cX8_commit 122 = .ok (.getfield 81, 3) := by decide +kernel
theorem dX8_commit_125 : decode cX8_commit 125 = .ok (.iconst 1, 1) := by decide +kernel
theorem dX8_commit_126 : decode cX8_commit 126 = .ok (.iadd, 1) := by decide +kernel
theorem dX8_commit_127 : decode cX8_commit 127 = .ok (.putfield 81, 3) := by decide +kernel
theorem dX8_commit_130 : decode cX8_commit 130 = .ok (.aload_n 0, 1) := by decide +kernel
theorem dX8_commit_131 : decode cX8_commit 131 = .ok (.bipush 34, 2) := by decide +kernel
theorem dX8_commit_133 : decode cX8_commit 133 = .ok (.iconst 3, 1) := by decide +kernel
theorem dX8_commit_134 : decode cX8_commit 134 = .ok (.aload_n 0, 1) := by decide +kernel
theorem dX8_commit_135 : decode cX8_commit 135 = .ok (.getfield 81, 3) := by decide +kernel
theorem dX8_commit_138 : decode cX8_commit 138 = .ok (.iadd, 1) := by decide +kernel
theorem dX8_commit_139 : decode cX8_commit 139 = .ok (.invokevirtual 91, 3) := by decide +kernel
theorem dX8_commit_142 : decode cX8_commit 142 = .ok (.aload_n 0, 1) := by decide +kernel
theorem dX8_commit_143 : decode cX8_commit 143 = .ok (.getfield 13, 3) := by decide +kernel
theorem dX8_commit_146 : decode cX8_commit 146 = .ok (.iload_n 1, 1) := by decide +kernel
theorem dX8_commit_147 : decode cX8_commit 147 = .ok (.iconst 0, 1) := by decide +kernel
theorem dX8_commit_148 : decode cX8_commit 148 = .ok (.iastore, 1) := by decide +kernel
theorem dX8_commit_149 : decode cX8_commit 149 = .ok (.aload_n 0, 1) := by decide +kernel
theorem dX8_commit_150 : decode cX8_commit 150 = .ok (.iload_n 2, 1) := by decide +kernel
theorem dX8_commit_151 : decode cX8_commit 151 = .ok (.ifCond .ne 7, 3) := by decide +kernel
theorem dX8_commit_154 : decode cX8_commit 154 = .ok (.iconst (-1), 1) := by decide +kernel
theorem dX8_commit_155 : decode cX8_commit 155 = .ok (.goto 4, 3) := by decide +kernel
theorem dX8_commit_158 : decode cX8_commit 158 = .ok (.iload_n 2, 1) := by decide +kernel
theorem dX8_commit_159 : decode cX8_commit 159 = .ok (.putfield 19, 3) := by decide +kernel
theorem dX8_commit_162 : decode cX8_commit 162 = .ok (.aload_n 0, 1) := by decide +kernel
theorem dX8_commit_163 : decode cX8_commit 163 = .ok (.getfield 81, 3) := by decide +kernel
theorem dX8_commit_166 : decode cX8_commit 166 = .ok (.ireturn, 1) := by decide +kernel
theorem dX8_confirm_0 : decode cX8_confirm 0 = .ok (.aload_n 0, 1) := by decide +kernel
theorem dX8_confirm_1 : decode cX8_confirm 1 = .ok (.aload_n 0, 1) := by decide +kernel
theorem dX8_confirm_2 : decode cX8_confirm 2 = .ok (.getfield 19, 3) := by decide +kernel
theorem dX8_confirm_5 : decode cX8_confirm 5 = .ok (.iconst (-1), 1) := by decide +kernel
theorem dX8_confirm_6 : decode cX8_confirm 6 = .ok (.if_icmp .ne 7, 3) := by decide +kernel
theorem dX8_confirm_9 : decode cX8_confirm 9 = .ok (.iconst 1, 1) := by decide +kernel
theorem dX8_confirm_10 : decode cX8_confirm 10 = .ok (.goto 4, 3) := by decide +kernel
theorem dX8_confirm_13 : decode cX8_confirm 13 = .ok (.iconst 0, 1) := by decide +kernel
theorem dX8_confirm_14 : decode cX8_confirm 14 = .ok (.putfield 53, 3) := by decide +kernel
theorem dX8_confirm_17 : decode cX8_confirm 17 = .ok (.aload_n 0, 1) := by decide +kernel
theorem dX8_confirm_18 : decode cX8_confirm 18 = .ok (.getfield 19, 3) := by decide +kernel
theorem dX8_confirm_21 : decode cX8_confirm 21 = .ok (.istore_n 1, 1) := by decide +kernel
theorem dX8_confirm_22 : decode cX8_confirm 22 = .ok (.aload_n 0, 1) := by decide +kernel
theorem dX8_confirm_23 : decode cX8_confirm 23 = .ok (.iconst (-1), 1) := by decide +kernel
theorem dX8_confirm_24 : decode cX8_confirm 24 = .ok (.putfield 19, 3) := by decide +kernel
theorem dX8_confirm_27 : decode cX8_confirm 27 = .ok (.aload_n 0, 1) := by decide +kernel
theorem dX8_confirm_28 : decode cX8_confirm 28 = .ok (.getfield 53, 3) := by decide +kernel
theorem dX8_confirm_31 : decode cX8_confirm 31 = .ok (.ifCond .ne 7, 3) := by decide +kernel
theorem dX8_confirm_34 : decode cX8_confirm 34 = .ok (.iload_n 1, 1) := by decide +kernel
theorem dX8_confirm_35 : decode cX8_confirm 35 = .ok (.goto 4, 3) := by decide +kernel
theorem dX8_confirm_38 : decode cX8_confirm 38 = .ok (.iconst 0, 1) := by decide +kernel
theorem dX8_confirm_39 : decode cX8_confirm 39 = .ok (.ireturn, 1) := by decide +kernel
theorem dX8_advance_0 : decode cX8_advance 0 = .ok (.aload_n 0, 1) := by decide +kernel
theorem dX8_advance_1 : decode cX8_advance 1 = .ok (.iload_n 1, 1) := by decide +kernel
theorem dX8_advance_2 : decode cX8_advance 2 = .ok (.iconst 1, 1) := by decide +kernel
theorem dX8_advance_3 : decode cX8_advance 3 = .ok (.bipush 100, 2) := by decide +kernel
theorem dX8_advance_5 : decode cX8_advance 5 = .ok (.invokestatic 77, 3) := by decide +kernel
theorem dX8_advance_8 : decode cX8_advance 8 = .ok (.ifCond .eq 7, 3) := by decide +kernel
theorem dX8_advance_11 : decode cX8_advance 11 = .ok (.iconst 0, 1) := by decide +kernel
theorem dX8_advance_12 : decode cX8_advance 12 = .ok (.goto 4, 3) := by decide +kernel
theorem dX8_advance_15 : decode cX8_advance 15 = .ok (.iconst 1, 1) := by decide +kernel
theorem dX8_advance_16 : decode cX8_advance 16 = .ok (.putfield 53, 3) := by decide +kernel
theorem dX8_advance_19 : decode cX8_advance 19 = .ok (.aload_n 0, 1) := by decide +kernel
theorem dX8_advance_20 : decode cX8_advance 20 = .ok (.getfield 53, 3) := by decide +kernel
theorem dX8_advance_23 : decode cX8_advance 23 = .ok (.ifCond .le 5, 3) := by decide +kernel
theorem dX8_advance_26 : decode cX8_advance 26 = .ok (.iconst 0, 1) := by decide +kernel
theorem dX8_advance_27 : decode cX8_advance 27 = .ok (.ireturn, 1) := by decide +kernel
theorem dX8_advance_28 : decode cX8_advance 28 = .ok (.aload_n 0, 1) := by decide +kernel
theorem dX8_advance_29 : decode cX8_advance 29 = .ok (.getfield 19, 3) := by decide +kernel
theorem dX8_advance_32 : decode cX8_advance 32 = .ok (.iconst (-1), 1) := by decide +kernel
theorem dX8_advance_33 : decode cX8_advance 33 = .ok (.if_icmp .eq 47, 3) := by decide +kernel
theorem dX8_advance_36 : decode cX8_advance 36 = .ok (.aload_n 0, 1) := by decide +kernel
theorem dX8_advance_37 : decode cX8_advance 37 = .ok (.getfield 19, 3) := by decide +kernel
theorem dX8_advance_40 : decode cX8_advance 40 = .ok (.iload_n 1, 1) := by decide +kernel
theorem dX8_advance_41 : decode cX8_advance 41 = .ok (.if_icmp .gt 39, 3) := by decide +kernel
theorem dX8_advance_44 : decode cX8_advance 44 = .ok (.aload_n 0, 1) := by decide +kernel
theorem dX8_advance_45 : decode cX8_advance 45 = .ok (.iconst (-1), 1) := by decide +kernel
theorem dX8_advance_46 : decode cX8_advance 46 = .ok (.putfield 19, 3) := by decide +kernel
theorem dX8_advance_49 : decode cX8_advance 49 = .ok (.aload_n 0, 1) := by decide +kernel
theorem dX8_advance_50 : decode cX8_advance 50 = .ok (.dup, 1) := by decide +kernel
theorem dX8_advance_51 : decode cX8_advance 51 = .ok (.getfield 81, 3) := by decide +kernel
theorem dX8_advance_54 : decode cX8_advance 54 = .ok (.iconst 1, 1) := by decide +kernel
theorem dX8_advance_55 : decode cX8_advance 55 = .ok (.iadd, 1) := by decide +kernel
theorem dX8_advance_56 : decode cX8_advance 56 = .ok (.putfield 81, 3) := by decide +kernel
theorem dX8_advance_59 : decode cX8_advance 59 = .ok (.aload_n 0, 1) := by decide +kernel
theorem dX8_advance_60 : decode cX8_advance 60 = .ok (.iconst 3, 1) := by decide +kernel
theorem dX8_advance_61 : decode cX8_advance 61 = .ok (.aload_n 0, 1) := by decide +kernel
theorem dX8_advance_62 : decode cX8_advance 62 = .ok (.getfield 81, 3) := by decide +kernel
theorem dX8_advance_65 : decode cX8_advance 65 = .ok (.iadd, 1) := by decide +kernel
theorem dX8_advance_66 : decode cX8_advance 66 = .ok (.iconst 2, 1) := by decide +kernel
theorem dX8_advance_67 : decode cX8_advance 67 = .ok (.isub, 1) := by decide +kernel
theorem dX8_advance_68 : decode cX8_advance 68 = .ok (.iconst 3, 1) := by decide +kernel
theorem dX8_advance_69 : decode cX8_advance 69 = .ok (.aload_n 0, 1) := by decide +kernel
theorem dX8_advance_70 : decode cX8_advance 70 = .ok (.getfield 81, 3) := by decide +kernel
theorem dX8_advance_73 : decode cX8_advance 73 = .ok (.iadd, 1) := by decide +kernel
theorem dX8_advance_74 : decode cX8_advance 74 = .ok (.invokevirtual 91, 3) := by decide +kernel
theorem dX8_advance_77 : decode cX8_advance 77 = .ok (.goto 21, 3) := by decide +kernel
theorem dX8_advance_80 : decode cX8_advance 80 = .ok (.aload_n 0, 1) := by decide +kernel
theorem dX8_advance_81 : decode cX8_advance 81 = .ok (.getfield 19, 3) := by decide +kernel
theorem dX8_advance_84 : decode cX8_advance 84 = .ok (.iconst (-1), 1) := by decide +kernel
theorem dX8_advance_85 : decode cX8_advance 85 = .ok (.if_icmp .eq 13, 3) := by decide +kernel
theorem dX8_advance_88 : decode cX8_advance 88 = .ok (.aload_n 0, 1) := by decide +kernel
theorem dX8_advance_89 : decode cX8_advance 89 = .ok (.dup, 1) := by decide +kernel
theorem dX8_advance_90 : decode cX8_advance 90 = .ok (.getfield 19, 3) := by decide +kernel
theorem dX8_advance_93 : decode cX8_advance 93 = .ok (.iload_n 1, 1) := by decide +kernel
theorem dX8_advance_94 : decode cX8_advance 94 = .ok (.isub, 1) := by decide +kernel
theorem dX8_advance_95 : decode cX8_advance 95 = .ok (.putfield 19, 3) := by decide +kernel
theorem dX8_advance_98 : decode cX8_advance 98 = .ok (.aload_n 0, 1) := by decide +kernel
theorem dX8_advance_99 : decode cX8_advance 99 = .ok (.getfield 81, 3) := by decide +kernel
theorem dX8_advance_102 : decode cX8_advance 102 = .ok (.ireturn, 1) := by decide +kernel
theorem dX8_running_0 : decode cX8_running 0 = .ok (.aload_n 0, 1) := by decide +kernel
theorem dX8_running_1 : decode cX8_running 1 = .ok (.iconst 0, 1) := by decide +kernel
theorem dX8_running_2 : decode cX8_running 2 = .ok (.putfield 53, 3) := by decide +kernel
theorem dX8_running_5 : decode cX8_running 5 = .ok (.aload_n 0, 1) := by decide +kernel
theorem dX8_running_6 : decode cX8_running 6 = .ok (.getfield 81, 3) := by decide +kernel
theorem dX8_running_9 : decode cX8_running 9 = .ok (.ireturn, 1) := by decide +kernel
theorem dX8_waiting_0 : decode cX8_waiting 0 = .ok (.aload_n 0, 1) := by decide +kernel
theorem dX8_waiting_1 : decode cX8_waiting 1 = .ok (.iconst 0, 1) := by decide +kernel
theorem dX8_waiting_2 : decode cX8_waiting 2 = .ok (.putfield 53, 3) := by decide +kernel
theorem dX8_waiting_5 : decode cX8_waiting 5 = .ok (.aload_n 0, 1) := by decide +kernel
theorem dX8_waiting_6 : decode cX8_waiting 6 = .ok (.getfield 19, 3) := by decide +kernel
theorem dX8_waiting_9 : decode cX8_waiting 9 = .ok (.ireturn, 1) := by decide +kernel
theorem dX8_size_0 : decode cX8_size 0 = .ok (.aload_n 0, 1) := by decide +kernel
theorem dX8_size_1 : decode cX8_size 1 = .ok (.aload_n 0, 1) := by decide +kernel
theorem dX8_size_2 : decode cX8_size 2 = .ok (.iload_n 1, 1) := by decide +kernel
theorem dX8_size_3 : decode cX8_size 3 = .ok (.invokevirtual 143, 3) := by decide +kernel
theorem dX8_size_6 : decode cX8_size 6 = .ok (.iconst (-1), 1) := by decide +kernel
theorem dX8_size_7 : decode cX8_size 7 = .ok (.if_icmp .eq 14, 3) := by decide +kernel
theorem dX8_size_10 : decode cX8_size 10 = .ok (.iload_n 2, 1) := by decide +kernel
theorem dX8_size_11 : decode cX8_size 11 = .ok (.invokestatic 84, 3) := by decide +kernel
theorem dX8_size_14 : decode cX8_size 14 = .ok (.ifCond .eq 7, 3) := by decide +kernel
theorem dX8_size_17 : decode cX8_size 17 = .ok (.iconst 0, 1) := by decide +kernel
theorem dX8_size_18 : decode cX8_size 18 = .ok (.goto 4, 3) := by decide +kernel
theorem dX8_size_21 : decode cX8_size 21 = .ok (.iconst 1, 1) := by decide +kernel
theorem dX8_size_22 : decode cX8_size 22 = .ok (.putfield 53, 3) := by decide +kernel
theorem dX8_size_25 : decode cX8_size 25 = .ok (.aload_n 0, 1) := by decide +kernel
theorem dX8_size_26 : decode cX8_size 26 = .ok (.getfield 53, 3) := by decide +kernel
theorem dX8_size_29 : decode cX8_size 29 = .ok (.ifCond .ne 16, 3) := by decide +kernel
theorem dX8_size_32 : decode cX8_size 32 = .ok (.aload_n 0, 1) := by decide +kernel
theorem dX8_size_33 : decode cX8_size 33 = .ok (.aload_n 0, 1) := by decide +kernel
theorem dX8_size_34 : decode cX8_size 34 = .ok (.iload_n 1, 1) := by decide +kernel
theorem dX8_size_35 : decode cX8_size 35 = .ok (.invokevirtual 143, 3) := by decide +kernel
theorem dX8_size_38 : decode cX8_size 38 = .ok (.iload_n 2, 1) := by decide +kernel
theorem dX8_size_39 : decode cX8_size 39 = .ok (.invokevirtual 57, 3) := by decide +kernel
theorem dX8_size_42 : decode cX8_size 42 = .ok (.goto 4, 3) := by decide +kernel
theorem dX8_size_45 : decode cX8_size 45 = .ok (.iconst 0, 1) := by decide +kernel
theorem dX8_size_46 : decode cX8_size 46 = .ok (.ireturn, 1) := by decide +kernel
theorem dX8_isEntry_0 : decode cX8_isEntry 0 = .ok (.aload_n 0, 1) := by decide +kernel
theorem dX8_isEntry_1 : decode cX8_isEntry 1 = .ok (.aload_n 0, 1) := by decide +kernel
theorem dX8_isEntry_2 : decode cX8_isEntry 2 = .ok (.iload_n 1, 1) := by decide +kernel
theorem dX8_isEntry_3 : decode cX8_isEntry 3 = .ok (.invokevirtual 143, 3) := by decide +kernel
theorem dX8_isEntry_6 : decode cX8_isEntry 6 = .ok (.iconst (-1), 1) := by decide +kernel
theorem dX8_isEntry_7 : decode cX8_isEntry 7 = .ok (.if_icmp .eq 34, 3) := by decide +kernel
theorem dX8_isEntry_10 : decode cX8_isEntry 10 = .ok (.iload_n 2, 1) := by decide +kernel
theorem dX8_isEntry_11 : decode cX8_isEntry 11 = .ok (.invokestatic 84, 3) := by decide +kernel
theorem dX8_isEntry_14 : decode cX8_isEntry 14 = .ok (.ifCond .eq 27, 3) := by decide +kernel
theorem dX8_isEntry_17 : decode cX8_isEntry 17 = .ok (.iload_n 3, 1) := by decide +kernel
theorem dX8_isEntry_18 : decode cX8_isEntry 18 = .ok (.iconst 0, 1) := by decide +kernel
theorem dX8_isEntry_19 : decode cX8_isEntry 19 = .ok (.aload_n 0, 1) := by decide +kernel
theorem dX8_isEntry_20 : decode cX8_isEntry 20 = .ok (.aload_n 0, 1) := by decide +kernel
theorem dX8_isEntry_21 : decode cX8_isEntry 21 = .ok (.iload_n 1, 1) := by decide +kernel
theorem dX8_isEntry_22 : decode cX8_isEntry 22 = .ok (.invokevirtual 143, 3) := by decide +kernel
theorem dX8_isEntry_25 : decode cX8_isEntry 25 = .ok (.iload_n 2, 1) := by decide +kernel
theorem dX8_isEntry_26 : decode cX8_isEntry 26 = .ok (.invokevirtual 57, 3) := by decide +kernel
theorem dX8_isEntry_29 : decode cX8_isEntry 29 = .ok (.iconst 1, 1) := by decide +kernel
theorem dX8_isEntry_30 : decode cX8_isEntry 30 = .ok (.isub, 1) := by decide +kernel
theorem dX8_isEntry_31 : decode cX8_isEntry 31 = .ok (.invokestatic 77, 3) := by decide +kernel
theorem dX8_isEntry_34 : decode cX8_isEntry 34 = .ok (.ifCond .eq 7, 3) := by decide +kernel
theorem dX8_isEntry_37 : decode cX8_isEntry 37 = .ok (.iconst 0, 1) := by decide +kernel
theorem dX8_isEntry_38 : decode cX8_isEntry 38 = .ok (.goto 4, 3) := by decide +kernel
theorem dX8_isEntry_41 : decode cX8_isEntry 41 = .ok (.iconst 1, 1) := by decide +kernel
theorem dX8_isEntry_42 : decode cX8_isEntry 42 = .ok (.putfield 53, 3) := by decide +kernel
theorem dX8_isEntry_45 : decode cX8_isEntry 45 = .ok (.aload_n 0, 1) := by decide +kernel
theorem dX8_isEntry_46 : decode cX8_isEntry 46 = .ok (.getfield 53, 3) := by decide +kernel
theorem dX8_isEntry_49 : decode cX8_isEntry 49 = .ok (.ifCond .ne 7, 3) := by decide +kernel
theorem dX8_isEntry_52 : decode cX8_isEntry 52 = .ok (.iconst 1, 1) := by decide +kernel
theorem dX8_isEntry_53 : decode cX8_isEntry 53 = .ok (.goto 4, 3) := by decide +kernel
theorem dX8_isEntry_56 : decode cX8_isEntry 56 = .ok (.iconst 0, 1) := by decide +kernel
theorem dX8_isEntry_57 : decode cX8_isEntry 57 = .ok (.ireturn, 1) := by decide +kernel
theorem dX8_keyAt_0 : decode cX8_keyAt 0 = .ok (.aload_n 0, 1) := by decide +kernel
theorem dX8_keyAt_1 : decode cX8_keyAt 1 = .ok (.iload_n 1, 1) := by decide +kernel
theorem dX8_keyAt_2 : decode cX8_keyAt 2 = .ok (.iload_n 2, 1) := by decide +kernel
theorem dX8_keyAt_3 : decode cX8_keyAt 3 = .ok (.iload_n 3, 1) := by decide +kernel
theorem dX8_keyAt_4 : decode cX8_keyAt 4 = .ok (.invokevirtual 168, 3) := by decide +kernel
theorem dX8_keyAt_7 : decode cX8_keyAt 7 = .ok (.ifCond .eq 24, 3) := by decide +kernel
theorem dX8_keyAt_10 : decode cX8_keyAt 10 = .ok (.aload_n 0, 1) := by decide +kernel
theorem dX8_keyAt_11 : decode cX8_keyAt 11 = .ok (.getfield 7, 3) := by decide +kernel
theorem dX8_keyAt_14 : decode cX8_keyAt 14 = .ok (.aload_n 0, 1) := by decide +kernel
theorem dX8_keyAt_15 : decode cX8_keyAt 15 = .ok (.iload_n 1, 1) := by decide +kernel
theorem dX8_keyAt_16 : decode cX8_keyAt 16 = .ok (.invokevirtual 143, 3) := by decide +kernel
theorem dX8_keyAt_19 : decode cX8_keyAt 19 = .ok (.iload_n 2, 1) := by decide +kernel
theorem dX8_keyAt_20 : decode cX8_keyAt 20 = .ok (.iload_n 3, 1) := by decide +kernel
theorem dX8_keyAt_21 : decode cX8_keyAt 21 = .ok (.invokestatic 61, 3) := by decide +kernel
theorem dX8_keyAt_24 : decode cX8_keyAt 24 = .ok (.iaload, 1) := by decide +kernel
theorem dX8_keyAt_25 : decode cX8_keyAt 25 = .ok (.invokestatic 65, 3) := by decide +kernel
theorem dX8_keyAt_28 : decode cX8_keyAt 28 = .ok (.goto 4, 3) := by decide +kernel
theorem dX8_keyAt_31 : decode cX8_keyAt 31 = .ok (.iconst 0, 1) := by decide +kernel
theorem dX8_keyAt_32 : decode cX8_keyAt 32 = .ok (.ireturn, 1) := by decide +kernel
theorem dX8_shown_0 : decode cX8_shown 0 = .ok (.aload_n 0, 1) := by decide +kernel
theorem dX8_shown_1 : decode cX8_shown 1 = .ok (.aload_n 0, 1) := by decide +kernel
theorem dX8_shown_2 : decode cX8_shown 2 = .ok (.iload_n 1, 1) := by decide +kernel
theorem dX8_shown_3 : decode cX8_shown 3 = .ok (.iload_n 2, 1) := by decide +kernel
theorem dX8_shown_4 : decode cX8_shown 4 = .ok (.iload_n 3, 1) := by decide +kernel
theorem dX8_shown_5 : decode cX8_shown 5 = .ok (.invokevirtual 168, 3) := by decide +kernel
theorem dX8_shown_8 : decode cX8_shown 8 = .ok (.ifCond .eq 15, 3) := by decide +kernel
theorem dX8_shown_11 : decode cX8_shown 11 = .ok (.iload 4, 2) := by decide +kernel
theorem dX8_shown_13 : decode cX8_shown 13 = .ok (.invokestatic 112, 3) := by decide +kernel
theorem dX8_shown_16 : decode cX8_shown 16 = .ok (.ifCond .eq 7, 3) := by decide +kernel
theorem dX8_shown_19 : decode cX8_shown 19 = .ok (.iconst 0, 1) := by decide +kernel
theorem dX8_shown_20 : decode cX8_shown 20 = .ok (.goto 4, 3) := by decide +kernel
theorem dX8_shown_23 : decode cX8_shown 23 = .ok (.iconst 1, 1) := by decide +kernel
theorem dX8_shown_24 : decode cX8_shown 24 = .ok (.putfield 53, 3) := by decide +kernel
theorem dX8_shown_27 : decode cX8_shown 27 = .ok (.aload_n 0, 1) := by decide +kernel
theorem dX8_shown_28 : decode cX8_shown 28 = .ok (.getfield 53, 3) := by decide +kernel
theorem dX8_shown_31 : decode cX8_shown 31 = .ok (.ifCond .ne 19, 3) := by decide +kernel
theorem dX8_shown_34 : decode cX8_shown 34 = .ok (.aload_n 0, 1) := by decide +kernel
theorem dX8_shown_35 : decode cX8_shown 35 = .ok (.aload_n 0, 1) := by decide +kernel
theorem dX8_shown_36 : decode cX8_shown 36 = .ok (.iload_n 1, 1) := by decide +kernel
theorem dX8_shown_37 : decode cX8_shown 37 = .ok (.invokevirtual 143, 3) := by decide +kernel
theorem dX8_shown_40 : decode cX8_shown 40 = .ok (.iload_n 2, 1) := by decide +kernel
theorem dX8_shown_41 : decode cX8_shown 41 = .ok (.iload_n 3, 1) := by decide +kernel
theorem dX8_shown_42 : decode cX8_shown 42 = .ok (.iload 4, 2) := by decide +kernel
theorem dX8_shown_44 : decode cX8_shown 44 = .ok (.invokevirtual 156, 3) := by decide +kernel
theorem dX8_shown_47 : decode cX8_shown 47 = .ok (.goto 4, 3) := by decide +kernel
theorem dX8_shown_50 : decode cX8_shown 50 = .ok (.iconst 0, 1) := by decide +kernel
theorem dX8_shown_51 : decode cX8_shown 51 = .ok (.ireturn, 1) := by decide +kernel
theorem dX8_own_0 : decode cX8_own 0 = .ok (.aload_n 0, 1) := by decide +kernel
theorem dX8_own_1 : decode cX8_own 1 = .ok (.iload_n 1, 1) := by decide +kernel
theorem dX8_own_2 : decode cX8_own 2 = .ok (.iload_n 2, 1) := by decide +kernel
theorem dX8_own_3 : decode cX8_own 3 = .ok (.iload_n 3, 1) := by decide +kernel
theorem dX8_own_4 : decode cX8_own 4 = .ok (.invokevirtual 168, 3) := by decide +kernel
theorem dX8_own_7 : decode cX8_own 7 = .ok (.ifCond .ne 5, 3) := by decide +kernel
theorem dX8_own_10 : decode cX8_own 10 = .ok (.iconst 0, 1) := by decide +kernel
theorem dX8_own_11 : decode cX8_own 11 = .ok (.ireturn, 1) := by decide +kernel
theorem dX8_own_12 : decode cX8_own 12 = .ok (.aload_n 0, 1) := by decide +kernel
theorem dX8_own_13 : decode cX8_own 13 = .ok (.getfield 7, 3) := by decide +kernel
theorem dX8_own_16 : decode cX8_own 16 = .ok (.aload_n 0, 1) := by decide +kernel
theorem dX8_own_17 : decode cX8_own 17 = .ok (.iload_n 1, 1) := by decide +kernel
theorem dX8_own_18 : decode cX8_own 18 = .ok (.invokevirtual 143, 3) := by decide +kernel
theorem dX8_own_21 : decode cX8_own 21 = .ok (.iload_n 2, 1) := by decide +kernel
theorem dX8_own_22 : decode cX8_own 22 = .ok (.iload_n 3, 1) := by decide +kernel
theorem dX8_own_23 : decode cX8_own 23 = .ok (.invokestatic 61, 3) := by decide +kernel
theorem dX8_own_26 : decode cX8_own 26 = .ok (.iaload, 1) := by decide +kernel
theorem dX8_own_27 : decode cX8_own 27 = .ok (.istore 4, 2) := by decide +kernel
theorem dX8_own_29 : decode cX8_own 29 = .ok (.sipush 10000, 3) := by decide +kernel
theorem dX8_own_32 : decode cX8_own 32 = .ok (.iload 4, 2) := by decide +kernel
theorem dX8_own_34 : decode cX8_own 34 = .ok (.iconst 0, 1) := by decide +kernel
theorem dX8_own_35 : decode cX8_own 35 = .ok (.invokestatic 115, 3) := by decide +kernel
theorem dX8_own_38 : decode cX8_own 38 = .ok (.imul, 1) := by decide +kernel
theorem dX8_own_39 : decode cX8_own 39 = .ok (.bipush 10, 2) := by decide +kernel
theorem dX8_own_41 : decode cX8_own 41 = .ok (.iload 4, 2) := by decide +kernel
theorem dX8_own_43 : decode cX8_own 43 = .ok (.iconst 1, 1) := by decide +kernel
theorem dX8_own_44 : decode cX8_own 44 = .ok (.invokestatic 115, 3) := by decide +kernel
theorem dX8_own_47 : decode cX8_own 47 = .ok (.imul, 1) := by decide +kernel
theorem dX8_own_48 : decode cX8_own 48 = .ok (.iadd, 1) := by decide +kernel
theorem dX8_own_49 : decode cX8_own 49 = .ok (.iload 4, 2) := by decide +kernel
theorem dX8_own_51 : decode cX8_own 51 = .ok (.invokestatic 121, 3) := by decide +kernel
theorem dX8_own_54 : decode cX8_own 54 = .ok (.iadd, 1) := by decide +kernel
theorem dX8_own_55 : decode cX8_own 55 = .ok (.ireturn, 1) := by decide +kernel
theorem dX8_areThere_0 : decode cX8_areThere 0 = .ok (.aload_n 0, 1) := by decide +kernel
theorem dX8_areThere_1 : decode cX8_areThere 1 = .ok (.aload_n 0, 1) := by decide +kernel
theorem dX8_areThere_2 : decode cX8_areThere 2 = .ok (.iload_n 1, 1) := by decide +kernel
theorem dX8_areThere_3 : decode cX8_areThere 3 = .ok (.invokevirtual 143, 3) := by decide +kernel
theorem dX8_areThere_6 : decode cX8_areThere 6 = .ok (.iconst (-1), 1) := by decide +kernel
theorem dX8_areThere_7 : decode cX8_areThere 7 = .ok (.if_icmp .eq 16, 3) := by decide +kernel
theorem dX8_areThere_10 : decode cX8_areThere 10 = .ok (.aload_n 0, 1) := by decide +kernel
theorem dX8_areThere_11 : decode cX8_areThere 11 = .ok (.iload_n 2, 1) := by decide +kernel
theorem dX8_areThere_12 : decode cX8_areThere 12 = .ok (.invokevirtual 143, 3) := by decide +kernel
theorem dX8_areThere_15 : decode cX8_areThere 15 = .ok (.iconst (-1), 1) := by decide +kernel
theorem dX8_areThere_16 : decode cX8_areThere 16 = .ok (.if_icmp .eq 7, 3) := by decide +kernel
theorem dX8_areThere_19 : decode cX8_areThere 19 = .ok (.iconst 0, 1) := by decide +kernel
theorem dX8_areThere_20 : decode cX8_areThere 20 = .ok (.goto 4, 3) := by decide +kernel
theorem dX8_areThere_23 : decode cX8_areThere 23 = .ok (.iconst 1, 1) := by decide +kernel
theorem dX8_areThere_24 : decode cX8_areThere 24 = .ok (.putfield 53, 3) := by decide +kernel
theorem dX8_areThere_27 : decode cX8_areThere 27 = .ok (.aload_n 0, 1) := by decide +kernel
theorem dX8_areThere_28 : decode cX8_areThere 28 = .ok (.getfield 53, 3) := by decide +kernel
theorem dX8_areThere_31 : decode cX8_areThere 31 = .ok (.ifCond .ne 7, 3) := by decide +kernel
theorem dX8_areThere_34 : decode cX8_areThere 34 = .ok (.iconst 1, 1) := by decide +kernel
theorem dX8_areThere_35 : decode cX8_areThere 35 = .ok (.goto 4, 3) := by decide +kernel
theorem dX8_areThere_38 : decode cX8_areThere 38 = .ok (.iconst 0, 1) := by decide +kernel
theorem dX8_areThere_39 : decode cX8_areThere 39 = .ok (.ireturn, 1) := by decide +kernel
theorem dX8_same_0 : decode cX8_same 0 = .ok (.aload_n 0, 1) := by decide +kernel
theorem dX8_same_1 : decode cX8_same 1 = .ok (.iload_n 1, 1) := by decide +kernel
theorem dX8_same_2 : decode cX8_same 2 = .ok (.iload_n 2, 1) := by decide +kernel
theorem dX8_same_3 : decode cX8_same 3 = .ok (.invokevirtual 171, 3) := by decide +kernel
theorem dX8_same_6 : decode cX8_same 6 = .ok (.ifCond .ne 5, 3) := by decide +kernel
theorem dX8_same_9 : decode cX8_same 9 = .ok (.iconst 0, 1) := by decide +kernel
theorem dX8_same_10 : decode cX8_same 10 = .ok (.ireturn, 1) := by decide +kernel
theorem dX8_same_11 : decode cX8_same 11 = .ok (.aload_n 0, 1) := by decide +kernel
theorem dX8_same_12 : decode cX8_same 12 = .ok (.aload_n 0, 1) := by decide +kernel
theorem dX8_same_13 : decode cX8_same 13 = .ok (.iload_n 1, 1) := by decide +kernel
theorem dX8_same_14 : decode cX8_same 14 = .ok (.invokevirtual 143, 3) := by decide +kernel
theorem dX8_same_17 : decode cX8_same 17 = .ok (.aload_n 0, 1) := by decide +kernel
theorem dX8_same_18 : decode cX8_same 18 = .ok (.iload_n 2, 1) := by decide +kernel
theorem dX8_same_19 : decode cX8_same 19 = .ok (.invokevirtual 143, 3) := by decide +kernel
theorem dX8_same_22 : decode cX8_same 22 = .ok (.invokevirtual 146, 3) := by decide +kernel
theorem dX8_same_25 : decode cX8_same 25 = .ok (.aload_n 0, 1) := by decide +kernel
theorem dX8_same_26 : decode cX8_same 26 = .ok (.getfield 130, 3) := by decide +kernel
theorem dX8_same_29 : decode cX8_same 29 = .ok (.ifCond .ne 7, 3) := by decide +kernel
theorem dX8_same_32 : decode cX8_same 32 = .ok (.iconst 1, 1) := by decide +kernel
theorem dX8_same_33 : decode cX8_same 33 = .ok (.goto 4, 3) := by decide +kernel
theorem dX8_same_36 : decode cX8_same 36 = .ok (.iconst 0, 1) := by decide +kernel
theorem dX8_same_37 : decode cX8_same 37 = .ok (.ireturn, 1) := by decide +kernel
theorem dX8_edits_0 : decode cX8_edits 0 = .ok (.aload_n 0, 1) := by decide +kernel
theorem dX8_edits_1 : decode cX8_edits 1 = .ok (.iload_n 1, 1) := by decide +kernel
theorem dX8_edits_2 : decode cX8_edits 2 = .ok (.iload_n 2, 1) := by decide +kernel
theorem dX8_edits_3 : decode cX8_edits 3 = .ok (.invokevirtual 171, 3) := by decide +kernel
theorem dX8_edits_6 : decode cX8_edits 6 = .ok (.ifCond .ne 5, 3) := by decide +kernel
theorem dX8_edits_9 : decode cX8_edits 9 = .ok (.iconst 0, 1) := by decide +kernel
theorem dX8_edits_10 : decode cX8_edits 10 = .ok (.ireturn, 1) := by decide +kernel
theorem dX8_edits_11 : decode cX8_edits 11 = .ok (.aload_n 0, 1) := by decide +kernel
theorem dX8_edits_12 : decode cX8_edits 12 = .ok (.aload_n 0, 1) := by decide +kernel
theorem dX8_edits_13 : decode cX8_edits 13 = .ok (.iload_n 1, 1) := by decide +kernel
theorem dX8_edits_14 : decode cX8_edits 14 = .ok (.invokevirtual 143, 3) := by decide +kernel
theorem dX8_edits_17 : decode cX8_edits 17 = .ok (.aload_n 0, 1) := by decide +kernel
theorem dX8_edits_18 : decode cX8_edits 18 = .ok (.iload_n 2, 1) := by decide +kernel
theorem dX8_edits_19 : decode cX8_edits 19 = .ok (.invokevirtual 143, 3) := by decide +kernel
theorem dX8_edits_22 : decode cX8_edits 22 = .ok (.invokevirtual 146, 3) := by decide +kernel
theorem dX8_edits_25 : decode cX8_edits 25 = .ok (.aload_n 0, 1) := by decide +kernel
theorem dX8_edits_26 : decode cX8_edits 26 = .ok (.getfield 130, 3) := by decide +kernel
theorem dX8_edits_29 : decode cX8_edits 29 = .ok (.ireturn, 1) := by decide +kernel
theorem dX8_editAt_0 : decode cX8_editAt 0 = .ok (.aload_n 0, 1) := by decide +kernel
theorem dX8_editAt_1 : decode cX8_editAt 1 = .ok (.iload_n 1, 1) := by decide +kernel
theorem dX8_editAt_2 : decode cX8_editAt 2 = .ok (.iload_n 2, 1) := by decide +kernel
theorem dX8_editAt_3 : decode cX8_editAt 3 = .ok (.invokevirtual 171, 3) := by decide +kernel
theorem dX8_editAt_6 : decode cX8_editAt 6 = .ok (.ifCond .ne 5, 3) := by decide +kernel
theorem dX8_editAt_9 : decode cX8_editAt 9 = .ok (.iconst 0, 1) := by decide +kernel
theorem dX8_editAt_10 : decode cX8_editAt 10 = .ok (.ireturn, 1) := by decide +kernel
theorem dX8_editAt_11 : decode cX8_editAt 11 = .ok (.aload_n 0, 1) := by decide +kernel
theorem dX8_editAt_12 : decode cX8_editAt 12 = .ok (.aload_n 0, 1) := by decide +kernel
theorem dX8_editAt_13 : decode cX8_editAt 13 = .ok (.iload_n 1, 1) := by decide +kernel
theorem dX8_editAt_14 : decode cX8_editAt 14 = .ok (.invokevirtual 143, 3) := by decide +kernel
theorem dX8_editAt_17 : decode cX8_editAt 17 = .ok (.aload_n 0, 1) := by decide +kernel
theorem dX8_editAt_18 : decode cX8_editAt 18 = .ok (.iload_n 2, 1) := by decide +kernel
theorem dX8_editAt_19 : decode cX8_editAt 19 = .ok (.invokevirtual 143, 3) := by decide +kernel
theorem dX8_editAt_22 : decode cX8_editAt 22 = .ok (.invokevirtual 146, 3) := by decide +kernel
theorem dX8_editAt_25 : decode cX8_editAt 25 = .ok (.iload_n 3, 1) := by decide +kernel
theorem dX8_editAt_26 : decode cX8_editAt 26 = .ok (.iconst 0, 1) := by decide +kernel
theorem dX8_editAt_27 : decode cX8_editAt 27 = .ok (.aload_n 0, 1) := by decide +kernel
theorem dX8_editAt_28 : decode cX8_editAt 28 = .ok (.getfield 130, 3) := by decide +kernel
theorem dX8_editAt_31 : decode cX8_editAt 31 = .ok (.iconst 1, 1) := by decide +kernel
theorem dX8_editAt_32 : decode cX8_editAt 32 = .ok (.isub, 1) := by decide +kernel
theorem dX8_editAt_33 : decode cX8_editAt 33 = .ok (.invokestatic 77, 3) := by decide +kernel
theorem dX8_editAt_36 : decode cX8_editAt 36 = .ok (.ifCond .ne 9, 3) := by decide +kernel
theorem dX8_editAt_39 : decode cX8_editAt 39 = .ok (.aload_n 0, 1) := by decide +kernel
theorem dX8_editAt_40 : decode cX8_editAt 40 = .ok (.iconst 1, 1) := by decide +kernel
theorem dX8_editAt_41 : decode cX8_editAt 41 = .ok (.invokevirtual 102, 3) := by decide +kernel
theorem dX8_editAt_44 : decode cX8_editAt 44 = .ok (.ireturn, 1) := by decide +kernel
theorem dX8_editAt_45 : decode cX8_editAt 45 = .ok (.aload_n 0, 1) := by decide +kernel
theorem dX8_editAt_46 : decode cX8_editAt 46 = .ok (.getfield 23, 3) := by decide +kernel
theorem dX8_editAt_49 : decode cX8_editAt 49 = .ok (.iload_n 3, 1) := by decide +kernel
theorem dX8_editAt_50 : decode cX8_editAt 50 = .ok (.iaload, 1) := by decide +kernel
theorem dX8_editAt_51 : decode cX8_editAt 51 = .ok (.bipush 7, 2) := by decide +kernel
theorem dX8_editAt_53 : decode cX8_editAt 53 = .ok (.if_icmp .ne 26, 3) := by decide +kernel
theorem dX8_editAt_56 : decode cX8_editAt 56 = .ok (.sipush 900, 3) := by decide +kernel
theorem dX8_editAt_59 : decode cX8_editAt 59 = .ok (.bipush 10, 2) := by decide +kernel
theorem dX8_editAt_61 : decode cX8_editAt 61 = .ok (.aload_n 0, 1) := by decide +kernel
theorem dX8_editAt_62 : decode cX8_editAt 62 = .ok (.getfield 26, 3) := by decide +kernel
theorem dX8_editAt_65 : decode cX8_editAt 65 = .ok (.iload_n 3, 1) := by decide +kernel
theorem dX8_editAt_66 : decode cX8_editAt 66 = .ok (.iaload, 1) := by decide +kernel
theorem dX8_editAt_67 : decode cX8_editAt 67 = .ok (.imul, 1) := by decide +kernel
theorem dX8_editAt_68 : decode cX8_editAt 68 = .ok (.iadd, 1) := by decide +kernel
theorem dX8_editAt_69 : decode cX8_editAt 69 = .ok (.aload_n 0, 1) := by decide +kernel
theorem dX8_editAt_70 : decode cX8_editAt 70 = .ok (.getfield 29, 3) := by decide +kernel
theorem dX8_editAt_73 : decode cX8_editAt 73 = .ok (.iload_n 3, 1) := by decide +kernel
theorem dX8_editAt_74 : decode cX8_editAt 74 = .ok (.iaload, 1) := by decide +kernel
theorem dX8_editAt_75 : decode cX8_editAt 75 = .ok (.iadd, 1) := by decide +kernel
theorem dX8_editAt_76 : decode cX8_editAt 76 = .ok (.goto 29, 3) := by decide +kernel
theorem dX8_editAt_79 : decode cX8_editAt 79 = .ok (.bipush 100, 2) := by decide +kernel
theorem dX8_editAt_81 : decode cX8_editAt 81 = .ok (.aload_n 0, 1) := by decide +kernel
theorem dX8_editAt_82 : decode cX8_editAt 82 = .ok (.getfield 26, 3) := by decide +kernel
theorem dX8_editAt_85 : decode cX8_editAt 85 = .ok (.iload_n 3, 1) := by decide +kernel
theorem dX8_editAt_86 : decode cX8_editAt 86 = .ok (.iaload, 1) := by decide +kernel
theorem dX8_editAt_87 : decode cX8_editAt 87 = .ok (.imul, 1) := by decide +kernel
theorem dX8_editAt_88 : decode cX8_editAt 88 = .ok (.bipush 10, 2) := by decide +kernel
theorem dX8_editAt_90 : decode cX8_editAt 90 = .ok (.aload_n 0, 1) := by decide +kernel
theorem dX8_editAt_91 : decode cX8_editAt 91 = .ok (.getfield 29, 3) := by decide +kernel
theorem dX8_editAt_94 : decode cX8_editAt 94 = .ok (.iload_n 3, 1) := by decide +kernel
theorem dX8_editAt_95 : decode cX8_editAt 95 = .ok (.iaload, 1) := by decide +kernel
theorem dX8_editAt_96 : decode cX8_editAt 96 = .ok (.imul, 1) := by decide +kernel
theorem dX8_editAt_97 : decode cX8_editAt 97 = .ok (.iadd, 1) := by decide +kernel
theorem dX8_editAt_98 : decode cX8_editAt 98 = .ok (.aload_n 0, 1) := by decide +kernel
theorem dX8_editAt_99 : decode cX8_editAt 99 = .ok (.getfield 23, 3) := by decide +kernel
theorem dX8_editAt_102 : decode cX8_editAt 102 = .ok (.iload_n 3, 1) := by decide +kernel
theorem dX8_editAt_103 : decode cX8_editAt 103 = .ok (.iaload, 1) := by decide +kernel
theorem dX8_editAt_104 : decode cX8_editAt 104 = .ok (.iadd, 1) := by decide +kernel
theorem dX8_editAt_105 : decode cX8_editAt 105 = .ok (.ireturn, 1) := by decide +kernel
end
section
theorem dL_open_0 : decode cL_open 0 = .ok (.aload_n 2, 1) := by decide +kernel
theorem dL_open_1 : decode cL_open 1 = .ok (.iconst 0, 1) := by decide +kernel
theorem dL_open_2 : decode cL_open 2 = .ok (.aload_n 0, 1) := by decide +kernel
theorem dL_open_3 : decode cL_open 3 = .ok (.iload_n 1, 1) := by decide +kernel
theorem dL_open_4 : decode cL_open 4 = .ok (.invokevirtual 7, 3) := by decide +kernel
theorem dL_open_7 : decode cL_open 7 = .ok (.i2l, 1) := by decide +kernel
theorem dL_open_8 : decode cL_open 8 = .ok (.lastore, 1) := by decide +kernel
theorem dL_open_9 : decode cL_open 9 = .ok (.goto 6, 3) := by decide +kernel
theorem dL_open_12 : decode cL_open 12 = .ok (.astore_n 3, 1) := by decide +kernel
theorem dL_open_13 : decode cL_open 13 = .ok (.iconst 1, 1) := by decide +kernel
theorem dL_open_14 : decode cL_open 14 = .ok (.ireturn, 1) := by decide +kernel
theorem dL_open_15 : decode cL_open 15 = .ok (.iconst 0, 1) := by decide +kernel
theorem dL_open_16 : decode cL_open 16 = .ok (.ireturn, 1) := by decide +kernel
theorem dL_add_0 : decode cL_add 0 = .ok (.aload 5, 2) := by decide +kernel
theorem dL_add_2 : decode cL_add 2 = .ok (.iconst 0, 1) := by decide +kernel
theorem dL_add_3 : decode cL_add 3 = .ok (.aload_n 0, 1) := by decide +kernel
theorem dL_add_4 : decode cL_add 4 = .ok (.iload_n 1, 1) := by decide +kernel
theorem dL_add_5 : decode cL_add 5 = .ok (.iload_n 2, 1) := by decide +kernel
theorem dL_add_6 : decode cL_add 6 = .ok (.iload_n 3, 1) := by decide +kernel
theorem dL_add_7 : decode cL_add 7 = .ok (.iload 4, 2) := by decide +kernel
theorem dL_add_9 : decode cL_add 9 = .ok (.invokevirtual 15, 3) := by decide +kernel
theorem dL_add_12 : decode cL_add 12 = .ok (.i2l, 1) := by decide +kernel
theorem dL_add_13 : decode cL_add 13 = .ok (.lastore, 1) := by decide +kernel
theorem dL_add_14 : decode cL_add 14 = .ok (.goto 15, 3) := by decide +kernel
theorem dL_add_17 : decode cL_add 17 = .ok (.astore 6, 2) := by decide +kernel
theorem dL_add_19 : decode cL_add 19 = .ok (.iconst 1, 1) := by decide +kernel
theorem dL_add_20 : decode cL_add 20 = .ok (.ireturn, 1) := by decide +kernel
theorem dL_add_21 : decode cL_add 21 = .ok (.astore 6, 2) := by decide +kernel
theorem dL_add_23 : decode cL_add 23 = .ok (.iconst 2, 1) := by decide +kernel
theorem dL_add_24 : decode cL_add 24 = .ok (.ireturn, 1) := by decide +kernel
theorem dL_add_25 : decode cL_add 25 = .ok (.astore 6, 2) := by decide +kernel
theorem dL_add_27 : decode cL_add 27 = .ok (.iconst 3, 1) := by decide +kernel
theorem dL_add_28 : decode cL_add 28 = .ok (.ireturn, 1) := by decide +kernel
theorem dL_add_29 : decode cL_add 29 = .ok (.iconst 0, 1) := by decide +kernel
theorem dL_add_30 : decode cL_add 30 = .ok (.ireturn, 1) := by decide +kernel
theorem dL_remove_0 : decode cL_remove 0 = .ok (.aload 4, 2) := by decide +kernel
theorem dL_remove_2 : decode cL_remove 2 = .ok (.iconst 0, 1) := by decide +kernel
theorem dL_remove_3 : decode cL_remove 3 = .ok (.aload_n 0, 1) := by decide +kernel
theorem dL_remove_4 : decode cL_remove 4 = .ok (.iload_n 1, 1) := by decide +kernel
theorem dL_remove_5 : decode cL_remove 5 = .ok (.iload_n 2, 1) := by decide +kernel
theorem dL_remove_6 : decode cL_remove 6 = .ok (.iload_n 3, 1) := by decide +kernel
theorem dL_remove_7 : decode cL_remove 7 = .ok (.invokevirtual 23, 3) := by decide +kernel
theorem dL_remove_10 : decode cL_remove 10 = .ok (.i2l, 1) := by decide +kernel
theorem dL_remove_11 : decode cL_remove 11 = .ok (.lastore, 1) := by decide +kernel
theorem dL_remove_12 : decode cL_remove 12 = .ok (.goto 11, 3) := by decide +kernel
theorem dL_remove_15 : decode cL_remove 15 = .ok (.astore 5, 2) := by decide +kernel
theorem dL_remove_17 : decode cL_remove 17 = .ok (.iconst 1, 1) := by decide +kernel
theorem dL_remove_18 : decode cL_remove 18 = .ok (.ireturn, 1) := by decide +kernel
theorem dL_remove_19 : decode cL_remove 19 = .ok (.astore 5, 2) := by decide +kernel
theorem dL_remove_21 : decode cL_remove 21 = .ok (.iconst 2, 1) := by decide +kernel
theorem dL_remove_22 : decode cL_remove 22 = .ok (.ireturn, 1) := by decide +kernel
theorem dL_remove_23 : decode cL_remove 23 = .ok (.iconst 0, 1) := by decide +kernel
theorem dL_remove_24 : decode cL_remove 24 = .ok (.ireturn, 1) := by decide +kernel
theorem dL_move_0 : decode cL_move 0 = .ok (.aload 5, 2) := by decide +kernel
theorem dL_move_2 : decode cL_move 2 = .ok (.iconst 0, 1) := by decide +kernel
theorem dL_move_3 : decode cL_move 3 = .ok (.aload_n 0, 1) := by decide +kernel
theorem dL_move_4 : decode cL_move 4 = .ok (.iload_n 1, 1) := by decide +kernel
theorem dL_move_5 : decode cL_move 5 = .ok (.iload_n 2, 1) := by decide +kernel
theorem dL_move_6 : decode cL_move 6 = .ok (.iload_n 3, 1) := by decide +kernel
theorem dL_move_7 : decode cL_move 7 = .ok (.iload 4, 2) := by decide +kernel
theorem dL_move_9 : decode cL_move 9 = .ok (.invokevirtual 27, 3) := by decide +kernel
theorem dL_move_12 : decode cL_move 12 = .ok (.i2l, 1) := by decide +kernel
theorem dL_move_13 : decode cL_move 13 = .ok (.lastore, 1) := by decide +kernel
theorem dL_move_14 : decode cL_move 14 = .ok (.goto 15, 3) := by decide +kernel
theorem dL_move_17 : decode cL_move 17 = .ok (.astore 6, 2) := by decide +kernel
theorem dL_move_19 : decode cL_move 19 = .ok (.iconst 1, 1) := by decide +kernel
theorem dL_move_20 : decode cL_move 20 = .ok (.ireturn, 1) := by decide +kernel
theorem dL_move_21 : decode cL_move 21 = .ok (.astore 6, 2) := by decide +kernel
theorem dL_move_23 : decode cL_move 23 = .ok (.iconst 2, 1) := by decide +kernel
theorem dL_move_24 : decode cL_move 24 = .ok (.ireturn, 1) := by decide +kernel
theorem dL_move_25 : decode cL_move 25 = .ok (.astore 6, 2) := by decide +kernel
theorem dL_move_27 : decode cL_move 27 = .ok (.iconst 3, 1) := by decide +kernel
theorem dL_move_28 : decode cL_move 28 = .ok (.ireturn, 1) := by decide +kernel
theorem dL_move_29 : decode cL_move 29 = .ok (.iconst 0, 1) := by decide +kernel
theorem dL_move_30 : decode cL_move 30 = .ok (.ireturn, 1) := by decide +kernel
theorem dL_set_0 : decode cL_set 0 = .ok (.aload 6, 2) := by decide +kernel
theorem dL_set_2 : decode cL_set 2 = .ok (.iconst 0, 1) := by decide +kernel
theorem dL_set_3 : decode cL_set 3 = .ok (.aload_n 0, 1) := by decide +kernel
theorem dL_set_4 : decode cL_set 4 = .ok (.iload_n 1, 1) := by decide +kernel
theorem dL_set_5 : decode cL_set 5 = .ok (.iload_n 2, 1) := by decide +kernel
theorem dL_set_6 : decode cL_set 6 = .ok (.iload_n 3, 1) := by decide +kernel
theorem dL_set_7 : decode cL_set 7 = .ok (.iload 4, 2) := by decide +kernel
theorem dL_set_9 : decode cL_set 9 = .ok (.iload 5, 2) := by decide +kernel
theorem dL_set_11 : decode cL_set 11 = .ok (.invokevirtual 30, 3) := by decide +kernel
theorem dL_set_14 : decode cL_set 14 = .ok (.i2l, 1) := by decide +kernel
theorem dL_set_15 : decode cL_set 15 = .ok (.lastore, 1) := by decide +kernel
theorem dL_set_16 : decode cL_set 16 = .ok (.goto 15, 3) := by decide +kernel
theorem dL_set_19 : decode cL_set 19 = .ok (.astore 7, 2) := by decide +kernel
theorem dL_set_21 : decode cL_set 21 = .ok (.iconst 1, 1) := by decide +kernel
theorem dL_set_22 : decode cL_set 22 = .ok (.ireturn, 1) := by decide +kernel
theorem dL_set_23 : decode cL_set 23 = .ok (.astore 7, 2) := by decide +kernel
theorem dL_set_25 : decode cL_set 25 = .ok (.iconst 2, 1) := by decide +kernel
theorem dL_set_26 : decode cL_set 26 = .ok (.ireturn, 1) := by decide +kernel
theorem dL_set_27 : decode cL_set 27 = .ok (.astore 7, 2) := by decide +kernel
theorem dL_set_29 : decode cL_set 29 = .ok (.iconst 3, 1) := by decide +kernel
theorem dL_set_30 : decode cL_set 30 = .ok (.ireturn, 1) := by decide +kernel
theorem dL_set_31 : decode cL_set 31 = .ok (.iconst 0, 1) := by decide +kernel
theorem dL_set_32 : decode cL_set 32 = .ok (.ireturn, 1) := by decide +kernel
theorem dL_join_0 : decode cL_join 0 = .ok (.aload 5, 2) := by decide +kernel
theorem dL_join_2 : decode cL_join 2 = .ok (.iconst 0, 1) := by decide +kernel
theorem dL_join_3 : decode cL_join 3 = .ok (.aload_n 0, 1) := by decide +kernel
theorem dL_join_4 : decode cL_join 4 = .ok (.iload_n 1, 1) := by decide +kernel
theorem dL_join_5 : decode cL_join 5 = .ok (.iload_n 2, 1) := by decide +kernel
theorem dL_join_6 : decode cL_join 6 = .ok (.iload_n 3, 1) := by decide +kernel
theorem dL_join_7 : decode cL_join 7 = .ok (.iload 4, 2) := by decide +kernel
theorem dL_join_9 : decode cL_join 9 = .ok (.invokevirtual 34, 3) := by decide +kernel
theorem dL_join_12 : decode cL_join 12 = .ok (.i2l, 1) := by decide +kernel
theorem dL_join_13 : decode cL_join 13 = .ok (.lastore, 1) := by decide +kernel
theorem dL_join_14 : decode cL_join 14 = .ok (.goto 15, 3) := by decide +kernel
theorem dL_join_17 : decode cL_join 17 = .ok (.astore 6, 2) := by decide +kernel
theorem dL_join_19 : decode cL_join 19 = .ok (.iconst 1, 1) := by decide +kernel
theorem dL_join_20 : decode cL_join 20 = .ok (.ireturn, 1) := by decide +kernel
theorem dL_join_21 : decode cL_join 21 = .ok (.astore 6, 2) := by decide +kernel
theorem dL_join_23 : decode cL_join 23 = .ok (.iconst 2, 1) := by decide +kernel
theorem dL_join_24 : decode cL_join 24 = .ok (.ireturn, 1) := by decide +kernel
theorem dL_join_25 : decode cL_join 25 = .ok (.astore 6, 2) := by decide +kernel
theorem dL_join_27 : decode cL_join 27 = .ok (.iconst 3, 1) := by decide +kernel
theorem dL_join_28 : decode cL_join 28 = .ok (.ireturn, 1) := by decide +kernel
theorem dL_join_29 : decode cL_join 29 = .ok (.iconst 0, 1) := by decide +kernel
theorem dL_join_30 : decode cL_join 30 = .ok (.ireturn, 1) := by decide +kernel
theorem dL_setGroup_0 : decode cL_setGroup 0 = .ok (.aload 5, 2) := by decide +kernel
theorem dL_setGroup_2 : decode cL_setGroup 2 = .ok (.iconst 0, 1) := by decide +kernel
theorem dL_setGroup_3 : decode cL_setGroup 3 = .ok (.aload_n 0, 1) := by decide +kernel
theorem dL_setGroup_4 : decode cL_setGroup 4 = .ok (.iload_n 1, 1) := by decide +kernel
theorem dL_setGroup_5 : decode cL_setGroup 5 = .ok (.iload_n 2, 1) := by decide +kernel
theorem dL_setGroup_6 : decode cL_setGroup 6 = .ok (.iload_n 3, 1) := by decide +kernel
theorem dL_setGroup_7 : decode cL_setGroup 7 = .ok (.iload 4, 2) := by decide +kernel
theorem dL_setGroup_9 : decode cL_setGroup 9 = .ok (.invokevirtual 37, 3) := by decide +kernel
theorem dL_setGroup_12 : decode cL_setGroup 12 = .ok (.i2l, 1) := by decide +kernel
theorem dL_setGroup_13 : decode cL_setGroup 13 = .ok (.lastore, 1) := by decide +kernel
theorem dL_setGroup_14 : decode cL_setGroup 14 = .ok (.goto 15, 3) := by decide +kernel
theorem dL_setGroup_17 : decode cL_setGroup 17 = .ok (.astore 6, 2) := by decide +kernel
theorem dL_setGroup_19 : decode cL_setGroup 19 = .ok (.iconst 1, 1) := by decide +kernel
theorem dL_setGroup_20 : decode cL_setGroup 20 = .ok (.ireturn, 1) := by decide +kernel
theorem dL_setGroup_21 : decode cL_setGroup 21 = .ok (.astore 6, 2) := by decide +kernel
theorem dL_setGroup_23 : decode cL_setGroup 23 = .ok (.iconst 2, 1) := by decide +kernel
theorem dL_setGroup_24 : decode cL_setGroup 24 = .ok (.ireturn, 1) := by decide +kernel
theorem dL_setGroup_25 : decode cL_setGroup 25 = .ok (.astore 6, 2) := by decide +kernel
theorem dL_setGroup_27 : decode cL_setGroup 27 = .ok (.iconst 3, 1) := by decide +kernel
theorem dL_setGroup_28 : decode cL_setGroup 28 = .ok (.ireturn, 1) := by decide +kernel
theorem dL_setGroup_29 : decode cL_setGroup 29 = .ok (.iconst 0, 1) := by decide +kernel
theorem dL_setGroup_30 : decode cL_setGroup 30 = .ok (.ireturn, 1) := by decide +kernel
theorem dL_load_0 : decode cL_load 0 = .ok (.aload_n 0, 1) := by decide +kernel
theorem dL_load_1 : decode cL_load 1 = .ok (.iload_n 1, 1) := by decide +kernel
theorem dL_load_2 : decode cL_load 2 = .ok (.iload_n 2, 1) := by decide +kernel
theorem dL_load_3 : decode cL_load 3 = .ok (.invokevirtual 40, 3) := by decide +kernel
theorem dL_load_6 : decode cL_load 6 = .ok (.goto 9, 3) := by decide +kernel
theorem dL_load_9 : decode cL_load 9 = .ok (.astore_n 3, 1) := by decide +kernel
theorem dL_load_10 : decode cL_load 10 = .ok (.iconst 1, 1) := by decide +kernel
theorem dL_load_11 : decode cL_load 11 = .ok (.ireturn, 1) := by decide +kernel
theorem dL_load_12 : decode cL_load 12 = .ok (.astore_n 3, 1) := by decide +kernel
theorem dL_load_13 : decode cL_load 13 = .ok (.iconst 2, 1) := by decide +kernel
theorem dL_load_14 : decode cL_load 14 = .ok (.ireturn, 1) := by decide +kernel
theorem dL_load_15 : decode cL_load 15 = .ok (.iconst 0, 1) := by decide +kernel
theorem dL_load_16 : decode cL_load 16 = .ok (.ireturn, 1) := by decide +kernel
theorem dL_apply_0 : decode cL_apply 0 = .ok (.aload 5, 2) := by decide +kernel
theorem dL_apply_2 : decode cL_apply 2 = .ok (.iconst 0, 1) := by decide +kernel
theorem dL_apply_3 : decode cL_apply 3 = .ok (.aload_n 0, 1) := by decide +kernel
theorem dL_apply_4 : decode cL_apply 4 = .ok (.iload_n 1, 1) := by decide +kernel
theorem dL_apply_5 : decode cL_apply 5 = .ok (.iload_n 2, 1) := by decide +kernel
theorem dL_apply_6 : decode cL_apply 6 = .ok (.iload_n 3, 1) := by decide +kernel
theorem dL_apply_7 : decode cL_apply 7 = .ok (.iload 4, 2) := by decide +kernel
theorem dL_apply_9 : decode cL_apply 9 = .ok (.invokevirtual 44, 3) := by decide +kernel
theorem dL_apply_12 : decode cL_apply 12 = .ok (.i2l, 1) := by decide +kernel
theorem dL_apply_13 : decode cL_apply 13 = .ok (.lastore, 1) := by decide +kernel
theorem dL_apply_14 : decode cL_apply 14 = .ok (.goto 11, 3) := by decide +kernel
theorem dL_apply_17 : decode cL_apply 17 = .ok (.astore 6, 2) := by decide +kernel
theorem dL_apply_19 : decode cL_apply 19 = .ok (.iconst 1, 1) := by decide +kernel
theorem dL_apply_20 : decode cL_apply 20 = .ok (.ireturn, 1) := by decide +kernel
theorem dL_apply_21 : decode cL_apply 21 = .ok (.astore 6, 2) := by decide +kernel
theorem dL_apply_23 : decode cL_apply 23 = .ok (.iconst 2, 1) := by decide +kernel
theorem dL_apply_24 : decode cL_apply 24 = .ok (.ireturn, 1) := by decide +kernel
theorem dL_apply_25 : decode cL_apply 25 = .ok (.iconst 0, 1) := by decide +kernel
theorem dL_apply_26 : decode cL_apply 26 = .ok (.ireturn, 1) := by decide +kernel
theorem dL_rule_0 : decode cL_rule 0 = .ok (.aload 5, 2) := by decide +kernel
theorem dL_rule_2 : decode cL_rule 2 = .ok (.iconst 0, 1) := by decide +kernel
theorem dL_rule_3 : decode cL_rule 3 = .ok (.aload_n 0, 1) := by decide +kernel
theorem dL_rule_4 : decode cL_rule 4 = .ok (.iload_n 1, 1) := by decide +kernel
theorem dL_rule_5 : decode cL_rule 5 = .ok (.iload_n 2, 1) := by decide +kernel
theorem dL_rule_6 : decode cL_rule 6 = .ok (.iload_n 3, 1) := by decide +kernel
theorem dL_rule_7 : decode cL_rule 7 = .ok (.iload 4, 2) := by decide +kernel
theorem dL_rule_9 : decode cL_rule 9 = .ok (.invokevirtual 48, 3) := by decide +kernel
theorem dL_rule_12 : decode cL_rule 12 = .ok (.i2l, 1) := by decide +kernel
theorem dL_rule_13 : decode cL_rule 13 = .ok (.lastore, 1) := by decide +kernel
theorem dL_rule_14 : decode cL_rule 14 = .ok (.goto 15, 3) := by decide +kernel
theorem dL_rule_17 : decode cL_rule 17 = .ok (.astore 6, 2) := by decide +kernel
theorem dL_rule_19 : decode cL_rule 19 = .ok (.iconst 1, 1) := by decide +kernel
theorem dL_rule_20 : decode cL_rule 20 = .ok (.ireturn, 1) := by decide +kernel
theorem dL_rule_21 : decode cL_rule 21 = .ok (.astore 6, 2) := by decide +kernel
theorem dL_rule_23 : decode cL_rule 23 = .ok (.iconst 2, 1) := by decide +kernel
theorem dL_rule_24 : decode cL_rule 24 = .ok (.ireturn, 1) := by decide +kernel
theorem dL_rule_25 : decode cL_rule 25 = .ok (.astore 6, 2) := by decide +kernel
theorem dL_rule_27 : decode cL_rule 27 = .ok (.iconst 3, 1) := by decide +kernel
theorem dL_rule_28 : decode cL_rule 28 = .ok (.ireturn, 1) := by decide +kernel
theorem dL_rule_29 : decode cL_rule 29 = .ok (.iconst 0, 1) := by decide +kernel
theorem dL_rule_30 : decode cL_rule 30 = .ok (.ireturn, 1) := by decide +kernel
theorem dL_faults_0 : decode cL_faults 0 = .ok (.aload_n 2, 1) := by decide +kernel
theorem dL_faults_1 : decode cL_faults 1 = .ok (.iconst 0, 1) := by decide +kernel
theorem dL_faults_2 : decode cL_faults 2 = .ok (.aload_n 0, 1) := by decide +kernel
theorem dL_faults_3 : decode cL_faults 3 = .ok (.iload_n 1, 1) := by decide +kernel
theorem dL_faults_4 : decode cL_faults 4 = .ok (.invokevirtual 51, 3) := by decide +kernel
theorem dL_faults_7 : decode cL_faults 7 = .ok (.i2l, 1) := by decide +kernel
theorem dL_faults_8 : decode cL_faults 8 = .ok (.lastore, 1) := by decide +kernel
theorem dL_faults_9 : decode cL_faults 9 = .ok (.goto 6, 3) := by decide +kernel
theorem dL_faults_12 : decode cL_faults 12 = .ok (.astore_n 3, 1) := by decide +kernel
theorem dL_faults_13 : decode cL_faults 13 = .ok (.iconst 1, 1) := by decide +kernel
theorem dL_faults_14 : decode cL_faults 14 = .ok (.ireturn, 1) := by decide +kernel
theorem dL_faults_15 : decode cL_faults 15 = .ok (.iconst 0, 1) := by decide +kernel
theorem dL_faults_16 : decode cL_faults 16 = .ok (.ireturn, 1) := by decide +kernel
theorem dL_commit_0 : decode cL_commit 0 = .ok (.aload_n 3, 1) := by decide +kernel
theorem dL_commit_1 : decode cL_commit 1 = .ok (.iconst 0, 1) := by decide +kernel
theorem dL_commit_2 : decode cL_commit 2 = .ok (.aload_n 0, 1) := by decide +kernel
theorem dL_commit_3 : decode cL_commit 3 = .ok (.iload_n 1, 1) := by decide +kernel
theorem dL_commit_4 : decode cL_commit 4 = .ok (.iload_n 2, 1) := by decide +kernel
theorem dL_commit_5 : decode cL_commit 5 = .ok (.invokevirtual 54, 3) := by decide +kernel
theorem dL_commit_8 : decode cL_commit 8 = .ok (.i2l, 1) := by decide +kernel
theorem dL_commit_9 : decode cL_commit 9 = .ok (.lastore, 1) := by decide +kernel
theorem dL_commit_10 : decode cL_commit 10 = .ok (.goto 15, 3) := by decide +kernel
theorem dL_commit_13 : decode cL_commit 13 = .ok (.astore 4, 2) := by decide +kernel
theorem dL_commit_15 : decode cL_commit 15 = .ok (.iconst 1, 1) := by decide +kernel
theorem dL_commit_16 : decode cL_commit 16 = .ok (.ireturn, 1) := by decide +kernel
theorem dL_commit_17 : decode cL_commit 17 = .ok (.astore 4, 2) := by decide +kernel
theorem dL_commit_19 : decode cL_commit 19 = .ok (.iconst 2, 1) := by decide +kernel
theorem dL_commit_20 : decode cL_commit 20 = .ok (.ireturn, 1) := by decide +kernel
theorem dL_commit_21 : decode cL_commit 21 = .ok (.astore 4, 2) := by decide +kernel
theorem dL_commit_23 : decode cL_commit 23 = .ok (.iconst 3, 1) := by decide +kernel
theorem dL_commit_24 : decode cL_commit 24 = .ok (.ireturn, 1) := by decide +kernel
theorem dL_commit_25 : decode cL_commit 25 = .ok (.iconst 0, 1) := by decide +kernel
theorem dL_commit_26 : decode cL_commit 26 = .ok (.ireturn, 1) := by decide +kernel
theorem dL_confirm_0 : decode cL_confirm 0 = .ok (.aload_n 1, 1) := by decide +kernel
theorem dL_confirm_1 : decode cL_confirm 1 = .ok (.iconst 0, 1) := by decide +kernel
theorem dL_confirm_2 : decode cL_confirm 2 = .ok (.aload_n 0, 1) := by decide +kernel
theorem dL_confirm_3 : decode cL_confirm 3 = .ok (.invokevirtual 58, 3) := by decide +kernel
theorem dL_confirm_6 : decode cL_confirm 6 = .ok (.i2l, 1) := by decide +kernel
theorem dL_confirm_7 : decode cL_confirm 7 = .ok (.lastore, 1) := by decide +kernel
theorem dL_confirm_8 : decode cL_confirm 8 = .ok (.goto 6, 3) := by decide +kernel
theorem dL_confirm_11 : decode cL_confirm 11 = .ok (.astore_n 2, 1) := by decide +kernel
theorem dL_confirm_12 : decode cL_confirm 12 = .ok (.iconst 1, 1) := by decide +kernel
theorem dL_confirm_13 : decode cL_confirm 13 = .ok (.ireturn, 1) := by decide +kernel
theorem dL_confirm_14 : decode cL_confirm 14 = .ok (.iconst 0, 1) := by decide +kernel
theorem dL_confirm_15 : decode cL_confirm 15 = .ok (.ireturn, 1) := by decide +kernel
theorem dL_advance_0 : decode cL_advance 0 = .ok (.aload_n 2, 1) := by decide +kernel
theorem dL_advance_1 : decode cL_advance 1 = .ok (.iconst 0, 1) := by decide +kernel
theorem dL_advance_2 : decode cL_advance 2 = .ok (.aload_n 0, 1) := by decide +kernel
theorem dL_advance_3 : decode cL_advance 3 = .ok (.iload_n 1, 1) := by decide +kernel
theorem dL_advance_4 : decode cL_advance 4 = .ok (.invokevirtual 62, 3) := by decide +kernel
theorem dL_advance_7 : decode cL_advance 7 = .ok (.i2l, 1) := by decide +kernel
theorem dL_advance_8 : decode cL_advance 8 = .ok (.lastore, 1) := by decide +kernel
theorem dL_advance_9 : decode cL_advance 9 = .ok (.goto 6, 3) := by decide +kernel
theorem dL_advance_12 : decode cL_advance 12 = .ok (.astore_n 3, 1) := by decide +kernel
theorem dL_advance_13 : decode cL_advance 13 = .ok (.iconst 1, 1) := by decide +kernel
theorem dL_advance_14 : decode cL_advance 14 = .ok (.ireturn, 1) := by decide +kernel
theorem dL_advance_15 : decode cL_advance 15 = .ok (.iconst 0, 1) := by decide +kernel
theorem dL_advance_16 : decode cL_advance 16 = .ok (.ireturn, 1) := by decide +kernel
theorem dL_size_0 : decode cL_size 0 = .ok (.aload_n 3, 1) := by decide +kernel
theorem dL_size_1 : decode cL_size 1 = .ok (.iconst 0, 1) := by decide +kernel
theorem dL_size_2 : decode cL_size 2 = .ok (.aload_n 0, 1) := by decide +kernel
theorem dL_size_3 : decode cL_size 3 = .ok (.iload_n 1, 1) := by decide +kernel
theorem dL_size_4 : decode cL_size 4 = .ok (.iload_n 2, 1) := by decide +kernel
theorem dL_size_5 : decode cL_size 5 = .ok (.invokevirtual 65, 3) := by decide +kernel
theorem dL_size_8 : decode cL_size 8 = .ok (.i2l, 1) := by decide +kernel
theorem dL_size_9 : decode cL_size 9 = .ok (.lastore, 1) := by decide +kernel
theorem dL_size_10 : decode cL_size 10 = .ok (.goto 7, 3) := by decide +kernel
theorem dL_size_13 : decode cL_size 13 = .ok (.astore 4, 2) := by decide +kernel
theorem dL_size_15 : decode cL_size 15 = .ok (.iconst 1, 1) := by decide +kernel
theorem dL_size_16 : decode cL_size 16 = .ok (.ireturn, 1) := by decide +kernel
theorem dL_size_17 : decode cL_size 17 = .ok (.iconst 0, 1) := by decide +kernel
theorem dL_size_18 : decode cL_size 18 = .ok (.ireturn, 1) := by decide +kernel
theorem dL_keyAt_0 : decode cL_keyAt 0 = .ok (.aload 4, 2) := by decide +kernel
theorem dL_keyAt_2 : decode cL_keyAt 2 = .ok (.iconst 0, 1) := by decide +kernel
theorem dL_keyAt_3 : decode cL_keyAt 3 = .ok (.aload_n 0, 1) := by decide +kernel
theorem dL_keyAt_4 : decode cL_keyAt 4 = .ok (.iload_n 1, 1) := by decide +kernel
theorem dL_keyAt_5 : decode cL_keyAt 5 = .ok (.iload_n 2, 1) := by decide +kernel
theorem dL_keyAt_6 : decode cL_keyAt 6 = .ok (.iload_n 3, 1) := by decide +kernel
theorem dL_keyAt_7 : decode cL_keyAt 7 = .ok (.invokevirtual 68, 3) := by decide +kernel
theorem dL_keyAt_10 : decode cL_keyAt 10 = .ok (.i2l, 1) := by decide +kernel
theorem dL_keyAt_11 : decode cL_keyAt 11 = .ok (.lastore, 1) := by decide +kernel
theorem dL_keyAt_12 : decode cL_keyAt 12 = .ok (.goto 7, 3) := by decide +kernel
theorem dL_keyAt_15 : decode cL_keyAt 15 = .ok (.astore 5, 2) := by decide +kernel
theorem dL_keyAt_17 : decode cL_keyAt 17 = .ok (.iconst 1, 1) := by decide +kernel
theorem dL_keyAt_18 : decode cL_keyAt 18 = .ok (.ireturn, 1) := by decide +kernel
theorem dL_keyAt_19 : decode cL_keyAt 19 = .ok (.iconst 0, 1) := by decide +kernel
theorem dL_keyAt_20 : decode cL_keyAt 20 = .ok (.ireturn, 1) := by decide +kernel
theorem dL_shown_0 : decode cL_shown 0 = .ok (.aload 5, 2) := by decide +kernel
theorem dL_shown_2 : decode cL_shown 2 = .ok (.iconst 0, 1) := by decide +kernel
theorem dL_shown_3 : decode cL_shown 3 = .ok (.aload_n 0, 1) := by decide +kernel
theorem dL_shown_4 : decode cL_shown 4 = .ok (.iload_n 1, 1) := by decide +kernel
theorem dL_shown_5 : decode cL_shown 5 = .ok (.iload_n 2, 1) := by decide +kernel
theorem dL_shown_6 : decode cL_shown 6 = .ok (.iload_n 3, 1) := by decide +kernel
theorem dL_shown_7 : decode cL_shown 7 = .ok (.iload 4, 2) := by decide +kernel
theorem dL_shown_9 : decode cL_shown 9 = .ok (.invokevirtual 71, 3) := by decide +kernel
theorem dL_shown_12 : decode cL_shown 12 = .ok (.i2l, 1) := by decide +kernel
theorem dL_shown_13 : decode cL_shown 13 = .ok (.lastore, 1) := by decide +kernel
theorem dL_shown_14 : decode cL_shown 14 = .ok (.goto 7, 3) := by decide +kernel
theorem dL_shown_17 : decode cL_shown 17 = .ok (.astore 6, 2) := by decide +kernel
theorem dL_shown_19 : decode cL_shown 19 = .ok (.iconst 1, 1) := by decide +kernel
theorem dL_shown_20 : decode cL_shown 20 = .ok (.ireturn, 1) := by decide +kernel
theorem dL_shown_21 : decode cL_shown 21 = .ok (.iconst 0, 1) := by decide +kernel
theorem dL_shown_22 : decode cL_shown 22 = .ok (.ireturn, 1) := by decide +kernel
theorem dL_own_0 : decode cL_own 0 = .ok (.aload 4, 2) := by decide +kernel
theorem dL_own_2 : decode cL_own 2 = .ok (.iconst 0, 1) := by decide +kernel
theorem dL_own_3 : decode cL_own 3 = .ok (.aload_n 0, 1) := by decide +kernel
theorem dL_own_4 : decode cL_own 4 = .ok (.iload_n 1, 1) := by decide +kernel
theorem dL_own_5 : decode cL_own 5 = .ok (.iload_n 2, 1) := by decide +kernel
theorem dL_own_6 : decode cL_own 6 = .ok (.iload_n 3, 1) := by decide +kernel
theorem dL_own_7 : decode cL_own 7 = .ok (.invokevirtual 74, 3) := by decide +kernel
theorem dL_own_10 : decode cL_own 10 = .ok (.i2l, 1) := by decide +kernel
theorem dL_own_11 : decode cL_own 11 = .ok (.lastore, 1) := by decide +kernel
theorem dL_own_12 : decode cL_own 12 = .ok (.goto 7, 3) := by decide +kernel
theorem dL_own_15 : decode cL_own 15 = .ok (.astore 5, 2) := by decide +kernel
theorem dL_own_17 : decode cL_own 17 = .ok (.iconst 1, 1) := by decide +kernel
theorem dL_own_18 : decode cL_own 18 = .ok (.ireturn, 1) := by decide +kernel
theorem dL_own_19 : decode cL_own 19 = .ok (.iconst 0, 1) := by decide +kernel
theorem dL_own_20 : decode cL_own 20 = .ok (.ireturn, 1) := by decide +kernel
theorem dL_same_0 : decode cL_same 0 = .ok (.aload_n 3, 1) := by decide +kernel
theorem dL_same_1 : decode cL_same 1 = .ok (.iconst 0, 1) := by decide +kernel
theorem dL_same_2 : decode cL_same 2 = .ok (.aload_n 0, 1) := by decide +kernel
theorem dL_same_3 : decode cL_same 3 = .ok (.iload_n 1, 1) := by decide +kernel
theorem dL_same_4 : decode cL_same 4 = .ok (.iload_n 2, 1) := by decide +kernel
theorem dL_same_5 : decode cL_same 5 = .ok (.invokevirtual 77, 3) := by decide +kernel
theorem dL_same_8 : decode cL_same 8 = .ok (.ifCond .eq 7, 3) := by decide +kernel
theorem dL_same_11 : decode cL_same 11 = .ok (.lconst 1, 1) := by decide +kernel
theorem dL_same_12 : decode cL_same 12 = .ok (.goto 4, 3) := by decide +kernel
theorem dL_same_15 : decode cL_same 15 = .ok (.lconst 0, 1) := by decide +kernel
theorem dL_same_16 : decode cL_same 16 = .ok (.lastore, 1) := by decide +kernel
theorem dL_same_17 : decode cL_same 17 = .ok (.goto 7, 3) := by decide +kernel
theorem dL_same_20 : decode cL_same 20 = .ok (.astore 4, 2) := by decide +kernel
theorem dL_same_22 : decode cL_same 22 = .ok (.iconst 1, 1) := by decide +kernel
theorem dL_same_23 : decode cL_same 23 = .ok (.ireturn, 1) := by decide +kernel
theorem dL_same_24 : decode cL_same 24 = .ok (.iconst 0, 1) := by decide +kernel
theorem dL_same_25 : decode cL_same 25 = .ok (.ireturn, 1) := by decide +kernel
theorem dL_edits_0 : decode cL_edits 0 = .ok (.aload_n 3, 1) := by decide +kernel
theorem dL_edits_1 : decode cL_edits 1 = .ok (.iconst 0, 1) := by decide +kernel
theorem dL_edits_2 : decode cL_edits 2 = .ok (.aload_n 0, 1) := by decide +kernel
theorem dL_edits_3 : decode cL_edits 3 = .ok (.iload_n 1, 1) := by decide +kernel
theorem dL_edits_4 : decode cL_edits 4 = .ok (.iload_n 2, 1) := by decide +kernel
theorem dL_edits_5 : decode cL_edits 5 = .ok (.invokevirtual 81, 3) := by decide +kernel
theorem dL_edits_8 : decode cL_edits 8 = .ok (.i2l, 1) := by decide +kernel
theorem dL_edits_9 : decode cL_edits 9 = .ok (.lastore, 1) := by decide +kernel
theorem dL_edits_10 : decode cL_edits 10 = .ok (.goto 7, 3) := by decide +kernel
theorem dL_edits_13 : decode cL_edits 13 = .ok (.astore 4, 2) := by decide +kernel
theorem dL_edits_15 : decode cL_edits 15 = .ok (.iconst 1, 1) := by decide +kernel
theorem dL_edits_16 : decode cL_edits 16 = .ok (.ireturn, 1) := by decide +kernel
theorem dL_edits_17 : decode cL_edits 17 = .ok (.iconst 0, 1) := by decide +kernel
theorem dL_edits_18 : decode cL_edits 18 = .ok (.ireturn, 1) := by decide +kernel
theorem dL_editAt_0 : decode cL_editAt 0 = .ok (.aload 4, 2) := by decide +kernel
theorem dL_editAt_2 : decode cL_editAt 2 = .ok (.iconst 0, 1) := by decide +kernel
theorem dL_editAt_3 : decode cL_editAt 3 = .ok (.aload_n 0, 1) := by decide +kernel
theorem dL_editAt_4 : decode cL_editAt 4 = .ok (.iload_n 1, 1) := by decide +kernel
theorem dL_editAt_5 : decode cL_editAt 5 = .ok (.iload_n 2, 1) := by decide +kernel
theorem dL_editAt_6 : decode cL_editAt 6 = .ok (.iload_n 3, 1) := by decide +kernel
theorem dL_editAt_7 : decode cL_editAt 7 = .ok (.invokevirtual 84, 3) := by decide +kernel
theorem dL_editAt_10 : decode cL_editAt 10 = .ok (.i2l, 1) := by decide +kernel
theorem dL_editAt_11 : decode cL_editAt 11 = .ok (.lastore, 1) := by decide +kernel
theorem dL_editAt_12 : decode cL_editAt 12 = .ok (.goto 7, 3) := by decide +kernel
theorem dL_editAt_15 : decode cL_editAt 15 = .ok (.astore 5, 2) := by decide +kernel
theorem dL_editAt_17 : decode cL_editAt 17 = .ok (.iconst 1, 1) := by decide +kernel
theorem dL_editAt_18 : decode cL_editAt 18 = .ok (.ireturn, 1) := by decide +kernel
theorem dL_editAt_19 : decode cL_editAt 19 = .ok (.iconst 0, 1) := by decide +kernel
theorem dL_editAt_20 : decode cL_editAt 20 = .ok (.ireturn, 1) := by decide +kernel
end
section
theorem dL_law_0 : decode cL_law 0 = .ok (.new 8, 3) := by decide +kernel
theorem dL_law_3 : decode cL_law 3 = .ok (.dup, 1) := by decide +kernel
theorem dL_law_4 : decode cL_law 4 = .ok (.invokespecial 87, 3) := by decide +kernel
theorem dL_law_7 : decode cL_law 7 = .ok (.astore_n 1, 1) := by decide +kernel
theorem dL_law_8 : decode cL_law 8 = .ok (.new 88, 3) := by decide +kernel
theorem dL_law_11 : decode cL_law 11 = .ok (.dup, 1) := by decide +kernel
theorem dL_law_12 : decode cL_law 12 = .ok (.invokespecial 90, 3) := by decide +kernel
theorem dL_law_15 : decode cL_law 15 = .ok (.astore_n 2, 1) := by decide +kernel
theorem dL_law_16 : decode cL_law 16 = .ok (.iconst 1, 1) := by decide +kernel
theorem dL_law_17 : decode cL_law 17 = .ok (.newarray .long, 2) := by decide +kernel
theorem dL_law_19 : decode cL_law 19 = .ok (.astore_n 3, 1) := by decide +kernel
theorem dL_law_20 : decode cL_law 20 = .ok (.iconst 0, 1) := by decide +kernel
theorem dL_law_21 : decode cL_law 21 = .ok (.istore 4, 2) := by decide +kernel
theorem dL_law_23 : decode cL_law 23 = .ok (.iload 4, 2) := by decide +kernel
theorem dL_law_25 : decode cL_law 25 = .ok (.aload_n 0, 1) := by decide +kernel
theorem dL_law_26 : decode cL_law 26 = .ok (.arraylength, 1) := by decide +kernel
theorem dL_law_27 : decode cL_law 27 = .ok (.bipush 6, 2) := by decide +kernel
theorem dL_law_29 : decode cL_law 29 = .ok (.isub, 1) := by decide +kernel
theorem dL_law_30 : decode cL_law 30 = .ok (.if_icmp .gt 1773, 3) := by decide +kernel
theorem dL_law_33 : decode cL_law 33 = .ok (.aload_n 0, 1) := by decide +kernel
theorem dL_law_34 : decode cL_law 34 = .ok (.iload 4, 2) := by decide +kernel
theorem dL_law_36 : decode cL_law 36 = .ok (.iaload, 1) := by decide +kernel
theorem dL_law_37 : decode cL_law 37 = .ok (.bipush 31, 2) := by decide +kernel
theorem dL_law_39 : decode cL_law 39 = .ok (.iand, 1) := by decide +kernel
theorem dL_law_40 : decode cL_law 40 = .ok (.tableswitch 1757 0 22 #[108, 164, 256, 336, 428, 532, 624, 716, 764, 872, 964, 1020, 1088, 1132, 1188, 1201, 1214, 1282, 1362, 1454, 1534, 1609, 1677], 108) := by decide +kernel
theorem dL_law_148 : decode cL_law 148 = .ok (.aload_n 1, 1) := by decide +kernel
theorem dL_law_149 : decode cL_law 149 = .ok (.aload_n 0, 1) := by decide +kernel
theorem dL_law_150 : decode cL_law 150 = .ok (.iload 4, 2) := by decide +kernel
theorem dL_law_152 : decode cL_law 152 = .ok (.iconst 1, 1) := by decide +kernel
theorem dL_law_153 : decode cL_law 153 = .ok (.iadd, 1) := by decide +kernel
theorem dL_law_154 : decode cL_law 154 = .ok (.iaload, 1) := by decide +kernel
theorem dL_law_155 : decode cL_law 155 = .ok (.aload_n 3, 1) := by decide +kernel
theorem dL_law_156 : decode cL_law 156 = .ok (.invokestatic 91, 3) := by decide +kernel
theorem dL_law_159 : decode cL_law 159 = .ok (.istore 5, 2) := by decide +kernel
theorem dL_law_161 : decode cL_law 161 = .ok (.aload_n 2, 1) := by decide +kernel
theorem dL_law_162 : decode cL_law 162 = .ok (.aload_n 0, 1) := by decide +kernel
theorem dL_law_163 : decode cL_law 163 = .ok (.iload 4, 2) := by decide +kernel
theorem dL_law_165 : decode cL_law 165 = .ok (.iconst 1, 1) := by decide +kernel
theorem dL_law_166 : decode cL_law 166 = .ok (.iadd, 1) := by decide +kernel
theorem dL_law_167 : decode cL_law 167 = .ok (.iaload, 1) := by decide +kernel
theorem dL_law_168 : decode cL_law 168 = .ok (.invokevirtual 96, 3) := by decide +kernel
theorem dL_law_171 : decode cL_law 171 = .ok (.istore 6, 2) := by decide +kernel
theorem dL_law_173 : decode cL_law 173 = .ok (.aload_n 2, 1) := by decide +kernel
theorem dL_law_174 : decode cL_law 174 = .ok (.invokevirtual 97, 3) := by decide +kernel
theorem dL_law_177 : decode cL_law 177 = .ok (.iload 5, 2) := by decide +kernel
theorem dL_law_179 : decode cL_law 179 = .ok (.if_icmp .eq 5, 3) := by decide +kernel
theorem dL_law_182 : decode cL_law 182 = .ok (.iconst 0, 1) := by decide +kernel
theorem dL_law_183 : decode cL_law 183 = .ok (.ireturn, 1) := by decide +kernel
theorem dL_law_184 : decode cL_law 184 = .ok (.iload 5, 2) := by decide +kernel
theorem dL_law_186 : decode cL_law 186 = .ok (.ifCond .ne 15, 3) := by decide +kernel
theorem dL_law_189 : decode cL_law 189 = .ok (.aload_n 3, 1) := by decide +kernel
theorem dL_law_190 : decode cL_law 190 = .ok (.iconst 0, 1) := by decide +kernel
theorem dL_law_191 : decode cL_law 191 = .ok (.laload, 1) := by decide +kernel
theorem dL_law_192 : decode cL_law 192 = .ok (.iload 6, 2) := by decide +kernel
theorem dL_law_194 : decode cL_law 194 = .ok (.i2l, 1) := by decide +kernel
theorem dL_law_195 : decode cL_law 195 = .ok (.lcmp, 1) := by decide +kernel
theorem dL_law_196 : decode cL_law 196 = .ok (.ifCond .eq 5, 3) := by decide +kernel
theorem dL_law_199 : decode cL_law 199 = .ok (.iconst 0, 1) := by decide +kernel
theorem dL_law_200 : decode cL_law 200 = .ok (.ireturn, 1) := by decide +kernel
theorem dL_law_201 : decode cL_law 201 = .ok (.goto 1596, 3) := by decide +kernel
theorem dL_law_204 : decode cL_law 204 = .ok (.aload_n 1, 1) := by decide +kernel
theorem dL_law_205 : decode cL_law 205 = .ok (.aload_n 0, 1) := by decide +kernel
theorem dL_law_206 : decode cL_law 206 = .ok (.iload 4, 2) := by decide +kernel
theorem dL_law_208 : decode cL_law 208 = .ok (.iconst 1, 1) := by decide +kernel
theorem dL_law_209 : decode cL_law 209 = .ok (.iadd, 1) := by decide +kernel
theorem dL_law_210 : decode cL_law 210 = .ok (.iaload, 1) := by decide +kernel
theorem dL_law_211 : decode cL_law 211 = .ok (.aload_n 0, 1) := by decide +kernel
theorem dL_law_212 : decode cL_law 212 = .ok (.iload 4, 2) := by decide +kernel
theorem dL_law_214 : decode cL_law 214 = .ok (.iconst 2, 1) := by decide +kernel
theorem dL_law_215 : decode cL_law 215 = .ok (.iadd, 1) := by decide +kernel
theorem dL_law_216 : decode cL_law 216 = .ok (.iaload, 1) := by decide +kernel
theorem dL_law_217 : decode cL_law 217 = .ok (.aload_n 0, 1) := by decide +kernel
theorem dL_law_218 : decode cL_law 218 = .ok (.iload 4, 2) := by decide +kernel
theorem dL_law_220 : decode cL_law 220 = .ok (.iconst 3, 1) := by decide +kernel
theorem dL_law_221 : decode cL_law 221 = .ok (.iadd, 1) := by decide +kernel
theorem dL_law_222 : decode cL_law 222 = .ok (.iaload, 1) := by decide +kernel
theorem dL_law_223 : decode cL_law 223 = .ok (.aload_n 0, 1) := by decide +kernel
theorem dL_law_224 : decode cL_law 224 = .ok (.iload 4, 2) := by decide +kernel
theorem dL_law_226 : decode cL_law 226 = .ok (.iconst 4, 1) := by decide +kernel
theorem dL_law_227 : decode cL_law 227 = .ok (.iadd, 1) := by decide +kernel
theorem dL_law_228 : decode cL_law 228 = .ok (.iaload, 1) := by decide +kernel
theorem dL_law_229 : decode cL_law 229 = .ok (.aload_n 3, 1) := by decide +kernel
theorem dL_law_230 : decode cL_law 230 = .ok (.invokestatic 100, 3) := by decide +kernel
theorem dL_law_233 : decode cL_law 233 = .ok (.istore 5, 2) := by decide +kernel
theorem dL_law_235 : decode cL_law 235 = .ok (.aload_n 2, 1) := by decide +kernel
theorem dL_law_236 : decode cL_law 236 = .ok (.aload_n 0, 1) := by decide +kernel
theorem dL_law_237 : decode cL_law 237 = .ok (.iload 4, 2) := by decide +kernel
theorem dL_law_239 : decode cL_law 239 = .ok (.iconst 1, 1) := by decide +kernel
theorem dL_law_240 : decode cL_law 240 = .ok (.iadd, 1) := by decide +kernel
theorem dL_law_241 : decode cL_law 241 = .ok (.iaload, 1) := by decide +kernel
theorem dL_law_242 : decode cL_law 242 = .ok (.aload_n 0, 1) := by decide +kernel
theorem dL_law_243 : decode cL_law 243 = .ok (.iload 4, 2) := by decide +kernel
theorem dL_law_245 : decode cL_law 245 = .ok (.iconst 2, 1) := by decide +kernel
theorem dL_law_246 : decode cL_law 246 = .ok (.iadd, 1) := by decide +kernel
theorem dL_law_247 : decode cL_law 247 = .ok (.iaload, 1) := by decide +kernel
theorem dL_law_248 : decode cL_law 248 = .ok (.aload_n 0, 1) := by decide +kernel
theorem dL_law_249 : decode cL_law 249 = .ok (.iload 4, 2) := by decide +kernel
theorem dL_law_251 : decode cL_law 251 = .ok (.iconst 3, 1) := by decide +kernel
theorem dL_law_252 : decode cL_law 252 = .ok (.iadd, 1) := by decide +kernel
theorem dL_law_253 : decode cL_law 253 = .ok (.iaload, 1) := by decide +kernel
theorem dL_law_254 : decode cL_law 254 = .ok (.aload_n 0, 1) := by decide +kernel
theorem dL_law_255 : decode cL_law 255 = .ok (.iload 4, 2) := by decide +kernel
theorem dL_law_257 : decode cL_law 257 = .ok (.iconst 4, 1) := by decide +kernel
theorem dL_law_258 : decode cL_law 258 = .ok (.iadd, 1) := by decide +kernel
theorem dL_law_259 : decode cL_law 259 = .ok (.iaload, 1) := by decide +kernel
theorem dL_law_260 : decode cL_law 260 = .ok (.invokevirtual 103, 3) := by decide +kernel
theorem dL_law_263 : decode cL_law 263 = .ok (.istore 6, 2) := by decide +kernel
theorem dL_law_265 : decode cL_law 265 = .ok (.aload_n 2, 1) := by decide +kernel
theorem dL_law_266 : decode cL_law 266 = .ok (.invokevirtual 97, 3) := by decide +kernel
theorem dL_law_269 : decode cL_law 269 = .ok (.iload 5, 2) := by decide +kernel
theorem dL_law_271 : decode cL_law 271 = .ok (.if_icmp .eq 5, 3) := by decide +kernel
theorem dL_law_274 : decode cL_law 274 = .ok (.iconst 0, 1) := by decide +kernel
theorem dL_law_275 : decode cL_law 275 = .ok (.ireturn, 1) := by decide +kernel
theorem dL_law_276 : decode cL_law 276 = .ok (.iload 5, 2) := by decide +kernel
theorem dL_law_278 : decode cL_law 278 = .ok (.ifCond .ne 15, 3) := by decide +kernel
theorem dL_law_281 : decode cL_law 281 = .ok (.aload_n 3, 1) := by decide +kernel
theorem dL_law_282 : decode cL_law 282 = .ok (.iconst 0, 1) := by decide +kernel
theorem dL_law_283 : decode cL_law 283 = .ok (.laload, 1) := by decide +kernel
theorem dL_law_284 : decode cL_law 284 = .ok (.iload 6, 2) := by decide +kernel
theorem dL_law_286 : decode cL_law 286 = .ok (.i2l, 1) := by decide +kernel
theorem dL_law_287 : decode cL_law 287 = .ok (.lcmp, 1) := by decide +kernel
theorem dL_law_288 : decode cL_law 288 = .ok (.ifCond .eq 5, 3) := by decide +kernel
theorem dL_law_291 : decode cL_law 291 = .ok (.iconst 0, 1) := by decide +kernel
theorem dL_law_292 : decode cL_law 292 = .ok (.ireturn, 1) := by decide +kernel
theorem dL_law_293 : decode cL_law 293 = .ok (.goto 1504, 3) := by decide +kernel
theorem dL_law_296 : decode cL_law 296 = .ok (.aload_n 1, 1) := by decide +kernel
theorem dL_law_297 : decode cL_law 297 = .ok (.aload_n 0, 1) := by decide +kernel
theorem dL_law_298 : decode cL_law 298 = .ok (.iload 4, 2) := by decide +kernel
theorem dL_law_300 : decode cL_law 300 = .ok (.iconst 1, 1) := by decide +kernel
theorem dL_law_301 : decode cL_law 301 = .ok (.iadd, 1) := by decide +kernel
theorem dL_law_302 : decode cL_law 302 = .ok (.iaload, 1) := by decide +kernel
theorem dL_law_303 : decode cL_law 303 = .ok (.aload_n 0, 1) := by decide +kernel
theorem dL_law_304 : decode cL_law 304 = .ok (.iload 4, 2) := by decide +kernel
theorem dL_law_306 : decode cL_law 306 = .ok (.iconst 2, 1) := by decide +kernel
theorem dL_law_307 : decode cL_law 307 = .ok (.iadd, 1) := by decide +kernel
theorem dL_law_308 : decode cL_law 308 = .ok (.iaload, 1) := by decide +kernel
theorem dL_law_309 : decode cL_law 309 = .ok (.aload_n 0, 1) := by decide +kernel
theorem dL_law_310 : decode cL_law 310 = .ok (.iload 4, 2) := by decide +kernel
theorem dL_law_312 : decode cL_law 312 = .ok (.iconst 3, 1) := by decide +kernel
theorem dL_law_313 : decode cL_law 313 = .ok (.iadd, 1) := by decide +kernel
theorem dL_law_314 : decode cL_law 314 = .ok (.iaload, 1) := by decide +kernel
theorem dL_law_315 : decode cL_law 315 = .ok (.aload_n 3, 1) := by decide +kernel
theorem dL_law_316 : decode cL_law 316 = .ok (.invokestatic 104, 3) := by decide +kernel
theorem dL_law_319 : decode cL_law 319 = .ok (.istore 5, 2) := by decide +kernel
theorem dL_law_321 : decode cL_law 321 = .ok (.aload_n 2, 1) := by decide +kernel
theorem dL_law_322 : decode cL_law 322 = .ok (.aload_n 0, 1) := by decide +kernel
theorem dL_law_323 : decode cL_law 323 = .ok (.iload 4, 2) := by decide +kernel
theorem dL_law_325 : decode cL_law 325 = .ok (.iconst 1, 1) := by decide +kernel
theorem dL_law_326 : decode cL_law 326 = .ok (.iadd, 1) := by decide +kernel
theorem dL_law_327 : decode cL_law 327 = .ok (.iaload, 1) := by decide +kernel
theorem dL_law_328 : decode cL_law 328 = .ok (.aload_n 0, 1) := by decide +kernel
theorem dL_law_329 : decode cL_law 329 = .ok (.iload 4, 2) := by decide +kernel
theorem dL_law_331 : decode cL_law 331 = .ok (.iconst 2, 1) := by decide +kernel
theorem dL_law_332 : decode cL_law 332 = .ok (.iadd, 1) := by decide +kernel
theorem dL_law_333 : decode cL_law 333 = .ok (.iaload, 1) := by decide +kernel
theorem dL_law_334 : decode cL_law 334 = .ok (.aload_n 0, 1) := by decide +kernel
theorem dL_law_335 : decode cL_law 335 = .ok (.iload 4, 2) := by decide +kernel
theorem dL_law_337 : decode cL_law 337 = .ok (.iconst 3, 1) := by decide +kernel
theorem dL_law_338 : decode cL_law 338 = .ok (.iadd, 1) := by decide +kernel
theorem dL_law_339 : decode cL_law 339 = .ok (.iaload, 1) := by decide +kernel
theorem dL_law_340 : decode cL_law 340 = .ok (.invokevirtual 107, 3) := by decide +kernel
theorem dL_law_343 : decode cL_law 343 = .ok (.istore 6, 2) := by decide +kernel
theorem dL_law_345 : decode cL_law 345 = .ok (.aload_n 2, 1) := by decide +kernel
theorem dL_law_346 : decode cL_law 346 = .ok (.invokevirtual 97, 3) := by decide +kernel
theorem dL_law_349 : decode cL_law 349 = .ok (.iload 5, 2) := by decide +kernel
theorem dL_law_351 : decode cL_law 351 = .ok (.if_icmp .eq 5, 3) := by decide +kernel
theorem dL_law_354 : decode cL_law 354 = .ok (.iconst 0, 1) := by decide +kernel
theorem dL_law_355 : decode cL_law 355 = .ok (.ireturn, 1) := by decide +kernel
theorem dL_law_356 : decode cL_law 356 = .ok (.iload 5, 2) := by decide +kernel
theorem dL_law_358 : decode cL_law 358 = .ok (.ifCond .ne 15, 3) := by decide +kernel
theorem dL_law_361 : decode cL_law 361 = .ok (.aload_n 3, 1) := by decide +kernel
theorem dL_law_362 : decode cL_law 362 = .ok (.iconst 0, 1) := by decide +kernel
theorem dL_law_363 : decode cL_law 363 = .ok (.laload, 1) := by decide +kernel
theorem dL_law_364 : decode cL_law 364 = .ok (.iload 6, 2) := by decide +kernel
theorem dL_law_366 : decode cL_law 366 = .ok (.i2l, 1) := by decide +kernel
theorem dL_law_367 : decode cL_law 367 = .ok (.lcmp, 1) := by decide +kernel
theorem dL_law_368 : decode cL_law 368 = .ok (.ifCond .eq 5, 3) := by decide +kernel
theorem dL_law_371 : decode cL_law 371 = .ok (.iconst 0, 1) := by decide +kernel
theorem dL_law_372 : decode cL_law 372 = .ok (.ireturn, 1) := by decide +kernel
theorem dL_law_373 : decode cL_law 373 = .ok (.goto 1424, 3) := by decide +kernel
theorem dL_law_376 : decode cL_law 376 = .ok (.aload_n 1, 1) := by decide +kernel
theorem dL_law_377 : decode cL_law 377 = .ok (.aload_n 0, 1) := by decide +kernel
theorem dL_law_378 : decode cL_law 378 = .ok (.iload 4, 2) := by decide +kernel
theorem dL_law_380 : decode cL_law 380 = .ok (.iconst 1, 1) := by decide +kernel
theorem dL_law_381 : decode cL_law 381 = .ok (.iadd, 1) := by decide +kernel
theorem dL_law_382 : decode cL_law 382 = .ok (.iaload, 1) := by decide +kernel
theorem dL_law_383 : decode cL_law 383 = .ok (.aload_n 0, 1) := by decide +kernel
theorem dL_law_384 : decode cL_law 384 = .ok (.iload 4, 2) := by decide +kernel
theorem dL_law_386 : decode cL_law 386 = .ok (.iconst 2, 1) := by decide +kernel
theorem dL_law_387 : decode cL_law 387 = .ok (.iadd, 1) := by decide +kernel
theorem dL_law_388 : decode cL_law 388 = .ok (.iaload, 1) := by decide +kernel
theorem dL_law_389 : decode cL_law 389 = .ok (.aload_n 0, 1) := by decide +kernel
theorem dL_law_390 : decode cL_law 390 = .ok (.iload 4, 2) := by decide +kernel
theorem dL_law_392 : decode cL_law 392 = .ok (.iconst 3, 1) := by decide +kernel
theorem dL_law_393 : decode cL_law 393 = .ok (.iadd, 1) := by decide +kernel
theorem dL_law_394 : decode cL_law 394 = .ok (.iaload, 1) := by decide +kernel
theorem dL_law_395 : decode cL_law 395 = .ok (.aload_n 0, 1) := by decide +kernel
theorem dL_law_396 : decode cL_law 396 = .ok (.iload 4, 2) := by decide +kernel
theorem dL_law_398 : decode cL_law 398 = .ok (.iconst 4, 1) := by decide +kernel
theorem dL_law_399 : decode cL_law 399 = .ok (.iadd, 1) := by decide +kernel
theorem dL_law_400 : decode cL_law 400 = .ok (.iaload, 1) := by decide +kernel
theorem dL_law_401 : decode cL_law 401 = .ok (.aload_n 3, 1) := by decide +kernel
theorem dL_law_402 : decode cL_law 402 = .ok (.invokestatic 108, 3) := by decide +kernel
theorem dL_law_405 : decode cL_law 405 = .ok (.istore 5, 2) := by decide +kernel
theorem dL_law_407 : decode cL_law 407 = .ok (.aload_n 2, 1) := by decide +kernel
theorem dL_law_408 : decode cL_law 408 = .ok (.aload_n 0, 1) := by decide +kernel
theorem dL_law_409 : decode cL_law 409 = .ok (.iload 4, 2) := by decide +kernel
theorem dL_law_411 : decode cL_law 411 = .ok (.iconst 1, 1) := by decide +kernel
theorem dL_law_412 : decode cL_law 412 = .ok (.iadd, 1) := by decide +kernel
theorem dL_law_413 : decode cL_law 413 = .ok (.iaload, 1) := by decide +kernel
theorem dL_law_414 : decode cL_law 414 = .ok (.aload_n 0, 1) := by decide +kernel
theorem dL_law_415 : decode cL_law 415 = .ok (.iload 4, 2) := by decide +kernel
theorem dL_law_417 : decode cL_law 417 = .ok (.iconst 2, 1) := by decide +kernel
theorem dL_law_418 : decode cL_law 418 = .ok (.iadd, 1) := by decide +kernel
theorem dL_law_419 : decode cL_law 419 = .ok (.iaload, 1) := by decide +kernel
theorem dL_law_420 : decode cL_law 420 = .ok (.aload_n 0, 1) := by decide +kernel
theorem dL_law_421 : decode cL_law 421 = .ok (.iload 4, 2) := by decide +kernel
theorem dL_law_423 : decode cL_law 423 = .ok (.iconst 3, 1) := by decide +kernel
theorem dL_law_424 : decode cL_law 424 = .ok (.iadd, 1) := by decide +kernel
theorem dL_law_425 : decode cL_law 425 = .ok (.iaload, 1) := by decide +kernel
theorem dL_law_426 : decode cL_law 426 = .ok (.aload_n 0, 1) := by decide +kernel
theorem dL_law_427 : decode cL_law 427 = .ok (.iload 4, 2) := by decide +kernel
theorem dL_law_429 : decode cL_law 429 = .ok (.iconst 4, 1) := by decide +kernel
theorem dL_law_430 : decode cL_law 430 = .ok (.iadd, 1) := by decide +kernel
theorem dL_law_431 : decode cL_law 431 = .ok (.iaload, 1) := by decide +kernel
theorem dL_law_432 : decode cL_law 432 = .ok (.invokevirtual 110, 3) := by decide +kernel
theorem dL_law_435 : decode cL_law 435 = .ok (.istore 6, 2) := by decide +kernel
theorem dL_law_437 : decode cL_law 437 = .ok (.aload_n 2, 1) := by decide +kernel
theorem dL_law_438 : decode cL_law 438 = .ok (.invokevirtual 97, 3) := by decide +kernel
theorem dL_law_441 : decode cL_law 441 = .ok (.iload 5, 2) := by decide +kernel
theorem dL_law_443 : decode cL_law 443 = .ok (.if_icmp .eq 5, 3) := by decide +kernel
theorem dL_law_446 : decode cL_law 446 = .ok (.iconst 0, 1) := by decide +kernel
theorem dL_law_447 : decode cL_law 447 = .ok (.ireturn, 1) := by decide +kernel
theorem dL_law_448 : decode cL_law 448 = .ok (.iload 5, 2) := by decide +kernel
theorem dL_law_450 : decode cL_law 450 = .ok (.ifCond .ne 15, 3) := by decide +kernel
theorem dL_law_453 : decode cL_law 453 = .ok (.aload_n 3, 1) := by decide +kernel
theorem dL_law_454 : decode cL_law 454 = .ok (.iconst 0, 1) := by decide +kernel
theorem dL_law_455 : decode cL_law 455 = .ok (.laload, 1) := by decide +kernel
theorem dL_law_456 : decode cL_law 456 = .ok (.iload 6, 2) := by decide +kernel
theorem dL_law_458 : decode cL_law 458 = .ok (.i2l, 1) := by decide +kernel
theorem dL_law_459 : decode cL_law 459 = .ok (.lcmp, 1) := by decide +kernel
theorem dL_law_460 : decode cL_law 460 = .ok (.ifCond .eq 5, 3) := by decide +kernel
theorem dL_law_463 : decode cL_law 463 = .ok (.iconst 0, 1) := by decide +kernel
theorem dL_law_464 : decode cL_law 464 = .ok (.ireturn, 1) := by decide +kernel
theorem dL_law_465 : decode cL_law 465 = .ok (.goto 1332, 3) := by decide +kernel
theorem dL_law_468 : decode cL_law 468 = .ok (.aload_n 1, 1) := by decide +kernel
theorem dL_law_469 : decode cL_law 469 = .ok (.aload_n 0, 1) := by decide +kernel
theorem dL_law_470 : decode cL_law 470 = .ok (.iload 4, 2) := by decide +kernel
theorem dL_law_472 : decode cL_law 472 = .ok (.iconst 1, 1) := by decide +kernel
theorem dL_law_473 : decode cL_law 473 = .ok (.iadd, 1) := by decide +kernel
theorem dL_law_474 : decode cL_law 474 = .ok (.iaload, 1) := by decide +kernel
theorem dL_law_475 : decode cL_law 475 = .ok (.aload_n 0, 1) := by decide +kernel
theorem dL_law_476 : decode cL_law 476 = .ok (.iload 4, 2) := by decide +kernel
theorem dL_law_478 : decode cL_law 478 = .ok (.iconst 2, 1) := by decide +kernel
theorem dL_law_479 : decode cL_law 479 = .ok (.iadd, 1) := by decide +kernel
theorem dL_law_480 : decode cL_law 480 = .ok (.iaload, 1) := by decide +kernel
theorem dL_law_481 : decode cL_law 481 = .ok (.aload_n 0, 1) := by decide +kernel
theorem dL_law_482 : decode cL_law 482 = .ok (.iload 4, 2) := by decide +kernel
theorem dL_law_484 : decode cL_law 484 = .ok (.iconst 3, 1) := by decide +kernel
theorem dL_law_485 : decode cL_law 485 = .ok (.iadd, 1) := by decide +kernel
theorem dL_law_486 : decode cL_law 486 = .ok (.iaload, 1) := by decide +kernel
theorem dL_law_487 : decode cL_law 487 = .ok (.aload_n 0, 1) := by decide +kernel
theorem dL_law_488 : decode cL_law 488 = .ok (.iload 4, 2) := by decide +kernel
theorem dL_law_490 : decode cL_law 490 = .ok (.iconst 4, 1) := by decide +kernel
theorem dL_law_491 : decode cL_law 491 = .ok (.iadd, 1) := by decide +kernel
theorem dL_law_492 : decode cL_law 492 = .ok (.iaload, 1) := by decide +kernel
theorem dL_law_493 : decode cL_law 493 = .ok (.aload_n 0, 1) := by decide +kernel
theorem dL_law_494 : decode cL_law 494 = .ok (.iload 4, 2) := by decide +kernel
theorem dL_law_496 : decode cL_law 496 = .ok (.iconst 5, 1) := by decide +kernel
theorem dL_law_497 : decode cL_law 497 = .ok (.iadd, 1) := by decide +kernel
theorem dL_law_498 : decode cL_law 498 = .ok (.iaload, 1) := by decide +kernel
theorem dL_law_499 : decode cL_law 499 = .ok (.aload_n 3, 1) := by decide +kernel
theorem dL_law_500 : decode cL_law 500 = .ok (.invokestatic 111, 3) := by decide +kernel
theorem dL_law_503 : decode cL_law 503 = .ok (.istore 5, 2) := by decide +kernel
theorem dL_law_505 : decode cL_law 505 = .ok (.aload_n 2, 1) := by decide +kernel
theorem dL_law_506 : decode cL_law 506 = .ok (.aload_n 0, 1) := by decide +kernel
theorem dL_law_507 : decode cL_law 507 = .ok (.iload 4, 2) := by decide +kernel
theorem dL_law_509 : decode cL_law 509 = .ok (.iconst 1, 1) := by decide +kernel
theorem dL_law_510 : decode cL_law 510 = .ok (.iadd, 1) := by decide +kernel
theorem dL_law_511 : decode cL_law 511 = .ok (.iaload, 1) := by decide +kernel
theorem dL_law_512 : decode cL_law 512 = .ok (.aload_n 0, 1) := by decide +kernel
theorem dL_law_513 : decode cL_law 513 = .ok (.iload 4, 2) := by decide +kernel
theorem dL_law_515 : decode cL_law 515 = .ok (.iconst 2, 1) := by decide +kernel
theorem dL_law_516 : decode cL_law 516 = .ok (.iadd, 1) := by decide +kernel
theorem dL_law_517 : decode cL_law 517 = .ok (.iaload, 1) := by decide +kernel
theorem dL_law_518 : decode cL_law 518 = .ok (.aload_n 0, 1) := by decide +kernel
theorem dL_law_519 : decode cL_law 519 = .ok (.iload 4, 2) := by decide +kernel
theorem dL_law_521 : decode cL_law 521 = .ok (.iconst 3, 1) := by decide +kernel
theorem dL_law_522 : decode cL_law 522 = .ok (.iadd, 1) := by decide +kernel
theorem dL_law_523 : decode cL_law 523 = .ok (.iaload, 1) := by decide +kernel
theorem dL_law_524 : decode cL_law 524 = .ok (.aload_n 0, 1) := by decide +kernel
theorem dL_law_525 : decode cL_law 525 = .ok (.iload 4, 2) := by decide +kernel
theorem dL_law_527 : decode cL_law 527 = .ok (.iconst 4, 1) := by decide +kernel
theorem dL_law_528 : decode cL_law 528 = .ok (.iadd, 1) := by decide +kernel
theorem dL_law_529 : decode cL_law 529 = .ok (.iaload, 1) := by decide +kernel
theorem dL_law_530 : decode cL_law 530 = .ok (.aload_n 0, 1) := by decide +kernel
theorem dL_law_531 : decode cL_law 531 = .ok (.iload 4, 2) := by decide +kernel
theorem dL_law_533 : decode cL_law 533 = .ok (.iconst 5, 1) := by decide +kernel
theorem dL_law_534 : decode cL_law 534 = .ok (.iadd, 1) := by decide +kernel
theorem dL_law_535 : decode cL_law 535 = .ok (.iaload, 1) := by decide +kernel
theorem dL_law_536 : decode cL_law 536 = .ok (.invokevirtual 114, 3) := by decide +kernel
theorem dL_law_539 : decode cL_law 539 = .ok (.istore 6, 2) := by decide +kernel
theorem dL_law_541 : decode cL_law 541 = .ok (.aload_n 2, 1) := by decide +kernel
theorem dL_law_542 : decode cL_law 542 = .ok (.invokevirtual 97, 3) := by decide +kernel
theorem dL_law_545 : decode cL_law 545 = .ok (.iload 5, 2) := by decide +kernel
theorem dL_law_547 : decode cL_law 547 = .ok (.if_icmp .eq 5, 3) := by decide +kernel
theorem dL_law_550 : decode cL_law 550 = .ok (.iconst 0, 1) := by decide +kernel
theorem dL_law_551 : decode cL_law 551 = .ok (.ireturn, 1) := by decide +kernel
theorem dL_law_552 : decode cL_law 552 = .ok (.iload 5, 2) := by decide +kernel
theorem dL_law_554 : decode cL_law 554 = .ok (.ifCond .ne 15, 3) := by decide +kernel
theorem dL_law_557 : decode cL_law 557 = .ok (.aload_n 3, 1) := by decide +kernel
theorem dL_law_558 : decode cL_law 558 = .ok (.iconst 0, 1) := by decide +kernel
theorem dL_law_559 : decode cL_law 559 = .ok (.laload, 1) := by decide +kernel
theorem dL_law_560 : decode cL_law 560 = .ok (.iload 6, 2) := by decide +kernel
theorem dL_law_562 : decode cL_law 562 = .ok (.i2l, 1) := by decide +kernel
theorem dL_law_563 : decode cL_law 563 = .ok (.lcmp, 1) := by decide +kernel
theorem dL_law_564 : decode cL_law 564 = .ok (.ifCond .eq 5, 3) := by decide +kernel
theorem dL_law_567 : decode cL_law 567 = .ok (.iconst 0, 1) := by decide +kernel
theorem dL_law_568 : decode cL_law 568 = .ok (.ireturn, 1) := by decide +kernel
theorem dL_law_569 : decode cL_law 569 = .ok (.goto 1228, 3) := by decide +kernel
theorem dL_law_572 : decode cL_law 572 = .ok (.aload_n 1, 1) := by decide +kernel
theorem dL_law_573 : decode cL_law 573 = .ok (.aload_n 0, 1) := by decide +kernel
theorem dL_law_574 : decode cL_law 574 = .ok (.iload 4, 2) := by decide +kernel
theorem dL_law_576 : decode cL_law 576 = .ok (.iconst 1, 1) := by decide +kernel
theorem dL_law_577 : decode cL_law 577 = .ok (.iadd, 1) := by decide +kernel
theorem dL_law_578 : decode cL_law 578 = .ok (.iaload, 1) := by decide +kernel
theorem dL_law_579 : decode cL_law 579 = .ok (.aload_n 0, 1) := by decide +kernel
theorem dL_law_580 : decode cL_law 580 = .ok (.iload 4, 2) := by decide +kernel
theorem dL_law_582 : decode cL_law 582 = .ok (.iconst 2, 1) := by decide +kernel
theorem dL_law_583 : decode cL_law 583 = .ok (.iadd, 1) := by decide +kernel
theorem dL_law_584 : decode cL_law 584 = .ok (.iaload, 1) := by decide +kernel
theorem dL_law_585 : decode cL_law 585 = .ok (.aload_n 0, 1) := by decide +kernel
theorem dL_law_586 : decode cL_law 586 = .ok (.iload 4, 2) := by decide +kernel
theorem dL_law_588 : decode cL_law 588 = .ok (.iconst 3, 1) := by decide +kernel
theorem dL_law_589 : decode cL_law 589 = .ok (.iadd, 1) := by decide +kernel
theorem dL_law_590 : decode cL_law 590 = .ok (.iaload, 1) := by decide +kernel
theorem dL_law_591 : decode cL_law 591 = .ok (.aload_n 0, 1) := by decide +kernel
theorem dL_law_592 : decode cL_law 592 = .ok (.iload 4, 2) := by decide +kernel
theorem dL_law_594 : decode cL_law 594 = .ok (.iconst 4, 1) := by decide +kernel
theorem dL_law_595 : decode cL_law 595 = .ok (.iadd, 1) := by decide +kernel
theorem dL_law_596 : decode cL_law 596 = .ok (.iaload, 1) := by decide +kernel
theorem dL_law_597 : decode cL_law 597 = .ok (.aload_n 3, 1) := by decide +kernel
theorem dL_law_598 : decode cL_law 598 = .ok (.invokestatic 115, 3) := by decide +kernel
theorem dL_law_601 : decode cL_law 601 = .ok (.istore 5, 2) := by decide +kernel
theorem dL_law_603 : decode cL_law 603 = .ok (.aload_n 2, 1) := by decide +kernel
theorem dL_law_604 : decode cL_law 604 = .ok (.aload_n 0, 1) := by decide +kernel
theorem dL_law_605 : decode cL_law 605 = .ok (.iload 4, 2) := by decide +kernel
theorem dL_law_607 : decode cL_law 607 = .ok (.iconst 1, 1) := by decide +kernel
theorem dL_law_608 : decode cL_law 608 = .ok (.iadd, 1) := by decide +kernel
theorem dL_law_609 : decode cL_law 609 = .ok (.iaload, 1) := by decide +kernel
theorem dL_law_610 : decode cL_law 610 = .ok (.aload_n 0, 1) := by decide +kernel
theorem dL_law_611 : decode cL_law 611 = .ok (.iload 4, 2) := by decide +kernel
theorem dL_law_613 : decode cL_law 613 = .ok (.iconst 2, 1) := by decide +kernel
theorem dL_law_614 : decode cL_law 614 = .ok (.iadd, 1) := by decide +kernel
theorem dL_law_615 : decode cL_law 615 = .ok (.iaload, 1) := by decide +kernel
theorem dL_law_616 : decode cL_law 616 = .ok (.aload_n 0, 1) := by decide +kernel
theorem dL_law_617 : decode cL_law 617 = .ok (.iload 4, 2) := by decide +kernel
theorem dL_law_619 : decode cL_law 619 = .ok (.iconst 3, 1) := by decide +kernel
theorem dL_law_620 : decode cL_law 620 = .ok (.iadd, 1) := by decide +kernel
theorem dL_law_621 : decode cL_law 621 = .ok (.iaload, 1) := by decide +kernel
theorem dL_law_622 : decode cL_law 622 = .ok (.aload_n 0, 1) := by decide +kernel
theorem dL_law_623 : decode cL_law 623 = .ok (.iload 4, 2) := by decide +kernel
theorem dL_law_625 : decode cL_law 625 = .ok (.iconst 4, 1) := by decide +kernel
theorem dL_law_626 : decode cL_law 626 = .ok (.iadd, 1) := by decide +kernel
theorem dL_law_627 : decode cL_law 627 = .ok (.iaload, 1) := by decide +kernel
theorem dL_law_628 : decode cL_law 628 = .ok (.invokevirtual 117, 3) := by decide +kernel
theorem dL_law_631 : decode cL_law 631 = .ok (.istore 6, 2) := by decide +kernel
theorem dL_law_633 : decode cL_law 633 = .ok (.aload_n 2, 1) := by decide +kernel
theorem dL_law_634 : decode cL_law 634 = .ok (.invokevirtual 97, 3) := by decide +kernel
theorem dL_law_637 : decode cL_law 637 = .ok (.iload 5, 2) := by decide +kernel
theorem dL_law_639 : decode cL_law 639 = .ok (.if_icmp .eq 5, 3) := by decide +kernel
theorem dL_law_642 : decode cL_law 642 = .ok (.iconst 0, 1) := by decide +kernel
theorem dL_law_643 : decode cL_law 643 = .ok (.ireturn, 1) := by decide +kernel
theorem dL_law_644 : decode cL_law 644 = .ok (.iload 5, 2) := by decide +kernel
theorem dL_law_646 : decode cL_law 646 = .ok (.ifCond .ne 15, 3) := by decide +kernel
theorem dL_law_649 : decode cL_law 649 = .ok (.aload_n 3, 1) := by decide +kernel
theorem dL_law_650 : decode cL_law 650 = .ok (.iconst 0, 1) := by decide +kernel
theorem dL_law_651 : decode cL_law 651 = .ok (.laload, 1) := by decide +kernel
theorem dL_law_652 : decode cL_law 652 = .ok (.iload 6, 2) := by decide +kernel
theorem dL_law_654 : decode cL_law 654 = .ok (.i2l, 1) := by decide +kernel
theorem dL_law_655 : decode cL_law 655 = .ok (.lcmp, 1) := by decide +kernel
theorem dL_law_656 : decode cL_law 656 = .ok (.ifCond .eq 5, 3) := by decide +kernel
theorem dL_law_659 : decode cL_law 659 = .ok (.iconst 0, 1) := by decide +kernel
theorem dL_law_660 : decode cL_law 660 = .ok (.ireturn, 1) := by decide +kernel
theorem dL_law_661 : decode cL_law 661 = .ok (.goto 1136, 3) := by decide +kernel
theorem dL_law_664 : decode cL_law 664 = .ok (.aload_n 1, 1) := by decide +kernel
theorem dL_law_665 : decode cL_law 665 = .ok (.aload_n 0, 1) := by decide +kernel
theorem dL_law_666 : decode cL_law 666 = .ok (.iload 4, 2) := by decide +kernel
theorem dL_law_668 : decode cL_law 668 = .ok (.iconst 1, 1) := by decide +kernel
theorem dL_law_669 : decode cL_law 669 = .ok (.iadd, 1) := by decide +kernel
theorem dL_law_670 : decode cL_law 670 = .ok (.iaload, 1) := by decide +kernel
theorem dL_law_671 : decode cL_law 671 = .ok (.aload_n 0, 1) := by decide +kernel
theorem dL_law_672 : decode cL_law 672 = .ok (.iload 4, 2) := by decide +kernel
theorem dL_law_674 : decode cL_law 674 = .ok (.iconst 2, 1) := by decide +kernel
theorem dL_law_675 : decode cL_law 675 = .ok (.iadd, 1) := by decide +kernel
theorem dL_law_676 : decode cL_law 676 = .ok (.iaload, 1) := by decide +kernel
theorem dL_law_677 : decode cL_law 677 = .ok (.aload_n 0, 1) := by decide +kernel
theorem dL_law_678 : decode cL_law 678 = .ok (.iload 4, 2) := by decide +kernel
theorem dL_law_680 : decode cL_law 680 = .ok (.iconst 3, 1) := by decide +kernel
theorem dL_law_681 : decode cL_law 681 = .ok (.iadd, 1) := by decide +kernel
theorem dL_law_682 : decode cL_law 682 = .ok (.iaload, 1) := by decide +kernel
theorem dL_law_683 : decode cL_law 683 = .ok (.aload_n 0, 1) := by decide +kernel
theorem dL_law_684 : decode cL_law 684 = .ok (.iload 4, 2) := by decide +kernel
theorem dL_law_686 : decode cL_law 686 = .ok (.iconst 4, 1) := by decide +kernel
theorem dL_law_687 : decode cL_law 687 = .ok (.iadd, 1) := by decide +kernel
theorem dL_law_688 : decode cL_law 688 = .ok (.iaload, 1) := by decide +kernel
theorem dL_law_689 : decode cL_law 689 = .ok (.aload_n 3, 1) := by decide +kernel
theorem dL_law_690 : decode cL_law 690 = .ok (.invokestatic 118, 3) := by decide +kernel
theorem dL_law_693 : decode cL_law 693 = .ok (.istore 5, 2) := by decide +kernel
theorem dL_law_695 : decode cL_law 695 = .ok (.aload_n 2, 1) := by decide +kernel
theorem dL_law_696 : decode cL_law 696 = .ok (.aload_n 0, 1) := by decide +kernel
theorem dL_law_697 : decode cL_law 697 = .ok (.iload 4, 2) := by decide +kernel
theorem dL_law_699 : decode cL_law 699 = .ok (.iconst 1, 1) := by decide +kernel
theorem dL_law_700 : decode cL_law 700 = .ok (.iadd, 1) := by decide +kernel
theorem dL_law_701 : decode cL_law 701 = .ok (.iaload, 1) := by decide +kernel
theorem dL_law_702 : decode cL_law 702 = .ok (.aload_n 0, 1) := by decide +kernel
theorem dL_law_703 : decode cL_law 703 = .ok (.iload 4, 2) := by decide +kernel
theorem dL_law_705 : decode cL_law 705 = .ok (.iconst 2, 1) := by decide +kernel
theorem dL_law_706 : decode cL_law 706 = .ok (.iadd, 1) := by decide +kernel
theorem dL_law_707 : decode cL_law 707 = .ok (.iaload, 1) := by decide +kernel
theorem dL_law_708 : decode cL_law 708 = .ok (.aload_n 0, 1) := by decide +kernel
theorem dL_law_709 : decode cL_law 709 = .ok (.iload 4, 2) := by decide +kernel
theorem dL_law_711 : decode cL_law 711 = .ok (.iconst 3, 1) := by decide +kernel
theorem dL_law_712 : decode cL_law 712 = .ok (.iadd, 1) := by decide +kernel
theorem dL_law_713 : decode cL_law 713 = .ok (.iaload, 1) := by decide +kernel
theorem dL_law_714 : decode cL_law 714 = .ok (.aload_n 0, 1) := by decide +kernel
theorem dL_law_715 : decode cL_law 715 = .ok (.iload 4, 2) := by decide +kernel
theorem dL_law_717 : decode cL_law 717 = .ok (.iconst 4, 1) := by decide +kernel
theorem dL_law_718 : decode cL_law 718 = .ok (.iadd, 1) := by decide +kernel
theorem dL_law_719 : decode cL_law 719 = .ok (.iaload, 1) := by decide +kernel
theorem dL_law_720 : decode cL_law 720 = .ok (.invokevirtual 120, 3) := by decide +kernel
theorem dL_law_723 : decode cL_law 723 = .ok (.istore 6, 2) := by decide +kernel
theorem dL_law_725 : decode cL_law 725 = .ok (.aload_n 2, 1) := by decide +kernel
theorem dL_law_726 : decode cL_law 726 = .ok (.invokevirtual 97, 3) := by decide +kernel
theorem dL_law_729 : decode cL_law 729 = .ok (.iload 5, 2) := by decide +kernel
theorem dL_law_731 : decode cL_law 731 = .ok (.if_icmp .eq 5, 3) := by decide +kernel
theorem dL_law_734 : decode cL_law 734 = .ok (.iconst 0, 1) := by decide +kernel
theorem dL_law_735 : decode cL_law 735 = .ok (.ireturn, 1) := by decide +kernel
theorem dL_law_736 : decode cL_law 736 = .ok (.iload 5, 2) := by decide +kernel
theorem dL_law_738 : decode cL_law 738 = .ok (.ifCond .ne 15, 3) := by decide +kernel
theorem dL_law_741 : decode cL_law 741 = .ok (.aload_n 3, 1) := by decide +kernel
theorem dL_law_742 : decode cL_law 742 = .ok (.iconst 0, 1) := by decide +kernel
theorem dL_law_743 : decode cL_law 743 = .ok (.laload, 1) := by decide +kernel
theorem dL_law_744 : decode cL_law 744 = .ok (.iload 6, 2) := by decide +kernel
theorem dL_law_746 : decode cL_law 746 = .ok (.i2l, 1) := by decide +kernel
theorem dL_law_747 : decode cL_law 747 = .ok (.lcmp, 1) := by decide +kernel
theorem dL_law_748 : decode cL_law 748 = .ok (.ifCond .eq 5, 3) := by decide +kernel
theorem dL_law_751 : decode cL_law 751 = .ok (.iconst 0, 1) := by decide +kernel
theorem dL_law_752 : decode cL_law 752 = .ok (.ireturn, 1) := by decide +kernel
theorem dL_law_753 : decode cL_law 753 = .ok (.goto 1044, 3) := by decide +kernel
theorem dL_law_756 : decode cL_law 756 = .ok (.aload_n 1, 1) := by decide +kernel
theorem dL_law_757 : decode cL_law 757 = .ok (.aload_n 0, 1) := by decide +kernel
theorem dL_law_758 : decode cL_law 758 = .ok (.iload 4, 2) := by decide +kernel
theorem dL_law_760 : decode cL_law 760 = .ok (.iconst 1, 1) := by decide +kernel
theorem dL_law_761 : decode cL_law 761 = .ok (.iadd, 1) := by decide +kernel
theorem dL_law_762 : decode cL_law 762 = .ok (.iaload, 1) := by decide +kernel
theorem dL_law_763 : decode cL_law 763 = .ok (.aload_n 0, 1) := by decide +kernel
theorem dL_law_764 : decode cL_law 764 = .ok (.iload 4, 2) := by decide +kernel
theorem dL_law_766 : decode cL_law 766 = .ok (.iconst 2, 1) := by decide +kernel
theorem dL_law_767 : decode cL_law 767 = .ok (.iadd, 1) := by decide +kernel
theorem dL_law_768 : decode cL_law 768 = .ok (.iaload, 1) := by decide +kernel
theorem dL_law_769 : decode cL_law 769 = .ok (.invokestatic 121, 3) := by decide +kernel
theorem dL_law_772 : decode cL_law 772 = .ok (.istore 5, 2) := by decide +kernel
theorem dL_law_774 : decode cL_law 774 = .ok (.aload_n 2, 1) := by decide +kernel
theorem dL_law_775 : decode cL_law 775 = .ok (.aload_n 0, 1) := by decide +kernel
theorem dL_law_776 : decode cL_law 776 = .ok (.iload 4, 2) := by decide +kernel
theorem dL_law_778 : decode cL_law 778 = .ok (.iconst 1, 1) := by decide +kernel
theorem dL_law_779 : decode cL_law 779 = .ok (.iadd, 1) := by decide +kernel
theorem dL_law_780 : decode cL_law 780 = .ok (.iaload, 1) := by decide +kernel
theorem dL_law_781 : decode cL_law 781 = .ok (.aload_n 0, 1) := by decide +kernel
theorem dL_law_782 : decode cL_law 782 = .ok (.iload 4, 2) := by decide +kernel
theorem dL_law_784 : decode cL_law 784 = .ok (.iconst 2, 1) := by decide +kernel
theorem dL_law_785 : decode cL_law 785 = .ok (.iadd, 1) := by decide +kernel
theorem dL_law_786 : decode cL_law 786 = .ok (.iaload, 1) := by decide +kernel
theorem dL_law_787 : decode cL_law 787 = .ok (.invokevirtual 124, 3) := by decide +kernel
theorem dL_law_790 : decode cL_law 790 = .ok (.aload_n 2, 1) := by decide +kernel
theorem dL_law_791 : decode cL_law 791 = .ok (.invokevirtual 97, 3) := by decide +kernel
theorem dL_law_794 : decode cL_law 794 = .ok (.iload 5, 2) := by decide +kernel
theorem dL_law_796 : decode cL_law 796 = .ok (.if_icmp .eq 5, 3) := by decide +kernel
theorem dL_law_799 : decode cL_law 799 = .ok (.iconst 0, 1) := by decide +kernel
theorem dL_law_800 : decode cL_law 800 = .ok (.ireturn, 1) := by decide +kernel
theorem dL_law_801 : decode cL_law 801 = .ok (.goto 996, 3) := by decide +kernel
theorem dL_law_804 : decode cL_law 804 = .ok (.aload_n 1, 1) := by decide +kernel
theorem dL_law_805 : decode cL_law 805 = .ok (.aload_n 0, 1) := by decide +kernel
theorem dL_law_806 : decode cL_law 806 = .ok (.iload 4, 2) := by decide +kernel
theorem dL_law_808 : decode cL_law 808 = .ok (.iconst 1, 1) := by decide +kernel
theorem dL_law_809 : decode cL_law 809 = .ok (.iadd, 1) := by decide +kernel
theorem dL_law_810 : decode cL_law 810 = .ok (.iaload, 1) := by decide +kernel
theorem dL_law_811 : decode cL_law 811 = .ok (.aload_n 0, 1) := by decide +kernel
theorem dL_law_812 : decode cL_law 812 = .ok (.iload 4, 2) := by decide +kernel
theorem dL_law_814 : decode cL_law 814 = .ok (.iconst 2, 1) := by decide +kernel
theorem dL_law_815 : decode cL_law 815 = .ok (.iadd, 1) := by decide +kernel
theorem dL_law_816 : decode cL_law 816 = .ok (.iaload, 1) := by decide +kernel
theorem dL_law_817 : decode cL_law 817 = .ok (.aload_n 0, 1) := by decide +kernel
theorem dL_law_818 : decode cL_law 818 = .ok (.iload 4, 2) := by decide +kernel
theorem dL_law_820 : decode cL_law 820 = .ok (.iconst 3, 1) := by decide +kernel
theorem dL_law_821 : decode cL_law 821 = .ok (.iadd, 1) := by decide +kernel
theorem dL_law_822 : decode cL_law 822 = .ok (.iaload, 1) := by decide +kernel
theorem dL_law_823 : decode cL_law 823 = .ok (.aload_n 0, 1) := by decide +kernel
theorem dL_law_824 : decode cL_law 824 = .ok (.iload 4, 2) := by decide +kernel
theorem dL_law_826 : decode cL_law 826 = .ok (.iconst 4, 1) := by decide +kernel
theorem dL_law_827 : decode cL_law 827 = .ok (.iadd, 1) := by decide +kernel
theorem dL_law_828 : decode cL_law 828 = .ok (.iaload, 1) := by decide +kernel
theorem dL_law_829 : decode cL_law 829 = .ok (.ifCond .eq 7, 3) := by decide +kernel
theorem dL_law_832 : decode cL_law 832 = .ok (.iconst 1, 1) := by decide +kernel
theorem dL_law_833 : decode cL_law 833 = .ok (.goto 4, 3) := by decide +kernel
theorem dL_law_836 : decode cL_law 836 = .ok (.iconst 0, 1) := by decide +kernel
theorem dL_law_837 : decode cL_law 837 = .ok (.aload_n 3, 1) := by decide +kernel
theorem dL_law_838 : decode cL_law 838 = .ok (.invokestatic 125, 3) := by decide +kernel
theorem dL_law_841 : decode cL_law 841 = .ok (.istore 5, 2) := by decide +kernel
theorem dL_law_843 : decode cL_law 843 = .ok (.aload_n 2, 1) := by decide +kernel
theorem dL_law_844 : decode cL_law 844 = .ok (.aload_n 0, 1) := by decide +kernel
theorem dL_law_845 : decode cL_law 845 = .ok (.iload 4, 2) := by decide +kernel
theorem dL_law_847 : decode cL_law 847 = .ok (.iconst 1, 1) := by decide +kernel
theorem dL_law_848 : decode cL_law 848 = .ok (.iadd, 1) := by decide +kernel
theorem dL_law_849 : decode cL_law 849 = .ok (.iaload, 1) := by decide +kernel
theorem dL_law_850 : decode cL_law 850 = .ok (.aload_n 0, 1) := by decide +kernel
theorem dL_law_851 : decode cL_law 851 = .ok (.iload 4, 2) := by decide +kernel
theorem dL_law_853 : decode cL_law 853 = .ok (.iconst 2, 1) := by decide +kernel
theorem dL_law_854 : decode cL_law 854 = .ok (.iadd, 1) := by decide +kernel
theorem dL_law_855 : decode cL_law 855 = .ok (.iaload, 1) := by decide +kernel
theorem dL_law_856 : decode cL_law 856 = .ok (.aload_n 0, 1) := by decide +kernel
theorem dL_law_857 : decode cL_law 857 = .ok (.iload 4, 2) := by decide +kernel
theorem dL_law_859 : decode cL_law 859 = .ok (.iconst 3, 1) := by decide +kernel
theorem dL_law_860 : decode cL_law 860 = .ok (.iadd, 1) := by decide +kernel
theorem dL_law_861 : decode cL_law 861 = .ok (.iaload, 1) := by decide +kernel
theorem dL_law_862 : decode cL_law 862 = .ok (.aload_n 0, 1) := by decide +kernel
theorem dL_law_863 : decode cL_law 863 = .ok (.iload 4, 2) := by decide +kernel
theorem dL_law_865 : decode cL_law 865 = .ok (.iconst 4, 1) := by decide +kernel
theorem dL_law_866 : decode cL_law 866 = .ok (.iadd, 1) := by decide +kernel
theorem dL_law_867 : decode cL_law 867 = .ok (.iaload, 1) := by decide +kernel
theorem dL_law_868 : decode cL_law 868 = .ok (.ifCond .eq 7, 3) := by decide +kernel
theorem dL_law_871 : decode cL_law 871 = .ok (.iconst 1, 1) := by decide +kernel
theorem dL_law_872 : decode cL_law 872 = .ok (.goto 4, 3) := by decide +kernel
theorem dL_law_875 : decode cL_law 875 = .ok (.iconst 0, 1) := by decide +kernel
theorem dL_law_876 : decode cL_law 876 = .ok (.invokevirtual 128, 3) := by decide +kernel
theorem dL_law_879 : decode cL_law 879 = .ok (.istore 6, 2) := by decide +kernel
theorem dL_law_881 : decode cL_law 881 = .ok (.aload_n 2, 1) := by decide +kernel
theorem dL_law_882 : decode cL_law 882 = .ok (.invokevirtual 97, 3) := by decide +kernel
theorem dL_law_885 : decode cL_law 885 = .ok (.iload 5, 2) := by decide +kernel
theorem dL_law_887 : decode cL_law 887 = .ok (.if_icmp .eq 5, 3) := by decide +kernel
theorem dL_law_890 : decode cL_law 890 = .ok (.iconst 0, 1) := by decide +kernel
theorem dL_law_891 : decode cL_law 891 = .ok (.ireturn, 1) := by decide +kernel
theorem dL_law_892 : decode cL_law 892 = .ok (.iload 5, 2) := by decide +kernel
theorem dL_law_894 : decode cL_law 894 = .ok (.ifCond .ne 15, 3) := by decide +kernel
theorem dL_law_897 : decode cL_law 897 = .ok (.aload_n 3, 1) := by decide +kernel
theorem dL_law_898 : decode cL_law 898 = .ok (.iconst 0, 1) := by decide +kernel
theorem dL_law_899 : decode cL_law 899 = .ok (.laload, 1) := by decide +kernel
theorem dL_law_900 : decode cL_law 900 = .ok (.iload 6, 2) := by decide +kernel
theorem dL_law_902 : decode cL_law 902 = .ok (.i2l, 1) := by decide +kernel
theorem dL_law_903 : decode cL_law 903 = .ok (.lcmp, 1) := by decide +kernel
theorem dL_law_904 : decode cL_law 904 = .ok (.ifCond .eq 5, 3) := by decide +kernel
theorem dL_law_907 : decode cL_law 907 = .ok (.iconst 0, 1) := by decide +kernel
theorem dL_law_908 : decode cL_law 908 = .ok (.ireturn, 1) := by decide +kernel
theorem dL_law_909 : decode cL_law 909 = .ok (.goto 888, 3) := by decide +kernel
theorem dL_law_912 : decode cL_law 912 = .ok (.aload_n 1, 1) := by decide +kernel
theorem dL_law_913 : decode cL_law 913 = .ok (.aload_n 0, 1) := by decide +kernel
theorem dL_law_914 : decode cL_law 914 = .ok (.iload 4, 2) := by decide +kernel
theorem dL_law_916 : decode cL_law 916 = .ok (.iconst 1, 1) := by decide +kernel
theorem dL_law_917 : decode cL_law 917 = .ok (.iadd, 1) := by decide +kernel
theorem dL_law_918 : decode cL_law 918 = .ok (.iaload, 1) := by decide +kernel
theorem dL_law_919 : decode cL_law 919 = .ok (.aload_n 0, 1) := by decide +kernel
theorem dL_law_920 : decode cL_law 920 = .ok (.iload 4, 2) := by decide +kernel
theorem dL_law_922 : decode cL_law 922 = .ok (.iconst 2, 1) := by decide +kernel
theorem dL_law_923 : decode cL_law 923 = .ok (.iadd, 1) := by decide +kernel
theorem dL_law_924 : decode cL_law 924 = .ok (.iaload, 1) := by decide +kernel
theorem dL_law_925 : decode cL_law 925 = .ok (.aload_n 0, 1) := by decide +kernel
theorem dL_law_926 : decode cL_law 926 = .ok (.iload 4, 2) := by decide +kernel
theorem dL_law_928 : decode cL_law 928 = .ok (.iconst 3, 1) := by decide +kernel
theorem dL_law_929 : decode cL_law 929 = .ok (.iadd, 1) := by decide +kernel
theorem dL_law_930 : decode cL_law 930 = .ok (.iaload, 1) := by decide +kernel
theorem dL_law_931 : decode cL_law 931 = .ok (.aload_n 0, 1) := by decide +kernel
theorem dL_law_932 : decode cL_law 932 = .ok (.iload 4, 2) := by decide +kernel
theorem dL_law_934 : decode cL_law 934 = .ok (.iconst 4, 1) := by decide +kernel
theorem dL_law_935 : decode cL_law 935 = .ok (.iadd, 1) := by decide +kernel
theorem dL_law_936 : decode cL_law 936 = .ok (.iaload, 1) := by decide +kernel
theorem dL_law_937 : decode cL_law 937 = .ok (.aload_n 3, 1) := by decide +kernel
theorem dL_law_938 : decode cL_law 938 = .ok (.invokestatic 129, 3) := by decide +kernel
theorem dL_law_941 : decode cL_law 941 = .ok (.istore 5, 2) := by decide +kernel
theorem dL_law_943 : decode cL_law 943 = .ok (.aload_n 2, 1) := by decide +kernel
theorem dL_law_944 : decode cL_law 944 = .ok (.aload_n 0, 1) := by decide +kernel
theorem dL_law_945 : decode cL_law 945 = .ok (.iload 4, 2) := by decide +kernel
theorem dL_law_947 : decode cL_law 947 = .ok (.iconst 1, 1) := by decide +kernel
theorem dL_law_948 : decode cL_law 948 = .ok (.iadd, 1) := by decide +kernel
theorem dL_law_949 : decode cL_law 949 = .ok (.iaload, 1) := by decide +kernel
theorem dL_law_950 : decode cL_law 950 = .ok (.aload_n 0, 1) := by decide +kernel
theorem dL_law_951 : decode cL_law 951 = .ok (.iload 4, 2) := by decide +kernel
theorem dL_law_953 : decode cL_law 953 = .ok (.iconst 2, 1) := by decide +kernel
theorem dL_law_954 : decode cL_law 954 = .ok (.iadd, 1) := by decide +kernel
theorem dL_law_955 : decode cL_law 955 = .ok (.iaload, 1) := by decide +kernel
theorem dL_law_956 : decode cL_law 956 = .ok (.aload_n 0, 1) := by decide +kernel
theorem dL_law_957 : decode cL_law 957 = .ok (.iload 4, 2) := by decide +kernel
theorem dL_law_959 : decode cL_law 959 = .ok (.iconst 3, 1) := by decide +kernel
theorem dL_law_960 : decode cL_law 960 = .ok (.iadd, 1) := by decide +kernel
theorem dL_law_961 : decode cL_law 961 = .ok (.iaload, 1) := by decide +kernel
theorem dL_law_962 : decode cL_law 962 = .ok (.aload_n 0, 1) := by decide +kernel
theorem dL_law_963 : decode cL_law 963 = .ok (.iload 4, 2) := by decide +kernel
theorem dL_law_965 : decode cL_law 965 = .ok (.iconst 4, 1) := by decide +kernel
theorem dL_law_966 : decode cL_law 966 = .ok (.iadd, 1) := by decide +kernel
theorem dL_law_967 : decode cL_law 967 = .ok (.iaload, 1) := by decide +kernel
theorem dL_law_968 : decode cL_law 968 = .ok (.invokevirtual 131, 3) := by decide +kernel
theorem dL_law_971 : decode cL_law 971 = .ok (.istore 6, 2) := by decide +kernel
theorem dL_law_973 : decode cL_law 973 = .ok (.aload_n 2, 1) := by decide +kernel
theorem dL_law_974 : decode cL_law 974 = .ok (.invokevirtual 97, 3) := by decide +kernel
theorem dL_law_977 : decode cL_law 977 = .ok (.iload 5, 2) := by decide +kernel
theorem dL_law_979 : decode cL_law 979 = .ok (.if_icmp .eq 5, 3) := by decide +kernel
theorem dL_law_982 : decode cL_law 982 = .ok (.iconst 0, 1) := by decide +kernel
theorem dL_law_983 : decode cL_law 983 = .ok (.ireturn, 1) := by decide +kernel
theorem dL_law_984 : decode cL_law 984 = .ok (.iload 5, 2) := by decide +kernel
theorem dL_law_986 : decode cL_law 986 = .ok (.ifCond .ne 15, 3) := by decide +kernel
theorem dL_law_989 : decode cL_law 989 = .ok (.aload_n 3, 1) := by decide +kernel
theorem dL_law_990 : decode cL_law 990 = .ok (.iconst 0, 1) := by decide +kernel
theorem dL_law_991 : decode cL_law 991 = .ok (.laload, 1) := by decide +kernel
theorem dL_law_992 : decode cL_law 992 = .ok (.iload 6, 2) := by decide +kernel
theorem dL_law_994 : decode cL_law 994 = .ok (.i2l, 1) := by decide +kernel
theorem dL_law_995 : decode cL_law 995 = .ok (.lcmp, 1) := by decide +kernel
theorem dL_law_996 : decode cL_law 996 = .ok (.ifCond .eq 5, 3) := by decide +kernel
theorem dL_law_999 : decode cL_law 999 = .ok (.iconst 0, 1) := by decide +kernel
theorem dL_law_1000 : decode cL_law 1000 = .ok (.ireturn, 1) := by decide +kernel
theorem dL_law_1001 : decode cL_law 1001 = .ok (.goto 796, 3) := by decide +kernel
theorem dL_law_1004 : decode cL_law 1004 = .ok (.aload_n 1, 1) := by decide +kernel
theorem dL_law_1005 : decode cL_law 1005 = .ok (.aload_n 0, 1) := by decide +kernel
theorem dL_law_1006 : decode cL_law 1006 = .ok (.iload 4, 2) := by decide +kernel
theorem dL_law_1008 : decode cL_law 1008 = .ok (.iconst 1, 1) := by decide +kernel
theorem dL_law_1009 : decode cL_law 1009 = .ok (.iadd, 1) := by decide +kernel
theorem dL_law_1010 : decode cL_law 1010 = .ok (.iaload, 1) := by decide +kernel
theorem dL_law_1011 : decode cL_law 1011 = .ok (.aload_n 3, 1) := by decide +kernel
theorem dL_law_1012 : decode cL_law 1012 = .ok (.invokestatic 132, 3) := by decide +kernel
theorem dL_law_1015 : decode cL_law 1015 = .ok (.istore 5, 2) := by decide +kernel
theorem dL_law_1017 : decode cL_law 1017 = .ok (.aload_n 2, 1) := by decide +kernel
theorem dL_law_1018 : decode cL_law 1018 = .ok (.aload_n 0, 1) := by decide +kernel
theorem dL_law_1019 : decode cL_law 1019 = .ok (.iload 4, 2) := by decide +kernel
theorem dL_law_1021 : decode cL_law 1021 = .ok (.iconst 1, 1) := by decide +kernel
theorem dL_law_1022 : decode cL_law 1022 = .ok (.iadd, 1) := by decide +kernel
theorem dL_law_1023 : decode cL_law 1023 = .ok (.iaload, 1) := by decide +kernel
theorem dL_law_1024 : decode cL_law 1024 = .ok (.invokevirtual 134, 3) := by decide +kernel
theorem dL_law_1027 : decode cL_law 1027 = .ok (.istore 6, 2) := by decide +kernel
theorem dL_law_1029 : decode cL_law 1029 = .ok (.aload_n 2, 1) := by decide +kernel
theorem dL_law_1030 : decode cL_law 1030 = .ok (.invokevirtual 97, 3) := by decide +kernel
theorem dL_law_1033 : decode cL_law 1033 = .ok (.iload 5, 2) := by decide +kernel
theorem dL_law_1035 : decode cL_law 1035 = .ok (.if_icmp .eq 5, 3) := by decide +kernel
theorem dL_law_1038 : decode cL_law 1038 = .ok (.iconst 0, 1) := by decide +kernel
theorem dL_law_1039 : decode cL_law 1039 = .ok (.ireturn, 1) := by decide +kernel
theorem dL_law_1040 : decode cL_law 1040 = .ok (.iload 5, 2) := by decide +kernel
theorem dL_law_1042 : decode cL_law 1042 = .ok (.ifCond .ne 15, 3) := by decide +kernel
theorem dL_law_1045 : decode cL_law 1045 = .ok (.aload_n 3, 1) := by decide +kernel
theorem dL_law_1046 : decode cL_law 1046 = .ok (.iconst 0, 1) := by decide +kernel
theorem dL_law_1047 : decode cL_law 1047 = .ok (.laload, 1) := by decide +kernel
theorem dL_law_1048 : decode cL_law 1048 = .ok (.iload 6, 2) := by decide +kernel
theorem dL_law_1050 : decode cL_law 1050 = .ok (.i2l, 1) := by decide +kernel
theorem dL_law_1051 : decode cL_law 1051 = .ok (.lcmp, 1) := by decide +kernel
theorem dL_law_1052 : decode cL_law 1052 = .ok (.ifCond .eq 5, 3) := by decide +kernel
theorem dL_law_1055 : decode cL_law 1055 = .ok (.iconst 0, 1) := by decide +kernel
theorem dL_law_1056 : decode cL_law 1056 = .ok (.ireturn, 1) := by decide +kernel
theorem dL_law_1057 : decode cL_law 1057 = .ok (.goto 740, 3) := by decide +kernel
theorem dL_law_1060 : decode cL_law 1060 = .ok (.aload_n 1, 1) := by decide +kernel
theorem dL_law_1061 : decode cL_law 1061 = .ok (.aload_n 0, 1) := by decide +kernel
theorem dL_law_1062 : decode cL_law 1062 = .ok (.iload 4, 2) := by decide +kernel
theorem dL_law_1064 : decode cL_law 1064 = .ok (.iconst 1, 1) := by decide +kernel
theorem dL_law_1065 : decode cL_law 1065 = .ok (.iadd, 1) := by decide +kernel
theorem dL_law_1066 : decode cL_law 1066 = .ok (.iaload, 1) := by decide +kernel
theorem dL_law_1067 : decode cL_law 1067 = .ok (.aload_n 0, 1) := by decide +kernel
theorem dL_law_1068 : decode cL_law 1068 = .ok (.iload 4, 2) := by decide +kernel
theorem dL_law_1070 : decode cL_law 1070 = .ok (.iconst 2, 1) := by decide +kernel
theorem dL_law_1071 : decode cL_law 1071 = .ok (.iadd, 1) := by decide +kernel
theorem dL_law_1072 : decode cL_law 1072 = .ok (.iaload, 1) := by decide +kernel
theorem dL_law_1073 : decode cL_law 1073 = .ok (.aload_n 3, 1) := by decide +kernel
theorem dL_law_1074 : decode cL_law 1074 = .ok (.invokestatic 135, 3) := by decide +kernel
theorem dL_law_1077 : decode cL_law 1077 = .ok (.istore 5, 2) := by decide +kernel
theorem dL_law_1079 : decode cL_law 1079 = .ok (.aload_n 2, 1) := by decide +kernel
theorem dL_law_1080 : decode cL_law 1080 = .ok (.aload_n 0, 1) := by decide +kernel
theorem dL_law_1081 : decode cL_law 1081 = .ok (.iload 4, 2) := by decide +kernel
theorem dL_law_1083 : decode cL_law 1083 = .ok (.iconst 1, 1) := by decide +kernel
theorem dL_law_1084 : decode cL_law 1084 = .ok (.iadd, 1) := by decide +kernel
theorem dL_law_1085 : decode cL_law 1085 = .ok (.iaload, 1) := by decide +kernel
theorem dL_law_1086 : decode cL_law 1086 = .ok (.aload_n 0, 1) := by decide +kernel
theorem dL_law_1087 : decode cL_law 1087 = .ok (.iload 4, 2) := by decide +kernel
theorem dL_law_1089 : decode cL_law 1089 = .ok (.iconst 2, 1) := by decide +kernel
theorem dL_law_1090 : decode cL_law 1090 = .ok (.iadd, 1) := by decide +kernel
theorem dL_law_1091 : decode cL_law 1091 = .ok (.iaload, 1) := by decide +kernel
theorem dL_law_1092 : decode cL_law 1092 = .ok (.invokevirtual 138, 3) := by decide +kernel
theorem dL_law_1095 : decode cL_law 1095 = .ok (.istore 6, 2) := by decide +kernel
theorem dL_law_1097 : decode cL_law 1097 = .ok (.aload_n 2, 1) := by decide +kernel
theorem dL_law_1098 : decode cL_law 1098 = .ok (.invokevirtual 97, 3) := by decide +kernel
theorem dL_law_1101 : decode cL_law 1101 = .ok (.iload 5, 2) := by decide +kernel
theorem dL_law_1103 : decode cL_law 1103 = .ok (.if_icmp .eq 5, 3) := by decide +kernel
theorem dL_law_1106 : decode cL_law 1106 = .ok (.iconst 0, 1) := by decide +kernel
theorem dL_law_1107 : decode cL_law 1107 = .ok (.ireturn, 1) := by decide +kernel
theorem dL_law_1108 : decode cL_law 1108 = .ok (.iload 5, 2) := by decide +kernel
theorem dL_law_1110 : decode cL_law 1110 = .ok (.ifCond .ne 15, 3) := by decide +kernel
theorem dL_law_1113 : decode cL_law 1113 = .ok (.aload_n 3, 1) := by decide +kernel
theorem dL_law_1114 : decode cL_law 1114 = .ok (.iconst 0, 1) := by decide +kernel
theorem dL_law_1115 : decode cL_law 1115 = .ok (.laload, 1) := by decide +kernel
theorem dL_law_1116 : decode cL_law 1116 = .ok (.iload 6, 2) := by decide +kernel
theorem dL_law_1118 : decode cL_law 1118 = .ok (.i2l, 1) := by decide +kernel
theorem dL_law_1119 : decode cL_law 1119 = .ok (.lcmp, 1) := by decide +kernel
theorem dL_law_1120 : decode cL_law 1120 = .ok (.ifCond .eq 5, 3) := by decide +kernel
theorem dL_law_1123 : decode cL_law 1123 = .ok (.iconst 0, 1) := by decide +kernel
theorem dL_law_1124 : decode cL_law 1124 = .ok (.ireturn, 1) := by decide +kernel
theorem dL_law_1125 : decode cL_law 1125 = .ok (.goto 672, 3) := by decide +kernel
theorem dL_law_1128 : decode cL_law 1128 = .ok (.aload_n 1, 1) := by decide +kernel
theorem dL_law_1129 : decode cL_law 1129 = .ok (.aload_n 3, 1) := by decide +kernel
theorem dL_law_1130 : decode cL_law 1130 = .ok (.invokestatic 139, 3) := by decide +kernel
theorem dL_law_1133 : decode cL_law 1133 = .ok (.istore 5, 2) := by decide +kernel
theorem dL_law_1135 : decode cL_law 1135 = .ok (.aload_n 2, 1) := by decide +kernel
theorem dL_law_1136 : decode cL_law 1136 = .ok (.invokevirtual 142, 3) := by decide +kernel
theorem dL_law_1139 : decode cL_law 1139 = .ok (.istore 6, 2) := by decide +kernel
theorem dL_law_1141 : decode cL_law 1141 = .ok (.aload_n 2, 1) := by decide +kernel
theorem dL_law_1142 : decode cL_law 1142 = .ok (.invokevirtual 97, 3) := by decide +kernel
theorem dL_law_1145 : decode cL_law 1145 = .ok (.iload 5, 2) := by decide +kernel
theorem dL_law_1147 : decode cL_law 1147 = .ok (.if_icmp .eq 5, 3) := by decide +kernel
theorem dL_law_1150 : decode cL_law 1150 = .ok (.iconst 0, 1) := by decide +kernel
theorem dL_law_1151 : decode cL_law 1151 = .ok (.ireturn, 1) := by decide +kernel
theorem dL_law_1152 : decode cL_law 1152 = .ok (.iload 5, 2) := by decide +kernel
theorem dL_law_1154 : decode cL_law 1154 = .ok (.ifCond .ne 15, 3) := by decide +kernel
theorem dL_law_1157 : decode cL_law 1157 = .ok (.aload_n 3, 1) := by decide +kernel
theorem dL_law_1158 : decode cL_law 1158 = .ok (.iconst 0, 1) := by decide +kernel
theorem dL_law_1159 : decode cL_law 1159 = .ok (.laload, 1) := by decide +kernel
theorem dL_law_1160 : decode cL_law 1160 = .ok (.iload 6, 2) := by decide +kernel
theorem dL_law_1162 : decode cL_law 1162 = .ok (.i2l, 1) := by decide +kernel
theorem dL_law_1163 : decode cL_law 1163 = .ok (.lcmp, 1) := by decide +kernel
theorem dL_law_1164 : decode cL_law 1164 = .ok (.ifCond .eq 5, 3) := by decide +kernel
theorem dL_law_1167 : decode cL_law 1167 = .ok (.iconst 0, 1) := by decide +kernel
theorem dL_law_1168 : decode cL_law 1168 = .ok (.ireturn, 1) := by decide +kernel
theorem dL_law_1169 : decode cL_law 1169 = .ok (.goto 628, 3) := by decide +kernel
theorem dL_law_1172 : decode cL_law 1172 = .ok (.aload_n 1, 1) := by decide +kernel
theorem dL_law_1173 : decode cL_law 1173 = .ok (.aload_n 0, 1) := by decide +kernel
theorem dL_law_1174 : decode cL_law 1174 = .ok (.iload 4, 2) := by decide +kernel
theorem dL_law_1176 : decode cL_law 1176 = .ok (.iconst 1, 1) := by decide +kernel
theorem dL_law_1177 : decode cL_law 1177 = .ok (.iadd, 1) := by decide +kernel
theorem dL_law_1178 : decode cL_law 1178 = .ok (.iaload, 1) := by decide +kernel
theorem dL_law_1179 : decode cL_law 1179 = .ok (.aload_n 3, 1) := by decide +kernel
theorem dL_law_1180 : decode cL_law 1180 = .ok (.invokestatic 143, 3) := by decide +kernel
theorem dL_law_1183 : decode cL_law 1183 = .ok (.istore 5, 2) := by decide +kernel
theorem dL_law_1185 : decode cL_law 1185 = .ok (.aload_n 2, 1) := by decide +kernel
theorem dL_law_1186 : decode cL_law 1186 = .ok (.aload_n 0, 1) := by decide +kernel
theorem dL_law_1187 : decode cL_law 1187 = .ok (.iload 4, 2) := by decide +kernel
theorem dL_law_1189 : decode cL_law 1189 = .ok (.iconst 1, 1) := by decide +kernel
theorem dL_law_1190 : decode cL_law 1190 = .ok (.iadd, 1) := by decide +kernel
theorem dL_law_1191 : decode cL_law 1191 = .ok (.iaload, 1) := by decide +kernel
theorem dL_law_1192 : decode cL_law 1192 = .ok (.invokevirtual 145, 3) := by decide +kernel
theorem dL_law_1195 : decode cL_law 1195 = .ok (.istore 6, 2) := by decide +kernel
theorem dL_law_1197 : decode cL_law 1197 = .ok (.aload_n 2, 1) := by decide +kernel
theorem dL_law_1198 : decode cL_law 1198 = .ok (.invokevirtual 97, 3) := by decide +kernel
theorem dL_law_1201 : decode cL_law 1201 = .ok (.iload 5, 2) := by decide +kernel
theorem dL_law_1203 : decode cL_law 1203 = .ok (.if_icmp .eq 5, 3) := by decide +kernel
theorem dL_law_1206 : decode cL_law 1206 = .ok (.iconst 0, 1) := by decide +kernel
theorem dL_law_1207 : decode cL_law 1207 = .ok (.ireturn, 1) := by decide +kernel
theorem dL_law_1208 : decode cL_law 1208 = .ok (.iload 5, 2) := by decide +kernel
theorem dL_law_1210 : decode cL_law 1210 = .ok (.ifCond .ne 15, 3) := by decide +kernel
theorem dL_law_1213 : decode cL_law 1213 = .ok (.aload_n 3, 1) := by decide +kernel
theorem dL_law_1214 : decode cL_law 1214 = .ok (.iconst 0, 1) := by decide +kernel
theorem dL_law_1215 : decode cL_law 1215 = .ok (.laload, 1) := by decide +kernel
theorem dL_law_1216 : decode cL_law 1216 = .ok (.iload 6, 2) := by decide +kernel
theorem dL_law_1218 : decode cL_law 1218 = .ok (.i2l, 1) := by decide +kernel
theorem dL_law_1219 : decode cL_law 1219 = .ok (.lcmp, 1) := by decide +kernel
theorem dL_law_1220 : decode cL_law 1220 = .ok (.ifCond .eq 5, 3) := by decide +kernel
theorem dL_law_1223 : decode cL_law 1223 = .ok (.iconst 0, 1) := by decide +kernel
theorem dL_law_1224 : decode cL_law 1224 = .ok (.ireturn, 1) := by decide +kernel
theorem dL_law_1225 : decode cL_law 1225 = .ok (.goto 572, 3) := by decide +kernel
theorem dL_law_1228 : decode cL_law 1228 = .ok (.aload_n 1, 1) := by decide +kernel
theorem dL_law_1229 : decode cL_law 1229 = .ok (.invokevirtual 146, 3) := by decide +kernel
theorem dL_law_1232 : decode cL_law 1232 = .ok (.aload_n 2, 1) := by decide +kernel
theorem dL_law_1233 : decode cL_law 1233 = .ok (.invokevirtual 149, 3) := by decide +kernel
theorem dL_law_1236 : decode cL_law 1236 = .ok (.if_icmp .eq 561, 3) := by decide +kernel
theorem dL_law_1239 : decode cL_law 1239 = .ok (.iconst 0, 1) := by decide +kernel
theorem dL_law_1240 : decode cL_law 1240 = .ok (.ireturn, 1) := by decide +kernel
theorem dL_law_1241 : decode cL_law 1241 = .ok (.aload_n 1, 1) := by decide +kernel
theorem dL_law_1242 : decode cL_law 1242 = .ok (.invokevirtual 150, 3) := by decide +kernel
theorem dL_law_1245 : decode cL_law 1245 = .ok (.aload_n 2, 1) := by decide +kernel
theorem dL_law_1246 : decode cL_law 1246 = .ok (.invokevirtual 153, 3) := by decide +kernel
theorem dL_law_1249 : decode cL_law 1249 = .ok (.if_icmp .eq 548, 3) := by decide +kernel
theorem dL_law_1252 : decode cL_law 1252 = .ok (.iconst 0, 1) := by decide +kernel
theorem dL_law_1253 : decode cL_law 1253 = .ok (.ireturn, 1) := by decide +kernel
theorem dL_law_1254 : decode cL_law 1254 = .ok (.aload_n 1, 1) := by decide +kernel
theorem dL_law_1255 : decode cL_law 1255 = .ok (.aload_n 0, 1) := by decide +kernel
theorem dL_law_1256 : decode cL_law 1256 = .ok (.iload 4, 2) := by decide +kernel
theorem dL_law_1258 : decode cL_law 1258 = .ok (.iconst 1, 1) := by decide +kernel
theorem dL_law_1259 : decode cL_law 1259 = .ok (.iadd, 1) := by decide +kernel
theorem dL_law_1260 : decode cL_law 1260 = .ok (.iaload, 1) := by decide +kernel
theorem dL_law_1261 : decode cL_law 1261 = .ok (.aload_n 0, 1) := by decide +kernel
theorem dL_law_1262 : decode cL_law 1262 = .ok (.iload 4, 2) := by decide +kernel
theorem dL_law_1264 : decode cL_law 1264 = .ok (.iconst 2, 1) := by decide +kernel
theorem dL_law_1265 : decode cL_law 1265 = .ok (.iadd, 1) := by decide +kernel
theorem dL_law_1266 : decode cL_law 1266 = .ok (.iaload, 1) := by decide +kernel
theorem dL_law_1267 : decode cL_law 1267 = .ok (.aload_n 3, 1) := by decide +kernel
theorem dL_law_1268 : decode cL_law 1268 = .ok (.invokestatic 154, 3) := by decide +kernel
theorem dL_law_1271 : decode cL_law 1271 = .ok (.istore 5, 2) := by decide +kernel
theorem dL_law_1273 : decode cL_law 1273 = .ok (.aload_n 2, 1) := by decide +kernel
theorem dL_law_1274 : decode cL_law 1274 = .ok (.aload_n 0, 1) := by decide +kernel
theorem dL_law_1275 : decode cL_law 1275 = .ok (.iload 4, 2) := by decide +kernel
theorem dL_law_1277 : decode cL_law 1277 = .ok (.iconst 1, 1) := by decide +kernel
theorem dL_law_1278 : decode cL_law 1278 = .ok (.iadd, 1) := by decide +kernel
theorem dL_law_1279 : decode cL_law 1279 = .ok (.iaload, 1) := by decide +kernel
theorem dL_law_1280 : decode cL_law 1280 = .ok (.aload_n 0, 1) := by decide +kernel
theorem dL_law_1281 : decode cL_law 1281 = .ok (.iload 4, 2) := by decide +kernel
theorem dL_law_1283 : decode cL_law 1283 = .ok (.iconst 2, 1) := by decide +kernel
theorem dL_law_1284 : decode cL_law 1284 = .ok (.iadd, 1) := by decide +kernel
theorem dL_law_1285 : decode cL_law 1285 = .ok (.iaload, 1) := by decide +kernel
theorem dL_law_1286 : decode cL_law 1286 = .ok (.invokevirtual 156, 3) := by decide +kernel
theorem dL_law_1289 : decode cL_law 1289 = .ok (.istore 6, 2) := by decide +kernel
theorem dL_law_1291 : decode cL_law 1291 = .ok (.aload_n 2, 1) := by decide +kernel
theorem dL_law_1292 : decode cL_law 1292 = .ok (.invokevirtual 97, 3) := by decide +kernel
theorem dL_law_1295 : decode cL_law 1295 = .ok (.iload 5, 2) := by decide +kernel
theorem dL_law_1297 : decode cL_law 1297 = .ok (.if_icmp .eq 5, 3) := by decide +kernel
theorem dL_law_1300 : decode cL_law 1300 = .ok (.iconst 0, 1) := by decide +kernel
theorem dL_law_1301 : decode cL_law 1301 = .ok (.ireturn, 1) := by decide +kernel
theorem dL_law_1302 : decode cL_law 1302 = .ok (.iload 5, 2) := by decide +kernel
theorem dL_law_1304 : decode cL_law 1304 = .ok (.ifCond .ne 15, 3) := by decide +kernel
theorem dL_law_1307 : decode cL_law 1307 = .ok (.aload_n 3, 1) := by decide +kernel
theorem dL_law_1308 : decode cL_law 1308 = .ok (.iconst 0, 1) := by decide +kernel
theorem dL_law_1309 : decode cL_law 1309 = .ok (.laload, 1) := by decide +kernel
theorem dL_law_1310 : decode cL_law 1310 = .ok (.iload 6, 2) := by decide +kernel
theorem dL_law_1312 : decode cL_law 1312 = .ok (.i2l, 1) := by decide +kernel
theorem dL_law_1313 : decode cL_law 1313 = .ok (.lcmp, 1) := by decide +kernel
theorem dL_law_1314 : decode cL_law 1314 = .ok (.ifCond .eq 5, 3) := by decide +kernel
theorem dL_law_1317 : decode cL_law 1317 = .ok (.iconst 0, 1) := by decide +kernel
theorem dL_law_1318 : decode cL_law 1318 = .ok (.ireturn, 1) := by decide +kernel
theorem dL_law_1319 : decode cL_law 1319 = .ok (.goto 478, 3) := by decide +kernel
theorem dL_law_1322 : decode cL_law 1322 = .ok (.aload_n 1, 1) := by decide +kernel
theorem dL_law_1323 : decode cL_law 1323 = .ok (.aload_n 0, 1) := by decide +kernel
theorem dL_law_1324 : decode cL_law 1324 = .ok (.iload 4, 2) := by decide +kernel
theorem dL_law_1326 : decode cL_law 1326 = .ok (.iconst 1, 1) := by decide +kernel
theorem dL_law_1327 : decode cL_law 1327 = .ok (.iadd, 1) := by decide +kernel
theorem dL_law_1328 : decode cL_law 1328 = .ok (.iaload, 1) := by decide +kernel
theorem dL_law_1329 : decode cL_law 1329 = .ok (.aload_n 0, 1) := by decide +kernel
theorem dL_law_1330 : decode cL_law 1330 = .ok (.iload 4, 2) := by decide +kernel
theorem dL_law_1332 : decode cL_law 1332 = .ok (.iconst 2, 1) := by decide +kernel
theorem dL_law_1333 : decode cL_law 1333 = .ok (.iadd, 1) := by decide +kernel
theorem dL_law_1334 : decode cL_law 1334 = .ok (.iaload, 1) := by decide +kernel
theorem dL_law_1335 : decode cL_law 1335 = .ok (.aload_n 0, 1) := by decide +kernel
theorem dL_law_1336 : decode cL_law 1336 = .ok (.iload 4, 2) := by decide +kernel
theorem dL_law_1338 : decode cL_law 1338 = .ok (.iconst 3, 1) := by decide +kernel
theorem dL_law_1339 : decode cL_law 1339 = .ok (.iadd, 1) := by decide +kernel
theorem dL_law_1340 : decode cL_law 1340 = .ok (.iaload, 1) := by decide +kernel
theorem dL_law_1341 : decode cL_law 1341 = .ok (.aload_n 3, 1) := by decide +kernel
theorem dL_law_1342 : decode cL_law 1342 = .ok (.invokestatic 157, 3) := by decide +kernel
theorem dL_law_1345 : decode cL_law 1345 = .ok (.istore 5, 2) := by decide +kernel
theorem dL_law_1347 : decode cL_law 1347 = .ok (.aload_n 2, 1) := by decide +kernel
theorem dL_law_1348 : decode cL_law 1348 = .ok (.aload_n 0, 1) := by decide +kernel
theorem dL_law_1349 : decode cL_law 1349 = .ok (.iload 4, 2) := by decide +kernel
theorem dL_law_1351 : decode cL_law 1351 = .ok (.iconst 1, 1) := by decide +kernel
theorem dL_law_1352 : decode cL_law 1352 = .ok (.iadd, 1) := by decide +kernel
theorem dL_law_1353 : decode cL_law 1353 = .ok (.iaload, 1) := by decide +kernel
theorem dL_law_1354 : decode cL_law 1354 = .ok (.aload_n 0, 1) := by decide +kernel
theorem dL_law_1355 : decode cL_law 1355 = .ok (.iload 4, 2) := by decide +kernel
theorem dL_law_1357 : decode cL_law 1357 = .ok (.iconst 2, 1) := by decide +kernel
theorem dL_law_1358 : decode cL_law 1358 = .ok (.iadd, 1) := by decide +kernel
theorem dL_law_1359 : decode cL_law 1359 = .ok (.iaload, 1) := by decide +kernel
theorem dL_law_1360 : decode cL_law 1360 = .ok (.aload_n 0, 1) := by decide +kernel
theorem dL_law_1361 : decode cL_law 1361 = .ok (.iload 4, 2) := by decide +kernel
theorem dL_law_1363 : decode cL_law 1363 = .ok (.iconst 3, 1) := by decide +kernel
theorem dL_law_1364 : decode cL_law 1364 = .ok (.iadd, 1) := by decide +kernel
theorem dL_law_1365 : decode cL_law 1365 = .ok (.iaload, 1) := by decide +kernel
theorem dL_law_1366 : decode cL_law 1366 = .ok (.invokevirtual 159, 3) := by decide +kernel
theorem dL_law_1369 : decode cL_law 1369 = .ok (.istore 6, 2) := by decide +kernel
theorem dL_law_1371 : decode cL_law 1371 = .ok (.aload_n 2, 1) := by decide +kernel
theorem dL_law_1372 : decode cL_law 1372 = .ok (.invokevirtual 97, 3) := by decide +kernel
theorem dL_law_1375 : decode cL_law 1375 = .ok (.iload 5, 2) := by decide +kernel
theorem dL_law_1377 : decode cL_law 1377 = .ok (.if_icmp .eq 5, 3) := by decide +kernel
theorem dL_law_1380 : decode cL_law 1380 = .ok (.iconst 0, 1) := by decide +kernel
theorem dL_law_1381 : decode cL_law 1381 = .ok (.ireturn, 1) := by decide +kernel
theorem dL_law_1382 : decode cL_law 1382 = .ok (.iload 5, 2) := by decide +kernel
theorem dL_law_1384 : decode cL_law 1384 = .ok (.ifCond .ne 15, 3) := by decide +kernel
theorem dL_law_1387 : decode cL_law 1387 = .ok (.aload_n 3, 1) := by decide +kernel
theorem dL_law_1388 : decode cL_law 1388 = .ok (.iconst 0, 1) := by decide +kernel
theorem dL_law_1389 : decode cL_law 1389 = .ok (.laload, 1) := by decide +kernel
theorem dL_law_1390 : decode cL_law 1390 = .ok (.iload 6, 2) := by decide +kernel
theorem dL_law_1392 : decode cL_law 1392 = .ok (.i2l, 1) := by decide +kernel
theorem dL_law_1393 : decode cL_law 1393 = .ok (.lcmp, 1) := by decide +kernel
theorem dL_law_1394 : decode cL_law 1394 = .ok (.ifCond .eq 5, 3) := by decide +kernel
theorem dL_law_1397 : decode cL_law 1397 = .ok (.iconst 0, 1) := by decide +kernel
theorem dL_law_1398 : decode cL_law 1398 = .ok (.ireturn, 1) := by decide +kernel
theorem dL_law_1399 : decode cL_law 1399 = .ok (.goto 398, 3) := by decide +kernel
theorem dL_law_1402 : decode cL_law 1402 = .ok (.aload_n 1, 1) := by decide +kernel
theorem dL_law_1403 : decode cL_law 1403 = .ok (.aload_n 0, 1) := by decide +kernel
theorem dL_law_1404 : decode cL_law 1404 = .ok (.iload 4, 2) := by decide +kernel
theorem dL_law_1406 : decode cL_law 1406 = .ok (.iconst 1, 1) := by decide +kernel
theorem dL_law_1407 : decode cL_law 1407 = .ok (.iadd, 1) := by decide +kernel
theorem dL_law_1408 : decode cL_law 1408 = .ok (.iaload, 1) := by decide +kernel
theorem dL_law_1409 : decode cL_law 1409 = .ok (.aload_n 0, 1) := by decide +kernel
theorem dL_law_1410 : decode cL_law 1410 = .ok (.iload 4, 2) := by decide +kernel
theorem dL_law_1412 : decode cL_law 1412 = .ok (.iconst 2, 1) := by decide +kernel
theorem dL_law_1413 : decode cL_law 1413 = .ok (.iadd, 1) := by decide +kernel
theorem dL_law_1414 : decode cL_law 1414 = .ok (.iaload, 1) := by decide +kernel
theorem dL_law_1415 : decode cL_law 1415 = .ok (.aload_n 0, 1) := by decide +kernel
theorem dL_law_1416 : decode cL_law 1416 = .ok (.iload 4, 2) := by decide +kernel
theorem dL_law_1418 : decode cL_law 1418 = .ok (.iconst 3, 1) := by decide +kernel
theorem dL_law_1419 : decode cL_law 1419 = .ok (.iadd, 1) := by decide +kernel
theorem dL_law_1420 : decode cL_law 1420 = .ok (.iaload, 1) := by decide +kernel
theorem dL_law_1421 : decode cL_law 1421 = .ok (.aload_n 0, 1) := by decide +kernel
theorem dL_law_1422 : decode cL_law 1422 = .ok (.iload 4, 2) := by decide +kernel
theorem dL_law_1424 : decode cL_law 1424 = .ok (.iconst 4, 1) := by decide +kernel
theorem dL_law_1425 : decode cL_law 1425 = .ok (.iadd, 1) := by decide +kernel
theorem dL_law_1426 : decode cL_law 1426 = .ok (.iaload, 1) := by decide +kernel
theorem dL_law_1427 : decode cL_law 1427 = .ok (.aload_n 3, 1) := by decide +kernel
theorem dL_law_1428 : decode cL_law 1428 = .ok (.invokestatic 160, 3) := by decide +kernel
theorem dL_law_1431 : decode cL_law 1431 = .ok (.istore 5, 2) := by decide +kernel
theorem dL_law_1433 : decode cL_law 1433 = .ok (.aload_n 2, 1) := by decide +kernel
theorem dL_law_1434 : decode cL_law 1434 = .ok (.aload_n 0, 1) := by decide +kernel
theorem dL_law_1435 : decode cL_law 1435 = .ok (.iload 4, 2) := by decide +kernel
theorem dL_law_1437 : decode cL_law 1437 = .ok (.iconst 1, 1) := by decide +kernel
theorem dL_law_1438 : decode cL_law 1438 = .ok (.iadd, 1) := by decide +kernel
theorem dL_law_1439 : decode cL_law 1439 = .ok (.iaload, 1) := by decide +kernel
theorem dL_law_1440 : decode cL_law 1440 = .ok (.aload_n 0, 1) := by decide +kernel
theorem dL_law_1441 : decode cL_law 1441 = .ok (.iload 4, 2) := by decide +kernel
theorem dL_law_1443 : decode cL_law 1443 = .ok (.iconst 2, 1) := by decide +kernel
theorem dL_law_1444 : decode cL_law 1444 = .ok (.iadd, 1) := by decide +kernel
theorem dL_law_1445 : decode cL_law 1445 = .ok (.iaload, 1) := by decide +kernel
theorem dL_law_1446 : decode cL_law 1446 = .ok (.aload_n 0, 1) := by decide +kernel
theorem dL_law_1447 : decode cL_law 1447 = .ok (.iload 4, 2) := by decide +kernel
theorem dL_law_1449 : decode cL_law 1449 = .ok (.iconst 3, 1) := by decide +kernel
theorem dL_law_1450 : decode cL_law 1450 = .ok (.iadd, 1) := by decide +kernel
theorem dL_law_1451 : decode cL_law 1451 = .ok (.iaload, 1) := by decide +kernel
theorem dL_law_1452 : decode cL_law 1452 = .ok (.aload_n 0, 1) := by decide +kernel
theorem dL_law_1453 : decode cL_law 1453 = .ok (.iload 4, 2) := by decide +kernel
theorem dL_law_1455 : decode cL_law 1455 = .ok (.iconst 4, 1) := by decide +kernel
theorem dL_law_1456 : decode cL_law 1456 = .ok (.iadd, 1) := by decide +kernel
theorem dL_law_1457 : decode cL_law 1457 = .ok (.iaload, 1) := by decide +kernel
theorem dL_law_1458 : decode cL_law 1458 = .ok (.invokevirtual 162, 3) := by decide +kernel
theorem dL_law_1461 : decode cL_law 1461 = .ok (.istore 6, 2) := by decide +kernel
theorem dL_law_1463 : decode cL_law 1463 = .ok (.aload_n 2, 1) := by decide +kernel
theorem dL_law_1464 : decode cL_law 1464 = .ok (.invokevirtual 97, 3) := by decide +kernel
theorem dL_law_1467 : decode cL_law 1467 = .ok (.iload 5, 2) := by decide +kernel
theorem dL_law_1469 : decode cL_law 1469 = .ok (.if_icmp .eq 5, 3) := by decide +kernel
theorem dL_law_1472 : decode cL_law 1472 = .ok (.iconst 0, 1) := by decide +kernel
theorem dL_law_1473 : decode cL_law 1473 = .ok (.ireturn, 1) := by decide +kernel
theorem dL_law_1474 : decode cL_law 1474 = .ok (.iload 5, 2) := by decide +kernel
theorem dL_law_1476 : decode cL_law 1476 = .ok (.ifCond .ne 15, 3) := by decide +kernel
theorem dL_law_1479 : decode cL_law 1479 = .ok (.aload_n 3, 1) := by decide +kernel
theorem dL_law_1480 : decode cL_law 1480 = .ok (.iconst 0, 1) := by decide +kernel
theorem dL_law_1481 : decode cL_law 1481 = .ok (.laload, 1) := by decide +kernel
theorem dL_law_1482 : decode cL_law 1482 = .ok (.iload 6, 2) := by decide +kernel
theorem dL_law_1484 : decode cL_law 1484 = .ok (.i2l, 1) := by decide +kernel
theorem dL_law_1485 : decode cL_law 1485 = .ok (.lcmp, 1) := by decide +kernel
theorem dL_law_1486 : decode cL_law 1486 = .ok (.ifCond .eq 5, 3) := by decide +kernel
theorem dL_law_1489 : decode cL_law 1489 = .ok (.iconst 0, 1) := by decide +kernel
theorem dL_law_1490 : decode cL_law 1490 = .ok (.ireturn, 1) := by decide +kernel
theorem dL_law_1491 : decode cL_law 1491 = .ok (.goto 306, 3) := by decide +kernel
theorem dL_law_1494 : decode cL_law 1494 = .ok (.aload_n 1, 1) := by decide +kernel
theorem dL_law_1495 : decode cL_law 1495 = .ok (.aload_n 0, 1) := by decide +kernel
theorem dL_law_1496 : decode cL_law 1496 = .ok (.iload 4, 2) := by decide +kernel
theorem dL_law_1498 : decode cL_law 1498 = .ok (.iconst 1, 1) := by decide +kernel
theorem dL_law_1499 : decode cL_law 1499 = .ok (.iadd, 1) := by decide +kernel
theorem dL_law_1500 : decode cL_law 1500 = .ok (.iaload, 1) := by decide +kernel
theorem dL_law_1501 : decode cL_law 1501 = .ok (.aload_n 0, 1) := by decide +kernel
theorem dL_law_1502 : decode cL_law 1502 = .ok (.iload 4, 2) := by decide +kernel
theorem dL_law_1504 : decode cL_law 1504 = .ok (.iconst 2, 1) := by decide +kernel
theorem dL_law_1505 : decode cL_law 1505 = .ok (.iadd, 1) := by decide +kernel
theorem dL_law_1506 : decode cL_law 1506 = .ok (.iaload, 1) := by decide +kernel
theorem dL_law_1507 : decode cL_law 1507 = .ok (.aload_n 0, 1) := by decide +kernel
theorem dL_law_1508 : decode cL_law 1508 = .ok (.iload 4, 2) := by decide +kernel
theorem dL_law_1510 : decode cL_law 1510 = .ok (.iconst 3, 1) := by decide +kernel
theorem dL_law_1511 : decode cL_law 1511 = .ok (.iadd, 1) := by decide +kernel
theorem dL_law_1512 : decode cL_law 1512 = .ok (.iaload, 1) := by decide +kernel
theorem dL_law_1513 : decode cL_law 1513 = .ok (.aload_n 3, 1) := by decide +kernel
theorem dL_law_1514 : decode cL_law 1514 = .ok (.invokestatic 163, 3) := by decide +kernel
theorem dL_law_1517 : decode cL_law 1517 = .ok (.istore 5, 2) := by decide +kernel
theorem dL_law_1519 : decode cL_law 1519 = .ok (.aload_n 2, 1) := by decide +kernel
theorem dL_law_1520 : decode cL_law 1520 = .ok (.aload_n 0, 1) := by decide +kernel
theorem dL_law_1521 : decode cL_law 1521 = .ok (.iload 4, 2) := by decide +kernel
theorem dL_law_1523 : decode cL_law 1523 = .ok (.iconst 1, 1) := by decide +kernel
theorem dL_law_1524 : decode cL_law 1524 = .ok (.iadd, 1) := by decide +kernel
theorem dL_law_1525 : decode cL_law 1525 = .ok (.iaload, 1) := by decide +kernel
theorem dL_law_1526 : decode cL_law 1526 = .ok (.aload_n 0, 1) := by decide +kernel
theorem dL_law_1527 : decode cL_law 1527 = .ok (.iload 4, 2) := by decide +kernel
theorem dL_law_1529 : decode cL_law 1529 = .ok (.iconst 2, 1) := by decide +kernel
theorem dL_law_1530 : decode cL_law 1530 = .ok (.iadd, 1) := by decide +kernel
theorem dL_law_1531 : decode cL_law 1531 = .ok (.iaload, 1) := by decide +kernel
theorem dL_law_1532 : decode cL_law 1532 = .ok (.aload_n 0, 1) := by decide +kernel
theorem dL_law_1533 : decode cL_law 1533 = .ok (.iload 4, 2) := by decide +kernel
theorem dL_law_1535 : decode cL_law 1535 = .ok (.iconst 3, 1) := by decide +kernel
theorem dL_law_1536 : decode cL_law 1536 = .ok (.iadd, 1) := by decide +kernel
theorem dL_law_1537 : decode cL_law 1537 = .ok (.iaload, 1) := by decide +kernel
theorem dL_law_1538 : decode cL_law 1538 = .ok (.invokevirtual 165, 3) := by decide +kernel
theorem dL_law_1541 : decode cL_law 1541 = .ok (.istore 6, 2) := by decide +kernel
theorem dL_law_1543 : decode cL_law 1543 = .ok (.aload_n 2, 1) := by decide +kernel
theorem dL_law_1544 : decode cL_law 1544 = .ok (.invokevirtual 97, 3) := by decide +kernel
theorem dL_law_1547 : decode cL_law 1547 = .ok (.iload 5, 2) := by decide +kernel
theorem dL_law_1549 : decode cL_law 1549 = .ok (.if_icmp .eq 5, 3) := by decide +kernel
theorem dL_law_1552 : decode cL_law 1552 = .ok (.iconst 0, 1) := by decide +kernel
theorem dL_law_1553 : decode cL_law 1553 = .ok (.ireturn, 1) := by decide +kernel
theorem dL_law_1554 : decode cL_law 1554 = .ok (.iload 5, 2) := by decide +kernel
theorem dL_law_1556 : decode cL_law 1556 = .ok (.ifCond .ne 15, 3) := by decide +kernel
theorem dL_law_1559 : decode cL_law 1559 = .ok (.aload_n 3, 1) := by decide +kernel
theorem dL_law_1560 : decode cL_law 1560 = .ok (.iconst 0, 1) := by decide +kernel
theorem dL_law_1561 : decode cL_law 1561 = .ok (.laload, 1) := by decide +kernel
theorem dL_law_1562 : decode cL_law 1562 = .ok (.iload 6, 2) := by decide +kernel
theorem dL_law_1564 : decode cL_law 1564 = .ok (.i2l, 1) := by decide +kernel
theorem dL_law_1565 : decode cL_law 1565 = .ok (.lcmp, 1) := by decide +kernel
theorem dL_law_1566 : decode cL_law 1566 = .ok (.ifCond .eq 5, 3) := by decide +kernel
theorem dL_law_1569 : decode cL_law 1569 = .ok (.iconst 0, 1) := by decide +kernel
theorem dL_law_1570 : decode cL_law 1570 = .ok (.ireturn, 1) := by decide +kernel
theorem dL_law_1571 : decode cL_law 1571 = .ok (.goto 226, 3) := by decide +kernel
theorem dL_law_1574 : decode cL_law 1574 = .ok (.aload_n 1, 1) := by decide +kernel
theorem dL_law_1575 : decode cL_law 1575 = .ok (.aload_n 0, 1) := by decide +kernel
theorem dL_law_1576 : decode cL_law 1576 = .ok (.iload 4, 2) := by decide +kernel
theorem dL_law_1578 : decode cL_law 1578 = .ok (.iconst 1, 1) := by decide +kernel
theorem dL_law_1579 : decode cL_law 1579 = .ok (.iadd, 1) := by decide +kernel
theorem dL_law_1580 : decode cL_law 1580 = .ok (.iaload, 1) := by decide +kernel
theorem dL_law_1581 : decode cL_law 1581 = .ok (.aload_n 0, 1) := by decide +kernel
theorem dL_law_1582 : decode cL_law 1582 = .ok (.iload 4, 2) := by decide +kernel
theorem dL_law_1584 : decode cL_law 1584 = .ok (.iconst 2, 1) := by decide +kernel
theorem dL_law_1585 : decode cL_law 1585 = .ok (.iadd, 1) := by decide +kernel
theorem dL_law_1586 : decode cL_law 1586 = .ok (.iaload, 1) := by decide +kernel
theorem dL_law_1587 : decode cL_law 1587 = .ok (.aload_n 3, 1) := by decide +kernel
theorem dL_law_1588 : decode cL_law 1588 = .ok (.invokestatic 166, 3) := by decide +kernel
theorem dL_law_1591 : decode cL_law 1591 = .ok (.istore 5, 2) := by decide +kernel
theorem dL_law_1593 : decode cL_law 1593 = .ok (.aload_n 2, 1) := by decide +kernel
theorem dL_law_1594 : decode cL_law 1594 = .ok (.aload_n 0, 1) := by decide +kernel
theorem dL_law_1595 : decode cL_law 1595 = .ok (.iload 4, 2) := by decide +kernel
theorem dL_law_1597 : decode cL_law 1597 = .ok (.iconst 1, 1) := by decide +kernel
theorem dL_law_1598 : decode cL_law 1598 = .ok (.iadd, 1) := by decide +kernel
theorem dL_law_1599 : decode cL_law 1599 = .ok (.iaload, 1) := by decide +kernel
theorem dL_law_1600 : decode cL_law 1600 = .ok (.aload_n 0, 1) := by decide +kernel
theorem dL_law_1601 : decode cL_law 1601 = .ok (.iload 4, 2) := by decide +kernel
theorem dL_law_1603 : decode cL_law 1603 = .ok (.iconst 2, 1) := by decide +kernel
theorem dL_law_1604 : decode cL_law 1604 = .ok (.iadd, 1) := by decide +kernel
theorem dL_law_1605 : decode cL_law 1605 = .ok (.iaload, 1) := by decide +kernel
theorem dL_law_1606 : decode cL_law 1606 = .ok (.invokevirtual 168, 3) := by decide +kernel
theorem dL_law_1609 : decode cL_law 1609 = .ok (.istore 6, 2) := by decide +kernel
theorem dL_law_1611 : decode cL_law 1611 = .ok (.aload_n 2, 1) := by decide +kernel
theorem dL_law_1612 : decode cL_law 1612 = .ok (.invokevirtual 97, 3) := by decide +kernel
theorem dL_law_1615 : decode cL_law 1615 = .ok (.iload 5, 2) := by decide +kernel
theorem dL_law_1617 : decode cL_law 1617 = .ok (.if_icmp .eq 5, 3) := by decide +kernel
theorem dL_law_1620 : decode cL_law 1620 = .ok (.iconst 0, 1) := by decide +kernel
theorem dL_law_1621 : decode cL_law 1621 = .ok (.ireturn, 1) := by decide +kernel
theorem dL_law_1622 : decode cL_law 1622 = .ok (.iload 5, 2) := by decide +kernel
theorem dL_law_1624 : decode cL_law 1624 = .ok (.ifCond .ne 22, 3) := by decide +kernel
theorem dL_law_1627 : decode cL_law 1627 = .ok (.aload_n 3, 1) := by decide +kernel
theorem dL_law_1628 : decode cL_law 1628 = .ok (.iconst 0, 1) := by decide +kernel
theorem dL_law_1629 : decode cL_law 1629 = .ok (.laload, 1) := by decide +kernel
theorem dL_law_1630 : decode cL_law 1630 = .ok (.iload 6, 2) := by decide +kernel
theorem dL_law_1632 : decode cL_law 1632 = .ok (.ifCond .eq 7, 3) := by decide +kernel
theorem dL_law_1635 : decode cL_law 1635 = .ok (.lconst 1, 1) := by decide +kernel
theorem dL_law_1636 : decode cL_law 1636 = .ok (.goto 4, 3) := by decide +kernel
theorem dL_law_1639 : decode cL_law 1639 = .ok (.lconst 0, 1) := by decide +kernel
theorem dL_law_1640 : decode cL_law 1640 = .ok (.lcmp, 1) := by decide +kernel
theorem dL_law_1641 : decode cL_law 1641 = .ok (.ifCond .eq 5, 3) := by decide +kernel
theorem dL_law_1644 : decode cL_law 1644 = .ok (.iconst 0, 1) := by decide +kernel
theorem dL_law_1645 : decode cL_law 1645 = .ok (.ireturn, 1) := by decide +kernel
theorem dL_law_1646 : decode cL_law 1646 = .ok (.goto 151, 3) := by decide +kernel
theorem dL_law_1649 : decode cL_law 1649 = .ok (.aload_n 1, 1) := by decide +kernel
theorem dL_law_1650 : decode cL_law 1650 = .ok (.aload_n 0, 1) := by decide +kernel
theorem dL_law_1651 : decode cL_law 1651 = .ok (.iload 4, 2) := by decide +kernel
theorem dL_law_1653 : decode cL_law 1653 = .ok (.iconst 1, 1) := by decide +kernel
theorem dL_law_1654 : decode cL_law 1654 = .ok (.iadd, 1) := by decide +kernel
theorem dL_law_1655 : decode cL_law 1655 = .ok (.iaload, 1) := by decide +kernel
theorem dL_law_1656 : decode cL_law 1656 = .ok (.aload_n 0, 1) := by decide +kernel
theorem dL_law_1657 : decode cL_law 1657 = .ok (.iload 4, 2) := by decide +kernel
theorem dL_law_1659 : decode cL_law 1659 = .ok (.iconst 2, 1) := by decide +kernel
theorem dL_law_1660 : decode cL_law 1660 = .ok (.iadd, 1) := by decide +kernel
theorem dL_law_1661 : decode cL_law 1661 = .ok (.iaload, 1) := by decide +kernel
theorem dL_law_1662 : decode cL_law 1662 = .ok (.aload_n 3, 1) := by decide +kernel
theorem dL_law_1663 : decode cL_law 1663 = .ok (.invokestatic 169, 3) := by decide +kernel
theorem dL_law_1666 : decode cL_law 1666 = .ok (.istore 5, 2) := by decide +kernel
theorem dL_law_1668 : decode cL_law 1668 = .ok (.aload_n 2, 1) := by decide +kernel
theorem dL_law_1669 : decode cL_law 1669 = .ok (.aload_n 0, 1) := by decide +kernel
theorem dL_law_1670 : decode cL_law 1670 = .ok (.iload 4, 2) := by decide +kernel
theorem dL_law_1672 : decode cL_law 1672 = .ok (.iconst 1, 1) := by decide +kernel
theorem dL_law_1673 : decode cL_law 1673 = .ok (.iadd, 1) := by decide +kernel
theorem dL_law_1674 : decode cL_law 1674 = .ok (.iaload, 1) := by decide +kernel
theorem dL_law_1675 : decode cL_law 1675 = .ok (.aload_n 0, 1) := by decide +kernel
theorem dL_law_1676 : decode cL_law 1676 = .ok (.iload 4, 2) := by decide +kernel
theorem dL_law_1678 : decode cL_law 1678 = .ok (.iconst 2, 1) := by decide +kernel
theorem dL_law_1679 : decode cL_law 1679 = .ok (.iadd, 1) := by decide +kernel
theorem dL_law_1680 : decode cL_law 1680 = .ok (.iaload, 1) := by decide +kernel
theorem dL_law_1681 : decode cL_law 1681 = .ok (.invokevirtual 171, 3) := by decide +kernel
theorem dL_law_1684 : decode cL_law 1684 = .ok (.istore 6, 2) := by decide +kernel
theorem dL_law_1686 : decode cL_law 1686 = .ok (.aload_n 2, 1) := by decide +kernel
theorem dL_law_1687 : decode cL_law 1687 = .ok (.invokevirtual 97, 3) := by decide +kernel
theorem dL_law_1690 : decode cL_law 1690 = .ok (.iload 5, 2) := by decide +kernel
theorem dL_law_1692 : decode cL_law 1692 = .ok (.if_icmp .eq 5, 3) := by decide +kernel
theorem dL_law_1695 : decode cL_law 1695 = .ok (.iconst 0, 1) := by decide +kernel
theorem dL_law_1696 : decode cL_law 1696 = .ok (.ireturn, 1) := by decide +kernel
theorem dL_law_1697 : decode cL_law 1697 = .ok (.iload 5, 2) := by decide +kernel
theorem dL_law_1699 : decode cL_law 1699 = .ok (.ifCond .ne 15, 3) := by decide +kernel
theorem dL_law_1702 : decode cL_law 1702 = .ok (.aload_n 3, 1) := by decide +kernel
theorem dL_law_1703 : decode cL_law 1703 = .ok (.iconst 0, 1) := by decide +kernel
theorem dL_law_1704 : decode cL_law 1704 = .ok (.laload, 1) := by decide +kernel
theorem dL_law_1705 : decode cL_law 1705 = .ok (.iload 6, 2) := by decide +kernel
theorem dL_law_1707 : decode cL_law 1707 = .ok (.i2l, 1) := by decide +kernel
theorem dL_law_1708 : decode cL_law 1708 = .ok (.lcmp, 1) := by decide +kernel
theorem dL_law_1709 : decode cL_law 1709 = .ok (.ifCond .eq 5, 3) := by decide +kernel
theorem dL_law_1712 : decode cL_law 1712 = .ok (.iconst 0, 1) := by decide +kernel
theorem dL_law_1713 : decode cL_law 1713 = .ok (.ireturn, 1) := by decide +kernel
theorem dL_law_1714 : decode cL_law 1714 = .ok (.goto 83, 3) := by decide +kernel
theorem dL_law_1717 : decode cL_law 1717 = .ok (.aload_n 1, 1) := by decide +kernel
theorem dL_law_1718 : decode cL_law 1718 = .ok (.aload_n 0, 1) := by decide +kernel
theorem dL_law_1719 : decode cL_law 1719 = .ok (.iload 4, 2) := by decide +kernel
theorem dL_law_1721 : decode cL_law 1721 = .ok (.iconst 1, 1) := by decide +kernel
theorem dL_law_1722 : decode cL_law 1722 = .ok (.iadd, 1) := by decide +kernel
theorem dL_law_1723 : decode cL_law 1723 = .ok (.iaload, 1) := by decide +kernel
theorem dL_law_1724 : decode cL_law 1724 = .ok (.aload_n 0, 1) := by decide +kernel
theorem dL_law_1725 : decode cL_law 1725 = .ok (.iload 4, 2) := by decide +kernel
theorem dL_law_1727 : decode cL_law 1727 = .ok (.iconst 2, 1) := by decide +kernel
theorem dL_law_1728 : decode cL_law 1728 = .ok (.iadd, 1) := by decide +kernel
theorem dL_law_1729 : decode cL_law 1729 = .ok (.iaload, 1) := by decide +kernel
theorem dL_law_1730 : decode cL_law 1730 = .ok (.aload_n 0, 1) := by decide +kernel
theorem dL_law_1731 : decode cL_law 1731 = .ok (.iload 4, 2) := by decide +kernel
theorem dL_law_1733 : decode cL_law 1733 = .ok (.iconst 3, 1) := by decide +kernel
theorem dL_law_1734 : decode cL_law 1734 = .ok (.iadd, 1) := by decide +kernel
theorem dL_law_1735 : decode cL_law 1735 = .ok (.iaload, 1) := by decide +kernel
theorem dL_law_1736 : decode cL_law 1736 = .ok (.aload_n 3, 1) := by decide +kernel
theorem dL_law_1737 : decode cL_law 1737 = .ok (.invokestatic 172, 3) := by decide +kernel
theorem dL_law_1740 : decode cL_law 1740 = .ok (.istore 5, 2) := by decide +kernel
theorem dL_law_1742 : decode cL_law 1742 = .ok (.aload_n 2, 1) := by decide +kernel
theorem dL_law_1743 : decode cL_law 1743 = .ok (.aload_n 0, 1) := by decide +kernel
theorem dL_law_1744 : decode cL_law 1744 = .ok (.iload 4, 2) := by decide +kernel
theorem dL_law_1746 : decode cL_law 1746 = .ok (.iconst 1, 1) := by decide +kernel
theorem dL_law_1747 : decode cL_law 1747 = .ok (.iadd, 1) := by decide +kernel
theorem dL_law_1748 : decode cL_law 1748 = .ok (.iaload, 1) := by decide +kernel
theorem dL_law_1749 : decode cL_law 1749 = .ok (.aload_n 0, 1) := by decide +kernel
theorem dL_law_1750 : decode cL_law 1750 = .ok (.iload 4, 2) := by decide +kernel
theorem dL_law_1752 : decode cL_law 1752 = .ok (.iconst 2, 1) := by decide +kernel
theorem dL_law_1753 : decode cL_law 1753 = .ok (.iadd, 1) := by decide +kernel
theorem dL_law_1754 : decode cL_law 1754 = .ok (.iaload, 1) := by decide +kernel
theorem dL_law_1755 : decode cL_law 1755 = .ok (.aload_n 0, 1) := by decide +kernel
theorem dL_law_1756 : decode cL_law 1756 = .ok (.iload 4, 2) := by decide +kernel
theorem dL_law_1758 : decode cL_law 1758 = .ok (.iconst 3, 1) := by decide +kernel
theorem dL_law_1759 : decode cL_law 1759 = .ok (.iadd, 1) := by decide +kernel
theorem dL_law_1760 : decode cL_law 1760 = .ok (.iaload, 1) := by decide +kernel
theorem dL_law_1761 : decode cL_law 1761 = .ok (.invokevirtual 174, 3) := by decide +kernel
theorem dL_law_1764 : decode cL_law 1764 = .ok (.istore 6, 2) := by decide +kernel
theorem dL_law_1766 : decode cL_law 1766 = .ok (.aload_n 2, 1) := by decide +kernel
theorem dL_law_1767 : decode cL_law 1767 = .ok (.invokevirtual 97, 3) := by decide +kernel
theorem dL_law_1770 : decode cL_law 1770 = .ok (.iload 5, 2) := by decide +kernel
theorem dL_law_1772 : decode cL_law 1772 = .ok (.if_icmp .eq 5, 3) := by decide +kernel
theorem dL_law_1775 : decode cL_law 1775 = .ok (.iconst 0, 1) := by decide +kernel
theorem dL_law_1776 : decode cL_law 1776 = .ok (.ireturn, 1) := by decide +kernel
theorem dL_law_1777 : decode cL_law 1777 = .ok (.iload 5, 2) := by decide +kernel
theorem dL_law_1779 : decode cL_law 1779 = .ok (.ifCond .ne 15, 3) := by decide +kernel
theorem dL_law_1782 : decode cL_law 1782 = .ok (.aload_n 3, 1) := by decide +kernel
theorem dL_law_1783 : decode cL_law 1783 = .ok (.iconst 0, 1) := by decide +kernel
theorem dL_law_1784 : decode cL_law 1784 = .ok (.laload, 1) := by decide +kernel
theorem dL_law_1785 : decode cL_law 1785 = .ok (.iload 6, 2) := by decide +kernel
theorem dL_law_1787 : decode cL_law 1787 = .ok (.i2l, 1) := by decide +kernel
theorem dL_law_1788 : decode cL_law 1788 = .ok (.lcmp, 1) := by decide +kernel
theorem dL_law_1789 : decode cL_law 1789 = .ok (.ifCond .eq 5, 3) := by decide +kernel
theorem dL_law_1792 : decode cL_law 1792 = .ok (.iconst 0, 1) := by decide +kernel
theorem dL_law_1793 : decode cL_law 1793 = .ok (.ireturn, 1) := by decide +kernel
theorem dL_law_1794 : decode cL_law 1794 = .ok (.goto 3, 3) := by decide +kernel
theorem dL_law_1797 : decode cL_law 1797 = .ok (.iinc 4 6, 3) := by decide +kernel
theorem dL_law_1800 : decode cL_law 1800 = .ok (.goto (-1777), 3) := by decide +kernel
theorem dL_law_1803 : decode cL_law 1803 = .ok (.iconst 1, 1) := by decide +kernel
theorem dL_law_1804 : decode cL_law 1804 = .ok (.ireturn, 1) := by decide +kernel
end
section
/-! THE ABSTRACT MACHINE: ints as whole numbers in range, a heap of shapes, numbers and references by address and place; a program of the listed methods. Its runs are runs of the machine (part 09). -/
abbrev aV : Type := Int ⊕ (Int ⊕ Nat)
abbrev vI (i : Int) : aV := .inl i
abbrev vL (i : Int) : aV := .inr (.inl i)
abbrev vR (a : Nat) : aV := .inr (.inr a)
/-- shapes (kind, size; kind 0: none), numbers, references, the next address, slots used -/
abbrev aH : Type := (Nat → Nat × Nat) × (Nat → Nat → Int) × (Nat → Nat → Option Nat) × Nat × Nat
def hsh (h : aH) : Nat → Nat × Nat := h.1
def hiv (h : aH) : Nat → Nat → Int := h.2.1
def hrf (h : aH) : Nat → Nat → Option Nat := h.2.2.1
def hnx (h : aH) : Nat := h.2.2.2.1
def hks (h : aH) : Nat := h.2.2.2.2
/-- f, but x at the place k of a -/
def up2 {α : Type} (f : Nat → Nat → α) (a k : Nat) (x : α) : Nat → Nat → α := fun b j => if b = a ∧ j = k then x else f b j
def up1 {α : Type} (f : Nat → α) (a : Nat) (x : α) : Nat → α := fun b => if b = a then x else f b
def hwi (h : aH) (a k : Nat) (x : Int) : aH := (h.1, up2 h.2.1 a k x, h.2.2)
def hwr (h : aH) (a k : Nat) (r : Option Nat) : aH := (h.1, h.2.1, up2 h.2.2.1 a k r, h.2.2.2)
/-- a new cell of this kind, size and slots -/
def hnw (h : aH) (t n : Nat) : aH := (up1 h.1 h.2.2.2.1 (t, n), h.2.1, h.2.2.1, h.2.2.2.1 + 1, h.2.2.2.2 + n)
/-- an exception was made -/
def hth (h : aH) : aH := (h.1, h.2.1, h.2.2.1, h.2.2.2.1 + 1, h.2.2.2.2 + 6)
/-- n int arrays of size k behind an array of them -/
def hml (h : aH) (n k : Nat) : aH := (fun b => if b = h.2.2.2.1 then (40, n) else if h.2.2.2.1 < b ∧ b ≤ h.2.2.2.1 + n then (20, k) else h.1 b, h.2.1, fun b j => if b = h.2.2.2.1 ∧ j < n then some (h.2.2.2.1 + 1 + j) else h.2.2.1 b j, h.2.2.2.1 + 1 + n, h.2.2.2.2 + n + n * k)
/-- name, code, class, locals, what is returned, how many are taken, whether it's a constructor, handlers, frames and words above it -/
abbrev aM : Type := MethodName × ByteArray × Nat × Nat × Option FieldType × Nat × Bool × List (Nat × Nat × Nat × Nat) × Nat × Nat
def am_y (μ : aM) : MethodName := μ.1
def am_cc (μ : aM) : ByteArray := μ.2.1
def am_own (μ : aM) : Nat := μ.2.2.1
def am_mx (μ : aM) : Nat := μ.2.2.2.1
def am_rt (μ : aM) : Option FieldType := μ.2.2.2.2.1
def am_na (μ : aM) : Nat := μ.2.2.2.2.2.1
def am_ini (μ : aM) : Bool := μ.2.2.2.2.2.2.1
def am_hh (μ : aM) : List (Nat × Nat × Nat × Nat) := μ.2.2.2.2.2.2.2.1
def am_nF (μ : aM) : Nat := μ.2.2.2.2.2.2.2.2.1
def am_nL (μ : aM) : Nat := μ.2.2.2.2.2.2.2.2.2
def am_cn : Nat → String := fun o => match o with
  | 0 => RX0
  | 1 => RX1
  | 2 => RX2
  | 3 => RX3
  | 4 => RX4
  | 5 => RX5
  | 6 => RX6
  | 7 => RX7
  | 8 => RX8
  | 9 => RL
  | _ => RJ9
/-- how many fields, and which hold numbers (1), booleans (2), references (0); which are final -/
def am_fN : Nat → Nat := fun c => match c with
  | 0 => 3
  | 1 => 2
  | 2 => 6
  | 3 => 3
  | 4 => 2
  | 5 => 4
  | 6 => 2
  | 7 => 10
  | 8 => 18
  | _ => 0
def am_fk : Nat → Nat → Nat := fun c k => match c, k with
  | 0, 0 => 2
  | 0, 1 => 1
  | 2, 0 => 1
  | 2, 1 => 1
  | 2, 2 => 1
  | 2, 3 => 1
  | 2, 4 => 1
  | 3, 0 => 1
  | 4, 0 => 1
  | 5, 0 => 1
  | 5, 1 => 1
  | 5, 2 => 1
  | 5, 3 => 1
  | 6, 0 => 1
  | 7, 2 => 1
  | 7, 4 => 1
  | 7, 5 => 1
  | 7, 6 => 1
  | 8, 3 => 1
  | 8, 4 => 1
  | 8, 5 => 1
  | 8, 12 => 1
  | 8, 17 => 1
  | _, _ => 0
def am_ff : Nat → Nat → Bool := fun c k => match c, k with
  | 0, 2 => true
  | 1, 0 => true
  | 1, 1 => true
  | 2, 5 => true
  | 3, 1 => true
  | 3, 2 => true
  | 4, 1 => true
  | 6, 1 => true
  | 7, 0 => true
  | 7, 1 => true
  | 7, 3 => true
  | 7, 7 => true
  | 7, 8 => true
  | 7, 9 => true
  | 8, 0 => true
  | 8, 1 => true
  | 8, 2 => true
  | 8, 6 => true
  | 8, 7 => true
  | 8, 8 => true
  | 8, 9 => true
  | 8, 10 => true
  | 8, 11 => true
  | 8, 13 => true
  | 8, 14 => true
  | 8, 15 => true
  | 8, 16 => true
  | _, _ => false
def mX7_init : aM := (yX7_init, cX7_init, 7, 2, none, 1, true, [], 5, 103)
def mX7_open : aM := (yX7_open, cX7_open, 7, 3, (some .int), 2, false, [], 7, 111)
def mX7_add : aM := (yX7_add, cX7_add, 7, 6, (some .int), 5, false, [], 8, 133)
def mX7_remove : aM := (yX7_remove, cX7_remove, 7, 6, (some .int), 4, false, [], 8, 133)
def mX7_move : aM := (yX7_move, cX7_move, 7, 7, (some .int), 5, false, [], 8, 133)
def mX7_set : aM := (yX7_set, cX7_set, 7, 6, (some .int), 6, false, [], 8, 140)
def mX7_join : aM := (yX7_join, cX7_join, 7, 5, (some .int), 5, false, [], 8, 140)
def mX7_setGroup : aM := (yX7_setGroup, cX7_setGroup, 7, 7, (some .int), 5, false, [], 7, 112)
def mX7_load : aM := (yX7_load, cX7_load, 7, 3, none, 3, false, [], 7, 112)
def mX7_apply : aM := (yX7_apply, cX7_apply, 7, 6, (some .int), 5, false, [], 8, 136)
def mX7_rule : aM := (yX7_rule, cX7_rule, 7, 6, (some .int), 5, false, [], 7, 112)
def mX7_faults : aM := (yX7_faults, cX7_faults, 7, 2, (some .int), 2, false, [], 8, 138)
def mX7_commit : aM := (yX7_commit, cX7_commit, 7, 5, (some .int), 3, false, [], 7, 138)
def mX7_confirm : aM := (yX7_confirm, cX7_confirm, 7, 2, (some .int), 1, false, [], 6, 90)
def mX7_advance : aM := (yX7_advance, cX7_advance, 7, 2, (some .int), 2, false, [], 7, 112)
def mX7_running : aM := (yX7_running, cX7_running, 7, 1, (some .int), 1, false, [], 0, 0)
def mX7_waiting : aM := (yX7_waiting, cX7_waiting, 7, 1, (some .int), 1, false, [], 0, 0)
def mX7_size : aM := (yX7_size, cX7_size, 7, 3, (some .int), 3, false, [], 9, 155)
def mX7_keyAt : aM := (yX7_keyAt, cX7_keyAt, 7, 4, (some .int), 4, false, [], 10, 179)
def mX7_shown : aM := (yX7_shown, cX7_shown, 7, 6, (some .int), 5, false, [], 10, 179)
def mX7_own : aM := (yX7_own, cX7_own, 7, 5, (some .int), 4, false, [], 10, 179)
def mX7_same : aM := (yX7_same, cX7_same, 7, 3, (some .boolean), 3, false, [], 8, 132)
def mX7_edits : aM := (yX7_edits, cX7_edits, 7, 3, (some .int), 3, false, [], 8, 132)
def mX7_editAt : aM := (yX7_editAt, cX7_editAt, 7, 4, (some .int), 4, false, [], 8, 132)
def mX7_needIndex : aM := (yX7_needIndex, cX7_needIndex, 7, 2, none, 2, false, [], 6, 90)
def mX7_needArgument : aM := (yX7_needArgument, cX7_needArgument, 7, 3, none, 3, false, [], 6, 90)
def mX7_needEntryName : aM := (yX7_needEntryName, cX7_needEntryName, 7, 3, none, 3, false, [], 7, 111)
def mX7_openConfiguration : aM := (yX7_openConfiguration, cX7_openConfiguration, 7, 3, (some (.object "ConfigDesk$Configuration")), 2, false, [], 6, 90)
def mX7_placeOfEntry : aM := (yX7_placeOfEntry, cX7_placeOfEntry, 7, 3, (some .int), 2, false, [], 6, 90)
def mX7_exchange : aM := (yX7_exchange, cX7_exchange, 7, 9, (some .int), 6, false, [], 7, 112)
def mX7_configurationOf : aM := (yX7_configurationOf, cX7_configurationOf, 7, 2, (some (.object "ConfigDesk$Configuration")), 2, false, [], 7, 111)
def mX7_sectionOf : aM := (yX7_sectionOf, cX7_sectionOf, 7, 4, (some (.object "ConfigDesk$Section")), 3, false, [], 8, 132)
def mX7_entryOf : aM := (yX7_entryOf, cX7_entryOf, 7, 5, (some (.object "ConfigDesk$Entry")), 4, false, [], 9, 155)
def mX7_brokenRules : aM := (yX7_brokenRules, cX7_brokenRules, 7, 4, (some .int), 2, false, [], 5, 115)
def mX7_addVersion : aM := (yX7_addVersion, cX7_addVersion, 7, 2, none, 2, false, [], 3, 67)
def mX8_init : aM := (yX8_init, cX8_init, 8, 1, none, 1, true, [], 1, 20)
def mX8_thrown : aM := (yX8_thrown, cX8_thrown, 8, 1, (some .int), 1, false, [], 0, 0)
def mX8_fails : aM := (yX8_fails, cX8_fails, 8, 2, (some .int), 2, false, [], 0, 0)
def mX8_in : aM := (yX8_in, cX8_in, 8, 3, (some .boolean), 3, false, [], 0, 0)
def mX8_at : aM := (yX8_at, cX8_at, 8, 3, (some .int), 3, false, [], 0, 0)
def mX8_many : aM := (yX8_many, cX8_many, 8, 3, (some .int), 3, false, [], 0, 0)
def mX8_groupAt : aM := (yX8_groupAt, cX8_groupAt, 8, 3, (some .int), 3, false, [], 0, 0)
def mX8_key : aM := (yX8_key, cX8_key, 8, 1, (some .int), 1, false, [], 0, 0)
def mX8_field : aM := (yX8_field, cX8_field, 8, 2, (some .int), 2, false, [], 0, 0)
def mX8_group : aM := (yX8_group, cX8_group, 8, 1, (some .int), 1, false, [], 0, 0)
def mX8_withField : aM := (yX8_withField, cX8_withField, 8, 4, (some .int), 3, false, [], 0, 0)
def mX8_withGroup : aM := (yX8_withGroup, cX8_withGroup, 8, 2, (some .int), 2, false, [], 0, 0)
def mX8_find : aM := (yX8_find, cX8_find, 8, 5, (some .int), 4, false, [], 1, 22)
def mX8_takes : aM := (yX8_takes, cX8_takes, 8, 5, none, 4, false, [], 1, 22)
def mX8_puts : aM := (yX8_puts, cX8_puts, 8, 6, none, 5, false, [], 1, 22)
def mX8_shifts : aM := (yX8_shifts, cX8_shifts, 8, 6, none, 5, false, [], 2, 47)
def mX8_copies : aM := (yX8_copies, cX8_copies, 8, 4, none, 3, false, [], 0, 0)
def mX8_slot : aM := (yX8_slot, cX8_slot, 8, 2, (some .int), 2, false, [], 1, 22)
def mX8_isField : aM := (yX8_isField, cX8_isField, 8, 1, (some .boolean), 1, false, [], 0, 0)
def mX8_isSection : aM := (yX8_isSection, cX8_isSection, 8, 1, (some .boolean), 1, false, [], 1, 22)
def mX8_isKey : aM := (yX8_isKey, cX8_isKey, 8, 2, (some .boolean), 2, false, [], 2, 42)
def mX8_isCandidate : aM := (yX8_isCandidate, cX8_isCandidate, 8, 1, (some .boolean), 1, false, [], 1, 22)
def mX8_open : aM := (yX8_open, cX8_open, 8, 2, (some .int), 2, false, [], 2, 42)
def mX8_add : aM := (yX8_add, cX8_add, 8, 5, (some .int), 5, false, [], 3, 63)
def mX8_entry : aM := (yX8_entry, cX8_entry, 8, 6, (some .int), 5, false, [], 3, 63)
def mX8_remove : aM := (yX8_remove, cX8_remove, 8, 5, (some .int), 4, false, [], 4, 88)
def mX8_move : aM := (yX8_move, cX8_move, 8, 6, (some .int), 5, false, [], 4, 88)
def mX8_set : aM := (yX8_set, cX8_set, 8, 9, (some .int), 6, false, [], 4, 88)
def mX8_join : aM := (yX8_join, cX8_join, 8, 8, (some .int), 5, false, [], 4, 88)
def mX8_setGroup : aM := (yX8_setGroup, cX8_setGroup, 8, 7, (some .int), 5, false, [], 2, 42)
def mX8_load : aM := (yX8_load, cX8_load, 8, 3, none, 3, false, [], 2, 42)
def mX8_notes : aM := (yX8_notes, cX8_notes, 8, 7, none, 7, false, [], 0, 0)
def mX8_settles : aM := (yX8_settles, cX8_settles, 8, 10, none, 4, false, [], 2, 46)
def mX8_lists : aM := (yX8_lists, cX8_lists, 8, 7, none, 3, false, [], 3, 75)
def mX8_does : aM := (yX8_does, cX8_does, 8, 13, (some .boolean), 5, false, [], 3, 72)
def mX8_doesAll : aM := (yX8_doesAll, cX8_doesAll, 8, 5, (some .boolean), 3, false, [], 4, 104)
def mX8_apply : aM := (yX8_apply, cX8_apply, 8, 5, (some .int), 5, false, [], 5, 128)
def mX8_rule : aM := (yX8_rule, cX8_rule, 8, 5, (some .int), 5, false, [], 2, 42)
def mX8_shows : aM := (yX8_shows, cX8_shows, 8, 7, (some .int), 5, false, [], 1, 22)
def mX8_isKept : aM := (yX8_isKept, cX8_isKept, 8, 10, (some .boolean), 3, false, [], 2, 48)
def mX8_faultsOf : aM := (yX8_faultsOf, cX8_faultsOf, 8, 4, (some .int), 2, false, [], 3, 77)
def mX8_isThere : aM := (yX8_isThere, cX8_isThere, 8, 2, (some .boolean), 2, false, [], 2, 43)
def mX8_faults : aM := (yX8_faults, cX8_faults, 8, 2, (some .int), 2, false, [], 4, 100)
def mX8_commit : aM := (yX8_commit, cX8_commit, 8, 3, (some .int), 3, false, [], 5, 128)
def mX8_confirm : aM := (yX8_confirm, cX8_confirm, 8, 2, (some .int), 1, false, [], 0, 0)
def mX8_advance : aM := (yX8_advance, cX8_advance, 8, 2, (some .int), 2, false, [], 1, 23)
def mX8_running : aM := (yX8_running, cX8_running, 8, 1, (some .int), 1, false, [], 0, 0)
def mX8_waiting : aM := (yX8_waiting, cX8_waiting, 8, 1, (some .int), 1, false, [], 0, 0)
def mX8_size : aM := (yX8_size, cX8_size, 8, 3, (some .int), 3, false, [], 2, 43)
def mX8_isEntry : aM := (yX8_isEntry, cX8_isEntry, 8, 4, (some .boolean), 4, false, [], 2, 43)
def mX8_keyAt : aM := (yX8_keyAt, cX8_keyAt, 8, 4, (some .int), 4, false, [], 3, 66)
def mX8_shown : aM := (yX8_shown, cX8_shown, 8, 5, (some .int), 5, false, [], 3, 66)
def mX8_own : aM := (yX8_own, cX8_own, 8, 5, (some .int), 4, false, [], 3, 66)
def mX8_areThere : aM := (yX8_areThere, cX8_areThere, 8, 3, (some .boolean), 3, false, [], 2, 43)
def mX8_same : aM := (yX8_same, cX8_same, 8, 3, (some .boolean), 3, false, [], 4, 101)
def mX8_edits : aM := (yX8_edits, cX8_edits, 8, 3, (some .int), 3, false, [], 4, 101)
def mX8_editAt : aM := (yX8_editAt, cX8_editAt, 8, 4, (some .int), 4, false, [], 4, 101)
def mX0_init : aM := (yX0_init, cX0_init, 0, 1, none, 1, true, [], 4, 83)
def mX1_init : aM := (yX1_init, cX1_init, 1, 3, none, 1, true, [], 3, 61)
def mX1_valueShown : aM := (yX1_valueShown, cX1_valueShown, 1, 4, (some .int), 3, false, [], 0, 0)
def mX1_copyFrom : aM := (yX1_copyFrom, cX1_copyFrom, 1, 4, none, 2, false, [], 2, 44)
def mX1_isLike : aM := (yX1_isLike, cX1_isLike, 1, 4, (some .boolean), 2, false, [], 2, 44)
def mX2_init : aM := (yX2_init, cX2_init, 2, 1, none, 1, true, [], 2, 40)
def mX2_become : aM := (yX2_become, cX2_become, 2, 6, none, 6, false, [], 0, 0)
def mX2_code : aM := (yX2_code, cX2_code, 2, 1, (some .int), 1, false, [], 0, 0)
def mX2_invert : aM := (yX2_invert, cX2_invert, 2, 2, none, 1, false, [], 0, 0)
def mX2_applyTo : aM := (yX2_applyTo, cX2_applyTo, 2, 5, (some .boolean), 3, false, [], 4, 89)
def mX2_addTo : aM := (yX2_addTo, cX2_addTo, 2, 3, (some .boolean), 3, false, [], 3, 67)
def mX2_removeFrom : aM := (yX2_removeFrom, cX2_removeFrom, 2, 4, (some .boolean), 4, false, [], 3, 66)
def mX2_moveIn : aM := (yX2_moveIn, cX2_moveIn, 2, 4, (some .boolean), 4, false, [], 2, 45)
def mX2_setIn : aM := (yX2_setIn, cX2_setIn, 2, 3, (some .boolean), 3, false, [], 0, 0)
def mX3_init : aM := (yX3_init, cX3_init, 3, 2, none, 1, true, [], 3, 61)
def mX3_fill : aM := (yX3_fill, cX3_fill, 3, 5, none, 3, false, [], 4, 104)
def mX3_invert : aM := (yX3_invert, cX3_invert, 3, 4, none, 1, false, [], 1, 21)
def mX3_applyTo : aM := (yX3_applyTo, cX3_applyTo, 3, 4, (some .boolean), 3, false, [], 5, 113)
def mX3_noteRemovals : aM := (yX3_noteRemovals, cX3_noteRemovals, 3, 5, none, 3, false, [], 3, 75)
def mX3_notePlaces : aM := (yX3_notePlaces, cX3_notePlaces, 3, 6, none, 3, false, [], 3, 75)
def mX3_noteSettings : aM := (yX3_noteSettings, cX3_noteSettings, 3, 10, none, 4, false, [], 3, 75)
def mX3_noteIfUnlike : aM := (yX3_noteIfUnlike, cX3_noteIfUnlike, 3, 6, none, 6, false, [], 2, 50)
def mX3_noteWhole : aM := (yX3_noteWhole, cX3_noteWhole, 3, 6, none, 6, false, [], 2, 50)
def mX3_note : aM := (yX3_note, cX3_note, 3, 6, none, 6, false, [], 1, 25)
def mX4_init : aM := (yX4_init, cX4_init, 4, 1, none, 1, true, [], 1, 20)
def mX4_clear : aM := (yX4_clear, cX4_clear, 4, 3, none, 2, false, [], 0, 0)
def mX4_copyFrom : aM := (yX4_copyFrom, cX4_copyFrom, 4, 3, none, 2, false, [], 0, 0)
def mX4_isLike : aM := (yX4_isLike, cX4_isLike, 4, 3, (some .boolean), 2, false, [], 0, 0)
def mX5_init : aM := (yX5_init, cX5_init, 5, 1, none, 1, true, [], 1, 20)
def mX5_isKeptBy : aM := (yX5_isKeptBy, cX5_isKeptBy, 5, 4, (some .boolean), 2, false, [], 4, 92)
def mX5_isKeptAt : aM := (yX5_isKeptAt, cX5_isKeptAt, 5, 4, (some .boolean), 3, false, [], 3, 69)
def mX5_isShownAhead : aM := (yX5_isShownAhead, cX5_isShownAhead, 5, 5, (some .boolean), 4, false, [], 2, 45)
def mX5_shownAt : aM := (yX5_shownAt, cX5_shownAt, 5, 3, (some .int), 3, false, [], 1, 23)
def mX6_init : aM := (yX6_init, cX6_init, 6, 2, none, 1, true, [], 2, 40)
def mX6_placeOf : aM := (yX6_placeOf, cX6_placeOf, 6, 3, (some .int), 2, false, [], 0, 0)
def mX6_hasPlace : aM := (yX6_hasPlace, cX6_hasPlace, 6, 2, (some .boolean), 2, false, [], 0, 0)
def mX6_insert : aM := (yX6_insert, cX6_insert, 6, 3, none, 3, false, [], 2, 45)
def mX6_takeOut : aM := (yX6_takeOut, cX6_takeOut, 6, 2, none, 2, false, [], 2, 45)
def mX6_shift : aM := (yX6_shift, cX6_shift, 6, 5, none, 3, false, [], 1, 21)
def mX6_copyFrom : aM := (yX6_copyFrom, cX6_copyFrom, 6, 3, none, 2, false, [], 1, 22)
def mX6_isLike : aM := (yX6_isLike, cX6_isLike, 6, 3, (some .boolean), 2, false, [], 1, 22)
def mL_open : aM := (yL_open, cL_open, 9, 4, (some .int), 3, false, [(0, 9, 12, 13)], 8, 133)
def mL_add : aM := (yL_add, cL_add, 9, 7, (some .int), 6, false, [(0, 14, 17, 13), (0, 14, 21, 19), (0, 14, 25, 21)], 9, 158)
def mL_remove : aM := (yL_remove, cL_remove, 9, 6, (some .int), 5, false, [(0, 12, 15, 13), (0, 12, 19, 19)], 9, 158)
def mL_move : aM := (yL_move, cL_move, 9, 7, (some .int), 6, false, [(0, 14, 17, 13), (0, 14, 21, 19), (0, 14, 25, 21)], 9, 159)
def mL_set : aM := (yL_set, cL_set, 9, 8, (some .int), 7, false, [(0, 16, 19, 13), (0, 16, 23, 21), (0, 16, 27, 19)], 9, 165)
def mL_join : aM := (yL_join, cL_join, 9, 7, (some .int), 6, false, [(0, 14, 17, 13), (0, 14, 21, 21), (0, 14, 25, 19)], 9, 164)
def mL_setGroup : aM := (yL_setGroup, cL_setGroup, 9, 7, (some .int), 6, false, [(0, 14, 17, 13), (0, 14, 21, 21), (0, 14, 25, 19)], 8, 138)
def mL_load : aM := (yL_load, cL_load, 9, 4, (some .int), 3, false, [(0, 6, 9, 13), (0, 6, 12, 19)], 8, 134)
def mL_apply : aM := (yL_apply, cL_apply, 9, 7, (some .int), 6, false, [(0, 14, 17, 13), (0, 14, 21, 19)], 9, 161)
def mL_rule : aM := (yL_rule, cL_rule, 9, 7, (some .int), 6, false, [(0, 14, 17, 13), (0, 14, 21, 21), (0, 14, 25, 19)], 8, 137)
def mL_faults : aM := (yL_faults, cL_faults, 9, 4, (some .int), 3, false, [(0, 9, 12, 13)], 9, 159)
def mL_commit : aM := (yL_commit, cL_commit, 9, 5, (some .int), 4, false, [(0, 10, 13, 13), (0, 10, 17, 21), (0, 10, 21, 19)], 8, 162)
def mL_confirm : aM := (yL_confirm, cL_confirm, 9, 3, (some .int), 2, false, [(0, 8, 11, 19)], 7, 111)
def mL_advance : aM := (yL_advance, cL_advance, 9, 4, (some .int), 3, false, [(0, 9, 12, 21)], 8, 133)
def mL_size : aM := (yL_size, cL_size, 9, 5, (some .int), 4, false, [(0, 10, 13, 13)], 10, 177)
def mL_keyAt : aM := (yL_keyAt, cL_keyAt, 9, 6, (some .int), 5, false, [(0, 12, 15, 13)], 11, 202)
def mL_shown : aM := (yL_shown, cL_shown, 9, 7, (some .int), 6, false, [(0, 14, 17, 13)], 11, 204)
def mL_own : aM := (yL_own, cL_own, 9, 6, (some .int), 5, false, [(0, 12, 15, 13)], 11, 203)
def mL_same : aM := (yL_same, cL_same, 9, 5, (some .int), 4, false, [(0, 17, 20, 13)], 9, 154)
def mL_edits : aM := (yL_edits, cL_edits, 9, 5, (some .int), 4, false, [(0, 10, 13, 13)], 9, 154)
def mL_editAt : aM := (yL_editAt, cL_editAt, 9, 6, (some .int), 5, false, [(0, 12, 15, 13)], 9, 155)
def mL_law : aM := (yL_law, cL_law, 9, 7, (some .boolean), 1, false, [], 12, 230)
/-- the entries of the constant pools: fields, own classes, methods (with the kind of the call), numbers, exceptions -/
def am_frT : Nat → List (Nat × (Nat × Nat)) := fun o => match o with
  | 0 => [(10, (0, 2))]
  | 1 => [(11, (1, 0)), (19, (1, 1)), (23, (4, 1))]
  | 2 => [(12, (2, 5)), (18, (2, 0)), (22, (2, 1)), (25, (2, 2)), (28, (2, 3)), (31, (2, 4)), (34, (1, 1)), (44, (1, 0)), (65, (6, 1)), (69, (4, 1)), (73, (6, 0))]
  | 3 => [(11, (3, 1)), (20, (3, 2)), (25, (3, 0)), (29, (1, 0)), (50, (1, 1)), (65, (6, 0)), (66, (6, 1)), (70, (4, 0)), (98, (4, 1)), (102, (2, 5))]
  | 4 => [(9, (4, 1)), (15, (4, 0))]
  | 5 => [(9, (1, 0)), (15, (5, 1)), (21, (6, 0)), (34, (5, 0)), (37, (5, 3)), (48, (6, 1)), (52, (5, 2))]
  | 6 => [(11, (6, 1)), (18, (6, 0)), (22, (4, 0))]
  | 7 => [(11, (7, 0)), (17, (7, 1)), (23, (7, 3)), (30, (7, 7)), (35, (7, 8)), (42, (7, 9)), (48, (7, 2)), (56, (0, 0)), (60, (0, 1)), (63, (0, 2)), (78, (1, 0)), (88, (6, 0)), (123, (1, 1)), (143, (3, 0)), (144, (7, 4)), (149, (5, 0)), (152, (5, 1)), (155, (5, 2)), (158, (5, 3)), (165, (7, 5)), (174, (7, 6)), (190, (4, 0)), (197, (4, 1)), (205, (3, 1)), (229, (6, 1))]
  | 8 => [(7, (8, 0)), (13, (8, 1)), (16, (8, 2)), (19, (8, 4)), (23, (8, 6)), (26, (8, 7)), (29, (8, 8)), (32, (8, 9)), (35, (8, 10)), (38, (8, 11)), (41, (8, 13)), (44, (8, 14)), (47, (8, 15)), (50, (8, 16)), (53, (8, 17)), (81, (8, 3)), (130, (8, 5)), (153, (8, 12))]
  | _ => []
def am_crT : Nat → List (Nat × Nat) := fun o => match o with
  | 0 => [(7, 1)]
  | 1 => [(9, 6)]
  | 2 => [(9, 4)]
  | 3 => [(9, 2), (17, 6)]
  | 6 => [(9, 4)]
  | 7 => [(9, 0), (15, 1), (21, 5), (27, 3), (39, 4)]
  | 9 => [(8, 7), (88, 8)]
  | _ => []
def am_arT : Nat → List (Nat × Nat) := fun o => match o with
  | 1 => [(9, 6)]
  | 3 => [(9, 2)]
  | 6 => [(9, 4)]
  | 7 => [(9, 0), (15, 1), (21, 5)]
  | _ => []
def am_mrT : Nat → List (Nat × (Nat × aM)) := fun o => match o with
  | 0 => [(9, (2, mX1_init))]
  | 1 => [(22, (2, mX6_init)), (29, (1, mX6_copyFrom)), (33, (1, mX6_isLike))]
  | 2 => [(11, (3, mX4_init)), (40, (1, mX2_setIn)), (48, (1, mX6_placeOf)), (54, (1, mX2_addTo)), (58, (1, mX2_removeFrom)), (62, (1, mX2_moveIn)), (82, (1, mX6_insert)), (86, (1, mX4_isLike)), (90, (1, mX6_takeOut)), (94, (1, mX6_shift))]
  | 3 => [(19, (2, mX6_init)), (24, (3, mX2_init)), (35, (1, mX6_copyFrom)), (39, (1, mX3_noteRemovals)), (43, (1, mX3_notePlaces)), (46, (1, mX3_noteSettings)), (54, (1, mX3_noteIfUnlike)), (58, (1, mX2_invert)), (61, (1, mX2_applyTo)), (75, (1, mX6_placeOf)), (79, (1, mX3_noteWhole)), (83, (1, mX6_takeOut)), (87, (1, mX6_insert)), (91, (1, mX3_note)), (94, (1, mX6_shift)), (106, (1, mX4_copyFrom)), (109, (1, mX2_become))]
  | 5 => [(26, (1, mX5_isKeptAt)), (30, (1, mX5_shownAt)), (40, (1, mX6_placeOf)), (44, (1, mX5_isShownAhead)), (55, (1, mX1_valueShown))]
  | 6 => [(17, (3, mX4_init)), (25, (1, mX6_shift)), (29, (1, mX4_copyFrom)), (33, (1, mX6_hasPlace)), (37, (1, mX4_isLike))]
  | 7 => [(29, (2, mX3_init)), (34, (2, mX1_init)), (41, (3, mX4_init)), (46, (3, mX0_init)), (47, (3, mX5_init)), (52, (0, mX7_needIndex)), (66, (1, mX1_copyFrom)), (70, (0, mX7_needEntryName)), (74, (1, mX7_openConfiguration)), (82, (1, mX6_placeOf)), (98, (0, mX7_needArgument)), (101, (1, mX4_clear)), (105, (1, mX6_insert)), (109, (0, mX7_placeOfEntry)), (113, (1, mX6_takeOut)), (116, (1, mX6_shift)), (119, (1, mX7_exchange)), (127, (1, mX7_configurationOf)), (130, (1, mX3_fill)), (134, (1, mX3_invert)), (137, (1, mX3_applyTo)), (161, (1, mX7_brokenRules)), (177, (1, mX7_addVersion)), (182, (1, mX7_sectionOf)), (186, (1, mX7_entryOf)), (193, (1, mX1_valueShown)), (201, (1, mX1_isLike)), (209, (1, mX2_code)), (233, (1, mX5_isKeptBy))]
  | 8 => [(57, (1, mX8_many)), (61, (0, mX8_at)), (65, (0, mX8_key)), (69, (1, mX8_takes)), (73, (1, mX8_puts)), (77, (0, mX8_in)), (84, (0, mX8_isSection)), (88, (0, mX8_isCandidate)), (91, (1, mX8_copies)), (95, (0, mX8_isKey)), (99, (1, mX8_find)), (102, (1, mX8_fails)), (105, (1, mX8_entry)), (109, (1, mX8_shifts)), (112, (0, mX8_isField)), (115, (0, mX8_field)), (118, (0, mX8_withField)), (121, (0, mX8_group)), (124, (0, mX8_withGroup)), (127, (0, mX8_groupAt)), (132, (1, mX8_notes)), (136, (1, mX8_settles)), (139, (1, mX8_does)), (143, (1, mX8_slot)), (146, (1, mX8_lists)), (149, (1, mX8_doesAll)), (156, (1, mX8_shows)), (159, (1, mX8_isKept)), (162, (1, mX8_isThere)), (165, (1, mX8_faultsOf)), (168, (1, mX8_isEntry)), (171, (1, mX8_areThere))]
  | 9 => [(7, (1, mX7_open)), (15, (1, mX7_add)), (23, (1, mX7_remove)), (27, (1, mX7_move)), (30, (1, mX7_set)), (34, (1, mX7_join)), (37, (1, mX7_setGroup)), (40, (1, mX7_load)), (44, (1, mX7_apply)), (48, (1, mX7_rule)), (51, (1, mX7_faults)), (54, (1, mX7_commit)), (58, (1, mX7_confirm)), (62, (1, mX7_advance)), (65, (1, mX7_size)), (68, (1, mX7_keyAt)), (71, (1, mX7_shown)), (74, (1, mX7_own)), (77, (1, mX7_same)), (81, (1, mX7_edits)), (84, (1, mX7_editAt)), (87, (2, mX7_init)), (90, (2, mX8_init)), (91, (0, mL_open)), (96, (1, mX8_open)), (97, (1, mX8_thrown)), (100, (0, mL_add)), (103, (1, mX8_add)), (104, (0, mL_remove)), (107, (1, mX8_remove)), (108, (0, mL_move)), (110, (1, mX8_move)), (111, (0, mL_set)), (114, (1, mX8_set)), (115, (0, mL_join)), (117, (1, mX8_join)), (118, (0, mL_setGroup)), (120, (1, mX8_setGroup)), (121, (0, mL_load)), (124, (1, mX8_load)), (125, (0, mL_apply)), (128, (1, mX8_apply)), (129, (0, mL_rule)), (131, (1, mX8_rule)), (132, (0, mL_faults)), (134, (1, mX8_faults)), (135, (0, mL_commit)), (138, (1, mX8_commit)), (139, (0, mL_confirm)), (142, (1, mX8_confirm)), (143, (0, mL_advance)), (145, (1, mX8_advance)), (146, (1, mX7_running)), (149, (1, mX8_running)), (150, (1, mX7_waiting)), (153, (1, mX8_waiting)), (154, (0, mL_size)), (156, (1, mX8_size)), (157, (0, mL_keyAt)), (159, (1, mX8_keyAt)), (160, (0, mL_shown)), (162, (1, mX8_shown)), (163, (0, mL_own)), (165, (1, mX8_own)), (166, (0, mL_same)), (168, (1, mX8_same)), (169, (0, mL_edits)), (171, (1, mX8_edits)), (172, (0, mL_editAt)), (174, (1, mX8_editAt))]
  | _ => []
def am_lrT : Nat → List (Nat × Int) := fun o => match o with
  | 8 => [(56, 262143)]
  | _ => []
def am_xrT : Nat → List ((Nat × Nat × Nat) × Nat) := fun o => match o with
  | 7 => [((91, 93, 95), 2), ((91, 141, 95), 2), ((91, 147, 95), 2), ((91, 168, 95), 2), ((91, 170, 95), 2), ((91, 172, 95), 2), ((91, 180, 95), 2), ((91, 225, 95), 2), ((91, 227, 95), 2), ((215, 217, 219), 1), ((215, 225, 219), 1), ((220, 222, 224), 3)]
  | _ => []
def am_obT : Nat → Nat := fun o => match o with
  | 0 => 1
  | 1 => 3
  | 2 => 3
  | 3 => 3
  | 4 => 3
  | 5 => 3
  | 6 => 3
  | 7 => 3
  | 8 => 1
  | _ => 0
def am_xn : Nat → String := fun e => match e with
  | 1 => "java/lang/IndexOutOfBoundsException"
  | 2 => "java/lang/IllegalStateException"
  | _ => "java/lang/IllegalArgumentException"
/-- the law's handlers: which exception a pool entry names -/
def am_ct : Nat → Nat := fun k => match k with
  | 13 => 1
  | 19 => 2
  | 21 => 3
  | _ => 0
def am_lk {α : Type} (k : Nat) : List (Nat × α) → Option α
  | [] => none
  | (a, b) :: l => if k = a then some b else am_lk k l
theorem am_lk_mem {α : Type} {k : Nat} {b : α} : ∀ {l : List (Nat × α)}, am_lk k l = some b → (k, b) ∈ l
  | [], h => by simp [am_lk] at h
  | (a, c) :: l, h => by
    unfold am_lk at h
    by_cases e : k = a
    · rw [if_pos e] at h
      cases h
      rw [e]
      exact List.mem_cons_self
    · rw [if_neg e] at h
      exact List.mem_cons_of_mem _ (am_lk_mem h)
def am_lk3 (k : Nat × Nat × Nat) : List ((Nat × Nat × Nat) × Nat) → Option Nat
  | [] => none
  | (a, b) :: l => if k = a then some b else am_lk3 k l
theorem am_lk3_mem {k : Nat × Nat × Nat} {b : Nat} : ∀ {l : List ((Nat × Nat × Nat) × Nat)}, am_lk3 k l = some b → (k, b) ∈ l
  | [], h => by simp [am_lk3] at h
  | (a, c) :: l, h => by
    unfold am_lk3 at h
    by_cases e : k = a
    · rw [if_pos e] at h
      cases h
      rw [e]
      exact List.mem_cons_self
    · rw [if_neg e] at h
      exact List.mem_cons_of_mem _ (am_lk3_mem h)
abbrev inr32 (z : Int) : Prop := -2147483648 ≤ z ∧ z ≤ 2147483647
abbrev aC : Type := Nat × List aV × List aV × aH
abbrev aR : Type := (Option aV ⊕ Nat) × aH
def am_c1 (v : aV) : Bool := match v with
  | .inr (.inl _) => false
  | _ => true
def am_wd (S : List aV) : Nat := (S.map fun v => if am_c1 v then 1 else 2).sum
/-- a local is set: one that is there, or the next one -/
def am_st (L : List aV) (i : Nat) (v : aV) : Option (List aV) := if i ≤ L.length then some (L.take i ++ v :: L.drop (i + 1)) else none
def am_tg (pc : Nat) (off : Int) : Option Nat := if 0 ≤ (pc : Int) + off then some ((pc : Int) + off).toNat else none
def am_cd (c : ClassFile.Cond) (x y : Int) : Bool := match c with
  | .eq => decide (x = y)
  | .ne => decide (x ≠ y)
  | .lt => decide (x < y)
  | .ge => decide (y ≤ x)
  | .gt => decide (y < x)
  | .le => decide (x ≤ y)
def am_bw (k : Nat) (x y : Int) : Int := match k with
  | 0 => (Int32.ofInt x &&& Int32.ofInt y).toInt
  | 1 => (Int32.ofInt x ||| Int32.ofInt y).toInt
  | 2 => (Int32.ofInt x ^^^ Int32.ofInt y).toInt
  | 3 => (Int32.ofInt x <<< (Int32.ofInt y &&& 31)).toInt
  | _ => (Int32.ofInt x >>> (Int32.ofInt y &&& 31)).toInt
def am_ld (pc : Nat) (L S : List aV) (h : aH) (i len : Nat) (num : Bool) : Option aC := match L[i]? with
  | some (.inl x) => if num then some (pc + len, L, .inl x :: S, h) else none
  | some (.inr (.inr a)) => if num then none else some (pc + len, L, .inr (.inr a) :: S, h)
  | _ => none
def am_sv (pc : Nat) (L S : List aV) (h : aH) (i len mx : Nat) (num : Bool) : Option aC := match S with
  | .inl x :: S' => if num ∧ i < mx then (am_st L i (.inl x)).map (fun L' => (pc + len, L', S', h)) else none
  | .inr (.inr a) :: S' => if (¬ num) ∧ i < mx then (am_st L i (.inr (.inr a))).map (fun L' => (pc + len, L', S', h)) else none
  | _ => none
def am_ar (pc : Nat) (L S : List aV) (h : aH) (f : Int → Int → Int) : Option aC := match S with
  | .inl y :: .inl x :: S' => if inr32 (f x y) then some (pc + 1, L, .inl (f x y) :: S', h) else none
  | _ => none
def am_rm (pc : Nat) (L S : List aV) (h : aH) : Option aC := match S with
  | .inl y :: .inl x :: S' => if 0 ≤ x ∧ 0 < y then some (pc + 1, L, .inl (x % y) :: S', h) else none
  | _ => none
def am_bo (pc : Nat) (L S : List aV) (h : aH) (k : Nat) : Option aC := match S with
  | .inl y :: .inl x :: S' => some (pc + 1, L, .inl (am_bw k x y) :: S', h)
  | _ => none
def am_if1 (pc : Nat) (L S : List aV) (h : aH) (c : ClassFile.Cond) (off : Int) : Option aC := match S, am_tg pc off with
  | .inl x :: S', some t => some (if am_cd c x 0 = true then t else pc + 3, L, S', h)
  | _, _ => none
def am_if2 (pc : Nat) (L S : List aV) (h : aH) (c : ClassFile.Cond) (off : Int) : Option aC := match S, am_tg pc off with
  | .inl y :: .inl x :: S', some t => some (if am_cd c x y = true then t else pc + 3, L, S', h)
  | _, _ => none
def am_sw (pc : Nat) (L S : List aV) (h : aH) (d lo hi : Int) (offs : Array Int) : Option aC := match S with
  | .inl x :: S' => if x < lo ∨ hi < x then (am_tg pc d).map (fun t => (t, L, S', h)) else match offs[(x - lo).toNat]? with
    | some off => (am_tg pc off).map (fun t => (t, L, S', h))
    | none => none
  | _ => none
def am_gf (o pc : Nat) (L S : List aV) (h : aH) (ix : Nat) : Option aC := match S, am_lk ix (am_frT o) with
  | .inr (.inr a) :: S', some (c, k) => if hsh h a = (c + 1, am_fN c) then (if am_fk c k = 0 then (match hrf h a k with
      | some b => some (pc + 3, L, .inr (.inr b) :: S', h)
      | none => none) else some (pc + 3, L, .inl (hiv h a k) :: S', h)) else none
  | _, _ => none
def am_pf (o : Nat) (ini : Bool) (pc : Nat) (L S : List aV) (h : aH) (ix : Nat) : Option aC := match S, am_lk ix (am_frT o) with
  | .inl x :: .inr (.inr a) :: S', some (c, k) => if hsh h a = (c + 1, am_fN c) ∧ (am_fk c k = 1 ∨ am_fk c k = 2 ∧ (x = 0 ∨ x = 1)) ∧ (am_ff c k = true → ini = true ∧ c = o) then some (pc + 3, L, S', hwi h a k x) else none
  | .inr (.inr b) :: .inr (.inr a) :: S', some (c, k) => if hsh h a = (c + 1, am_fN c) ∧ am_fk c k = 0 ∧ (am_ff c k = true → ini = true ∧ c = o) then some (pc + 3, L, S', hwr h a k (some b)) else none
  | _, _ => none
def am_nw (o pc : Nat) (L S : List aV) (h : aH) (ix : Nat) : Option aC := match am_lk ix (am_crT o) with
  | some c => some (pc + 3, L, .inr (.inr (hnx h)) :: S, hnw h (c + 1) (am_fN c))
  | none => none
def am_na1 (pc : Nat) (L S : List aV) (h : aH) (t : ArrayType) : Option aC := match S, t with
  | .inl n :: S', .int => if 0 ≤ n ∧ n ≤ 1000 then some (pc + 2, L, .inr (.inr (hnx h)) :: S', hnw h 20 n.toNat) else none
  | .inl n :: S', .long => if 0 ≤ n ∧ n ≤ 1000 then some (pc + 2, L, .inr (.inr (hnx h)) :: S', hnw h 21 n.toNat) else none
  | _, _ => none
def am_na2 (o pc : Nat) (L S : List aV) (h : aH) (ix : Nat) : Option aC := match S, am_lk ix (am_arT o) with
  | .inl n :: S', some c => if 0 ≤ n ∧ n ≤ 1000 then some (pc + 3, L, .inr (.inr (hnx h)) :: S', hnw h (22 + c) n.toNat) else none
  | _, _ => none
def am_nm (o pc : Nat) (L S : List aV) (h : aH) (ix d : Nat) : Option aC := match S with
  | .inl k :: .inl n :: S' => if o = 1 ∧ ix = 17 ∧ d = 2 ∧ 0 ≤ n ∧ n ≤ 1000 ∧ 0 ≤ k ∧ k ≤ 1000 then some (pc + 4, L, .inr (.inr (hnx h)) :: S', hml h n.toNat k.toNat) else none
  | _ => none
def am_al (pc : Nat) (L S : List aV) (h : aH) : Option aC := match S with
  | .inr (.inr a) :: S' => if 20 ≤ (hsh h a).1 then some (pc + 1, L, .inl ((hsh h a).2 : Int) :: S', h) else none
  | _ => none
def am_il (pc : Nat) (L S : List aV) (h : aH) : Option aC := match S with
  | .inl i :: .inr (.inr a) :: S' => if ((hsh h a).1 = 20 ∨ (hsh h a).1 = 50) ∧ 0 ≤ i ∧ i < ((hsh h a).2 : Int) then some (pc + 1, L, .inl (hiv h a i.toNat) :: S', h) else none
  | _ => none
def am_is (pc : Nat) (L S : List aV) (h : aH) : Option aC := match S with
  | .inl x :: .inl i :: .inr (.inr a) :: S' => if (hsh h a).1 = 20 ∧ 0 ≤ i ∧ i < ((hsh h a).2 : Int) then some (pc + 1, L, S', hwi h a i.toNat x) else none
  | _ => none
def am_ll (pc : Nat) (L S : List aV) (h : aH) : Option aC := match S with
  | .inl i :: .inr (.inr a) :: S' => if (hsh h a).1 = 21 ∧ 0 ≤ i ∧ i < ((hsh h a).2 : Int) then some (pc + 1, L, .inr (.inl (hiv h a i.toNat)) :: S', h) else none
  | _ => none
def am_ls (pc : Nat) (L S : List aV) (h : aH) : Option aC := match S with
  | .inr (.inl x) :: .inl i :: .inr (.inr a) :: S' => if (hsh h a).1 = 21 ∧ 0 ≤ i ∧ i < ((hsh h a).2 : Int) then some (pc + 1, L, S', hwi h a i.toNat x) else none
  | _ => none
/-- arrays of references: 22 + c: of objects of the class c, 40: of int arrays -/
def am_rl (pc : Nat) (L S : List aV) (h : aH) : Option aC := match S with
  | .inl i :: .inr (.inr a) :: S' => if ((hsh h a).1 = 40 ∨ 22 ≤ (hsh h a).1 ∧ (hsh h a).1 ≤ 30) ∧ 0 ≤ i ∧ i < ((hsh h a).2 : Int) then (match hrf h a i.toNat with
      | some b => some (pc + 1, L, .inr (.inr b) :: S', h)
      | none => none) else none
  | _ => none
def am_rs (pc : Nat) (L S : List aV) (h : aH) : Option aC := match S with
  | .inr (.inr b) :: .inl i :: .inr (.inr a) :: S' => if 22 ≤ (hsh h a).1 ∧ (hsh h a).1 ≤ 30 ∧ hsh h b = ((hsh h a).1 - 22 + 1, am_fN ((hsh h a).1 - 22)) ∧ 0 ≤ i ∧ i < ((hsh h a).2 : Int) then some (pc + 1, L, S', hwr h a i.toNat (some b)) else none
  | _ => none
def am_i2l (pc : Nat) (L S : List aV) (h : aH) : Option aC := match S with
  | .inl x :: S' => some (pc + 1, L, .inr (.inl x) :: S', h)
  | _ => none
def am_lc (pc : Nat) (L S : List aV) (h : aH) : Option aC := match S with
  | .inr (.inl y) :: .inr (.inl x) :: S' => some (pc + 1, L, .inl (if y < x then 1 else if x = y then 0 else -1) :: S', h)
  | _ => none
def am_d1 (pc : Nat) (L S : List aV) (h : aH) : Option aC := match S with
  | v :: S' => if am_c1 v then some (pc + 1, L, v :: v :: S', h) else none
  | _ => none
def am_d2 (pc : Nat) (L S : List aV) (h : aH) : Option aC := match S with
  | y :: x :: S' => if am_c1 x ∧ am_c1 y then some (pc + 1, L, y :: x :: y :: x :: S', h) else none
  | _ => none
def am_ic (pc : Nat) (L S : List aV) (h : aH) (i : Nat) (n : Int) (mx : Nat) : Option aC := match L[i]? with
  | some (.inl x) => if inr32 (x + n) ∧ inr32 n ∧ i < mx then some (pc + 3, L.take i ++ .inl (x + n) :: L.drop (i + 1), S, h) else none
  | _ => none
def am_ob (o nF nL pc : Nat) (L S : List aV) (h : aH) (ix : Nat) : Option aC := match S with
  | .inr (.inr _) :: S' => if o ≤ 8 ∧ am_obT o = ix ∧ 1 ≤ nF ∧ 20 ≤ nL ∧ am_wd S' ≤ 8 then some (pc + 3, L, S', h) else none
  | _ => none
/-- Math.min, which one place calls -/
def am_mn (o nF nL pc : Nat) (L S : List aV) (h : aH) (ix : Nat) : Option aC := match S with
  | .inl y :: .inl x :: S' => if o = 2 ∧ ix = 76 ∧ 1 ≤ nF ∧ 24 ≤ nL ∧ am_wd S' ≤ 8 then some (pc + 3, L, .inl (if y < x then y else x) :: S', h) else none
  | _ => none
def am_lc2 (o pc : Nat) (L S : List aV) (h : aH) (ix : Nat) : Option aC := match am_lk ix (am_lrT o) with
  | some x => some (pc + 2, L, .inl x :: S, h)
  | none => none
def amI (μ : aM) (pc : Nat) (L S : List aV) (h : aH) (i : Instr) : Option aC := match i with
  | .iconst n => if inr32 n then some (pc + 1, L, .inl n :: S, h) else none
  | .bipush n => if -128 ≤ n ∧ n ≤ 127 then some (pc + 2, L, .inl n :: S, h) else none
  | .sipush n => if -32768 ≤ n ∧ n ≤ 32767 then some (pc + 3, L, .inl n :: S, h) else none
  | .lconst n => some (pc + 1, L, .inr (.inl (n.val : Int)) :: S, h)
  | .ldc ix => am_lc2 (am_own μ) pc L S h ix
  | .iload_n k => am_ld pc L S h k.val 1 true
  | .iload k => am_ld pc L S h k 2 true
  | .aload_n k => am_ld pc L S h k.val 1 false
  | .aload k => am_ld pc L S h k 2 false
  | .istore_n k => am_sv pc L S h k.val 1 (am_mx μ) true
  | .istore k => am_sv pc L S h k 2 (am_mx μ) true
  | .astore_n k => am_sv pc L S h k.val 1 (am_mx μ) false
  | .astore k => am_sv pc L S h k 2 (am_mx μ) false
  | .iinc k n => am_ic pc L S h k n (am_mx μ)
  | .iadd => am_ar pc L S h (fun x y => x + y)
  | .isub => am_ar pc L S h (fun x y => x - y)
  | .imul => am_ar pc L S h (fun x y => x * y)
  | .irem => am_rm pc L S h
  | .iand => am_bo pc L S h 0
  | .ior => am_bo pc L S h 1
  | .ixor => am_bo pc L S h 2
  | .ishl => am_bo pc L S h 3
  | .ishr => am_bo pc L S h 4
  | .i2l => am_i2l pc L S h
  | .lcmp => am_lc pc L S h
  | .dup => am_d1 pc L S h
  | .dup2 => am_d2 pc L S h
  | .goto off => (am_tg pc off).map (fun t => (t, L, S, h))
  | .ifCond c off => am_if1 pc L S h c off
  | .if_icmp c off => am_if2 pc L S h c off
  | .tableswitch d lo hi offs => am_sw pc L S h d lo hi offs
  | .getfield ix => am_gf (am_own μ) pc L S h ix
  | .putfield ix => am_pf (am_own μ) (am_ini μ) pc L S h ix
  | .new ix => am_nw (am_own μ) pc L S h ix
  | .newarray t => am_na1 pc L S h t
  | .anewarray ix => am_na2 (am_own μ) pc L S h ix
  | .multianewarray ix d => am_nm (am_own μ) pc L S h ix d
  | .arraylength => am_al pc L S h
  | .iaload => am_il pc L S h
  | .iastore => am_is pc L S h
  | .laload => am_ll pc L S h
  | .lastore => am_ls pc L S h
  | .aaload => am_rl pc L S h
  | .aastore => am_rs pc L S h
  | .invokestatic ix => am_mn (am_own μ) (am_nF μ) (am_nL μ) pc L S h ix
  | .invokespecial ix => am_ob (am_own μ) (am_nF μ) (am_nL μ) pc L S h ix
  | _ => none
/-- the lengths of the instructions -/
def am_lo (i : Instr) (len : Nat) : Bool := match i with
  | .tableswitch _ _ _ _ => true
  | .bipush _ => decide (len = 2)
  | .ldc _ => decide (len = 2)
  | .iload _ => decide (len = 2)
  | .aload _ => decide (len = 2)
  | .istore _ => decide (len = 2)
  | .astore _ => decide (len = 2)
  | .newarray _ => decide (len = 2)
  | .sipush _ => decide (len = 3)
  | .iinc _ _ => decide (len = 3)
  | .goto _ => decide (len = 3)
  | .ifCond _ _ => decide (len = 3)
  | .if_icmp _ _ => decide (len = 3)
  | .getfield _ => decide (len = 3)
  | .putfield _ => decide (len = 3)
  | .new _ => decide (len = 3)
  | .anewarray _ => decide (len = 3)
  | .invokespecial _ => decide (len = 3)
  | .invokestatic _ => decide (len = 3)
  | .invokevirtual _ => decide (len = 3)
  | .multianewarray _ _ => decide (len = 4)
  | _ => decide (len = 1)
def am_okr (t : Option FieldType) (v : Option aV) : Bool := match t, v with
  | none, none => true
  | some .int, some (.inl _) => true
  | some .boolean, some (.inl x) => decide (x = 0 ∨ x = 1)
  | some (.object _), some (.inr (.inr _)) => true
  | _, _ => false
/-- a return: what is answered -/
def am_ret (i : Instr) (S : List aV) : Option (Option aV) := match i, S with
  | .ireturn, [.inl x] => some (some (.inl x))
  | .areturn, [.inr (.inr a)] => some (some (.inr (.inr a)))
  | .return_, [] => some none
  | _, _ => none
/-- 'throw new E("text")' as one step -/
def am_thr (μ : aM) (pc : Nat) (i : Instr) (S : List aV) : Option Nat := match i with
  | .new ik => match decode (am_cc μ) (pc + 3), decode (am_cc μ) (pc + 4), decode (am_cc μ) (pc + 6), decode (am_cc μ) (pc + 9) with
    | .ok (.dup, 1), .ok (.ldc is, 2), .ok (.invokespecial ic, 3), .ok (.athrow, 1) => if am_hh μ = [] ∧ am_wd S ≤ 8 ∧ 6 ≤ am_nF μ ∧ 90 ≤ am_nL μ then am_lk3 (ik, is, ic) (am_xrT (am_own μ)) else none
    | _, _, _, _ => none
  | _ => none
def am_call (o : Nat) (i : Instr) : Option (Nat × aM) := match i with
  | .invokestatic ix => match am_lk ix (am_mrT o) with
    | some (0, ν) => some (0, ν)
    | _ => none
  | .invokevirtual ix => match am_lk ix (am_mrT o) with
    | some (1, ν) => some (1, ν)
    | _ => none
  | .invokespecial ix => match am_lk ix (am_mrT o) with
    | some (2, ν) => some (2, ν)
    | some (3, ν) => some (3, ν)
    | _ => none
  | _ => none
/-- the receiver: there, and of the callee's class where that chooses -/
def am_rc (k : Nat) (ν : aM) (As : List aV) (h : aH) : Bool := match k, As with
  | 0, _ => true
  | 1, .inr (.inr b) :: _ => decide (hsh h b = (am_own ν + 1, am_fN (am_own ν)))
  | _, .inr (.inr _) :: _ => true
  | _, _ => false
/-- what a call needs: its arguments, the receiver's class, room -/
abbrev am_ok (k : Nat) (μ ν : aM) (S : List aV) (h : aH) : Prop :=
  am_na ν ≤ S.length ∧ am_wd (S.drop (am_na ν)) ≤ 8 ∧ am_nF ν + 1 ≤ am_nF μ ∧ 8 + (am_mx ν + 11) + am_nL ν ≤ am_nL μ ∧ (S.take (am_na ν)).all am_c1 = true ∧ am_rc k ν (S.take (am_na ν)).reverse h = true
/-- the handler for E, thrown by the call at pc -/
def am_hd : List (Nat × Nat × Nat × Nat) → Nat → Nat → Option Nat
  | [], _, _ => none
  | (a, b, t, k) :: r, pc, E => if a ≤ pc ∧ pc < b ∧ am_ct k = E then some t else am_hd r pc E
/-- a handler begins by putting the exception into a local, which nobody reads -/
def am_ha (μ : aM) (t : Nat) : Option (Nat × Nat) := match decode (am_cc μ) t with
  | .ok (.astore_n k, 1) => if k.val < am_mx μ then some (t + 1, k.val) else none
  | .ok (.astore k, 2) => if k < am_mx μ then some (t + 2, k) else none
  | _ => none
def amX : Nat → aM → Nat → List aV → List aV → aH → Option aR
  | 0, _, _, _, _, _ => none
  | n + 1, μ, pc, L, S, h => match decode (am_cc μ) pc with
    | .error _ => none
    | .ok (i, len) => if am_lo i len = true then (match am_ret i S with
      | some v => if am_okr (am_rt μ) v = true then some (.inl v, h) else none
      | none => match am_thr μ pc i S with
        | some E => some (.inr E, hth h)
        | none => match am_call (am_own μ) i with
          | some (k, ν) => if am_ok k μ ν S h then (match amX n ν 0 (S.take (am_na ν)).reverse [] h with
              | none => none
              | some (.inl v, h') => amX n μ (pc + 3) L (v.toList ++ S.drop (am_na ν)) h'
              | some (.inr E, h') => match am_hd (am_hh μ) pc E with
                | none => some (.inr E, h')
                | some t => match am_ha μ t with
                  | none => none
                  | some (pc', j) => amX n μ pc' (L.take j) [] h') else none
          | none => match amI μ pc L S h i with
            | none => none
            | some (pc', L', S', h') => amX n μ pc' L' S' h') else none
/-- the run of a method from here ends, and Q holds of its end -/
def amT (μ : aM) (pc : Nat) (L S : List aV) (h : aH) (Q : aR → Prop) : Prop := ∃ (n : Nat) (r : aR), amX n μ pc L S h = some r ∧ Q r
end
section
/-! NUMBERS IN RANGE; values, locals and cells of the abstract machine in the machine -/
theorem i32_to {x : Int} (h : inr32 x) : (Int32.ofInt x).toInt = x := Int32.toInt_ofInt_of_le (by have := h.1; omega) (by have := h.2; omega)
theorem i32_eq {x y : Int} (hx : inr32 x) (hy : inr32 y) : Int32.ofInt x = Int32.ofInt y ↔ x = y :=
  ⟨fun h => by rw [← i32_to hx, ← i32_to hy, h], fun h => by rw [h]⟩
theorem i32_lt {x y : Int} (hx : inr32 x) (hy : inr32 y) : Int32.ofInt x < Int32.ofInt y ↔ x < y := by
  rw [Int32.lt_iff_toInt_lt, i32_to hx, i32_to hy]
theorem i32_le {x y : Int} (hx : inr32 x) (hy : inr32 y) : Int32.ofInt x ≤ Int32.ofInt y ↔ x ≤ y := by
  rw [Int32.le_iff_toInt_le, i32_to hx, i32_to hy]
theorem i32_nat {x : Int} (hx : inr32 x) : (Int32.ofInt x).toNatClampNeg = x.toNat := by
  show (Int32.ofInt x).toInt.toNat = x.toNat
  rw [i32_to hx]
theorem i32_0 : inr32 0 := by decide
theorem i32_in {i : Int} {n : Nat} (hi : inr32 i) (h0 : 0 ≤ i) (hn : i < (n : Int)) : ¬ (Int32.ofInt i < 0 ∨ n ≤ (Int32.ofInt i).toNatClampNeg) := by
  rw [i32_nat hi, show (0 : Int32) = Int32.ofInt 0 from rfl, i32_lt hi i32_0]
  omega
theorem i32_any (x : Int32) : inr32 x.toInt := ⟨by have := Int32.le_toInt x; omega, by have := Int32.toInt_lt x; omega⟩
theorem i64_to {x : Int} (h : inr32 x) : (Int64.ofInt x).toInt = x := Int64.toInt_ofInt_of_le (by have := h.1; omega) (by have := h.2; omega)
def rv : aV → Value
  | .inl x => .int (Int32.ofInt x)
  | .inr (.inl x) => .long (Int64.ofInt x)
  | .inr (.inr a) => .ref a
def okv : aV → Prop
  | .inl x => inr32 x
  | .inr (.inl x) => inr32 x
  | .inr (.inr _) => True
theorem rv_cat {v : aV} (h : am_c1 v = true) : (rv v).category = 1 := by
  rcases v with x | x | a
  · rfl
  · simp [am_c1] at h
  · rfl
theorem rv_wd : ∀ S : List aV, ((S.map rv).map fun v => v.category).sum = am_wd S
  | [] => rfl
  | v :: S => by
    have ih := rv_wd S
    unfold am_wd at ih ⊢
    rw [List.map_cons, List.map_cons, List.map_cons, List.sum_cons, List.sum_cons, ih]
    congr 1
    rcases v with x | x | a <;> rfl
/-- the locals -/
def LH (ls : Array Slot) (n : Nat) (L : List aV) : Prop := lv_has ls n [] ∧ L.length ≤ n ∧ ∀ (k : Nat) (v : aV), L[k]? = some v → ls[k]? = some (.val (rv v)) ∧ am_c1 v = true ∧ okv v
def lvl (L : List aV) : List (Nat × Value) := L.zipIdx.map fun q => (q.2, rv q.1)
theorem lvl_mem {L : List aV} {k : Nat} {w : Value} : (k, w) ∈ lvl L ↔ ∃ v, L[k]? = some v ∧ w = rv v := by
  unfold lvl
  constructor
  · intro h
    obtain ⟨⟨v, i⟩, h1, h2⟩ := List.mem_map.mp h
    cases h2
    exact ⟨v, List.mem_zipIdx_iff_getElem?.mp h1, rfl⟩
  · rintro ⟨v, h, rfl⟩
    exact List.mem_map.mpr ⟨(v, k), List.mem_zipIdx_iff_getElem?.mpr h, rfl⟩
theorem LH.has {ls : Array Slot} {n : Nat} {L : List aV} (h : LH ls n L) : lv_has ls n (lvl L) := by
  refine ⟨h.1.1, h.1.2.1, fun q hq => ?_⟩
  obtain ⟨v, h1, h2⟩ := lvl_mem.mp (show (q.1, q.2) ∈ lvl L from hq)
  rw [h2]
  exact (h.2.2 _ _ h1).1
theorem LH.of {ls : Array Slot} {n : Nat} {L : List aV} {lv : List (Nat × Value)} (h : lv_has ls n lv) (hn : L.length ≤ n) (hm : ∀ (k : Nat) (v : aV), L[k]? = some v → (k, rv v) ∈ lv ∧ am_c1 v = true ∧ okv v) : LH ls n L :=
  ⟨⟨h.1, h.2.1, fun _ q => by cases q⟩, hn, fun k v hv => ⟨h.2.2 _ (hm k v hv).1, (hm k v hv).2⟩⟩
theorem st_get {L : List aV} {i : Nat} (hi : i ≤ L.length) (v : aV) (k : Nat) : (L.take i ++ v :: L.drop (i + 1))[k]? = if k = i then some v else L[k]? := by
  have ht : (L.take i).length = i := by rw [List.length_take]; omega
  by_cases h : k < i
  · rw [if_neg (by omega), List.getElem?_append_left (by omega), List.getElem?_take_of_lt h]
  · rw [List.getElem?_append_right (by omega), ht]
    by_cases h2 : k = i
    · subst h2
      simp
    · rw [if_neg h2]
      obtain ⟨j, hj⟩ : ∃ j, k - i = j + 1 := ⟨k - i - 1, by omega⟩
      rw [hj, List.getElem?_cons_succ, List.getElem?_drop]
      congr 1
      omega
theorem st_len {L : List aV} {i n : Nat} (hi : i ≤ L.length) (hn : L.length ≤ n) (h : i < n) (v : aV) : (L.take i ++ v :: L.drop (i + 1)).length ≤ n := by
  rw [List.length_append, List.length_take, List.length_cons, List.length_drop]
  omega
theorem LH.set {ls ls' : Array Slot} {n i : Nat} {L : List aV} {v : aV} (h : LH ls n L) (hi : i ≤ L.length) (hn : i < n) (hc : am_c1 v = true) (ho : okv v) (h' : lv_has ls' n ((i, rv v) :: (lvl L).filter (fun q => !(q.1 == i) && !(q.1 + 1 == i && q.2.category == 2)))) : LH ls' n (L.take i ++ v :: L.drop (i + 1)) := by
  refine LH.of h' (st_len hi h.2.1 hn v) fun k w hw => ?_
  rw [st_get hi] at hw
  by_cases e : k = i
  · rw [if_pos e] at hw
    cases hw
    subst e
    exact ⟨List.mem_cons_self, hc, ho⟩
  · rw [if_neg e] at hw
    obtain ⟨h1, h2, h3⟩ := h.2.2 k w hw
    refine ⟨List.mem_cons_of_mem _ (List.mem_filter.mpr ⟨lvl_mem.mpr ⟨w, hw, rfl⟩, ?_⟩), h2, h3⟩
    simp [e, rv_cat h2]
theorem LH.take {ls : Array Slot} {n : Nat} {L : List aV} (h : LH ls n L) (j : Nat) : LH ls n (L.take j) :=
  ⟨h.1, by rw [List.length_take]; have := h.2.1; omega, fun k v hv => h.2.2 k v (by
    by_cases e : k < j
    · rw [← hv, List.getElem?_take_of_lt e]
    · rw [List.getElem?_take_eq_none (by omega)] at hv; cases hv)⟩
end
section
/-! THE HEAP of the abstract machine in the machine's -/
def am_fv (c k : Nat) (x : Int) (r : Option Nat) : Value := if am_fk c k = 0 then va_rf r else .int (Int32.ofInt x)
/-- of which own classes there are arrays -/
def am_ac (c : Nat) : Bool := match c with
  | 0 => true
  | 1 => true
  | 2 => true
  | 4 => true
  | 5 => true
  | 6 => true
  | _ => false
/-- what is known of the launch for good: the start, the classes' numbers and slots, the arrays' classes -/
abbrev aG : Type := State × va_G × (ClassId × ClassId × ClassId) × (Nat → ClassId)
def gs (Γ : aG) : State := Γ.1
def gb (Γ : aG) : Nat := Γ.1.heap.size
def cellIs (Γ : aG) (t n : Nat) (f : Nat → Int) (g : Nat → Option Nat) (a : Nat) (H : Heap) : Prop :=
  (1 ≤ t ∧ t ≤ 9 ∧ n = am_fN (t - 1) ∧ t_OB a (Γ.2.1.1 (t - 1)) n (Γ.2.1.2 (t - 1)) H (fun k => am_fv (t - 1) k (f k) (g k))) ∨
  (t = 20 ∧ H[a]? = some (arrV Γ.2.2.1.1 n (fun j => .int (Int32.ofInt (f j))))) ∨
  (t = 21 ∧ H[a]? = some (arrV Γ.2.2.1.2.1 n (fun j => .long (Int64.ofInt (f j))))) ∨
  (t = 40 ∧ H[a]? = some (arrV Γ.2.2.1.2.2 n (fun j => va_rf (g j)))) ∨
  (22 ≤ t ∧ t ≤ 30 ∧ am_ac (t - 22) = true ∧ H[a]? = some (arrV (Γ.2.2.2 (t - 22)) n (fun j => va_rf (g j))))
theorem cellIs.kept {Γ : aG} {t n : Nat} {f : Nat → Int} {g : Nat → Option Nat} {a : Nat} {H H1 : Heap} (h : cellIs Γ t n f g a H) (hq : H1[a]? = H[a]?) : cellIs Γ t n f g a H1 := by
  rcases h with ⟨h1, h2, h3, h4⟩ | ⟨h1, h2⟩ | ⟨h1, h2⟩ | ⟨h1, h2⟩ | ⟨h1, h2, h3, h4⟩
  · exact Or.inl ⟨h1, h2, h3, h4.kept hq⟩
  · exact Or.inr (Or.inl ⟨h1, by rw [hq]; exact h2⟩)
  · exact Or.inr (Or.inr (Or.inl ⟨h1, by rw [hq]; exact h2⟩))
  · exact Or.inr (Or.inr (Or.inr (Or.inl ⟨h1, by rw [hq]; exact h2⟩)))
  · exact Or.inr (Or.inr (Or.inr (Or.inr ⟨h1, h2, h3, by rw [hq]; exact h4⟩)))
theorem cellIs.lt {Γ : aG} {t n : Nat} {f : Nat → Int} {g : Nat → Option Nat} {a : Nat} {H : Heap} (h : cellIs Γ t n f g a H) : a < H.size := by
  rcases h with ⟨h1, h2, h3, cell, h4, -⟩ | ⟨h1, h2⟩ | ⟨h1, h2⟩ | ⟨h1, h2⟩ | ⟨h1, h2, h3, h4⟩
  · exact (Array.getElem?_eq_some_iff.mp h4).1
  all_goals first | exact (Array.getElem?_eq_some_iff.mp h2).1 | exact (Array.getElem?_eq_some_iff.mp h4).1
def HP (Γ : aG) (h : aH) (H : Heap) : Prop :=
  H.size = hnx h ∧ gb Γ ≤ hnx h ∧ (∀ q : Nat, q < gb Γ → H[q]? = (gs Γ).heap[q]?) ∧
  (∀ a : Nat, (hsh h a).1 = 50 → a < gb Γ ∧ va_X a (hsh h a).2 (fun j => Int32.ofInt (hiv h a j)) (gs Γ) (gs Γ).heap ∧ (hsh h a).2 ≤ 4096) ∧
  (∀ a : Nat, (hsh h a).1 ≠ 0 → (hsh h a).1 ≠ 50 → gb Γ ≤ a ∧ (hsh h a).2 ≤ 1000 ∧ cellIs Γ (hsh h a).1 (hsh h a).2 (hiv h a) (hrf h a) a H) ∧
  (∀ a k : Nat, inr32 (hiv h a k)) ∧
  (∀ a : Nat, hnx h ≤ a → (∀ k, hiv h a k = 0) ∧ ∀ k, hrf h a k = none)
theorem HP.put {Γ : aG} {h h' : aH} {H H' : Heap} {a : Nat} (hP : HP Γ h H) (e1 : hsh h' = hsh h) (e2 : hnx h' = hnx h) (e3 : ∀ b, b ≠ a → ∀ k, hiv h' b k = hiv h b k ∧ hrf h' b k = hrf h b k) (er : ∀ k, inr32 (hiv h' a k))
    (ht : (hsh h a).1 ≠ 0) (ht2 : (hsh h a).1 ≠ 50) (hz : H'.size = H.size) (ho : ∀ q, q ≠ a → H'[q]? = H[q]?) (hc : cellIs Γ (hsh h a).1 (hsh h a).2 (hiv h' a) (hrf h' a) a H') : HP Γ h' H' := by
  obtain ⟨p1, p2, p3, p4, p5, p6, p7⟩ := hP
  obtain ⟨q1, q2, q3⟩ := p5 a ht ht2
  have hlt : a < hnx h := by rw [← p1, ← hz]; exact hc.lt
  refine ⟨by rw [hz, e2]; exact p1, by rw [e2]; exact p2, fun q hq => by rw [ho q (by omega)]; exact p3 q hq, fun b hb => ?_, fun b hb hb2 => ?_, fun b k => ?_, fun b hb => ?_⟩
  · rw [e1] at hb ⊢
    have hne : b ≠ a := fun e => by rw [e] at hb; exact ht2 hb
    rw [show hiv h' b = hiv h b from funext fun k => (e3 b hne k).1]
    exact p4 b hb
  · rw [e1] at hb hb2 ⊢
    by_cases hne : b = a
    · subst hne
      exact ⟨q1, q2, hc⟩
    · obtain ⟨r1, r2, r3⟩ := p5 b hb hb2
      rw [show hiv h' b = hiv h b from funext fun k => (e3 b hne k).1, show hrf h' b = hrf h b from funext fun k => (e3 b hne k).2]
      exact ⟨r1, r2, r3.kept (ho b hne)⟩
  · by_cases hne : b = a
    · subst hne
      exact er k
    · rw [(e3 b hne k).1]
      exact p6 b k
  · rw [e2] at hb
    have hne : b ≠ a := by omega
    exact ⟨fun k => by rw [(e3 b hne k).1]; exact (p7 b hb).1 k, fun k => by rw [(e3 b hne k).2]; exact (p7 b hb).2 k⟩
theorem HP.puti {Γ : aG} {h : aH} {H H' : Heap} {a k : Nat} {x : Int} (hP : HP Γ h H) (hx : inr32 x) (ht : (hsh h a).1 ≠ 0) (ht2 : (hsh h a).1 ≠ 50) (hz : H'.size = H.size) (ho : ∀ q, q ≠ a → H'[q]? = H[q]?) (hc : cellIs Γ (hsh h a).1 (hsh h a).2 (fun j => if j = k then x else hiv h a j) (hrf h a) a H') : HP Γ (hwi h a k x) H' := by
  have e : hiv (hwi h a k x) a = fun j => if j = k then x else hiv h a j := by
    funext j
    show (if a = a ∧ j = k then x else _) = _
    simp [hiv]
  refine hP.put (a := a) rfl rfl (fun b hb j => ⟨?_, rfl⟩) (fun j => ?_) ht ht2 hz ho (by rw [e]; exact hc)
  · show (if b = a ∧ j = k then x else _) = _
    rw [if_neg (fun z => hb z.1)]
    rfl
  · rw [e]
    show inr32 (if j = k then x else hiv h a j)
    split
    · exact hx
    · exact hP.2.2.2.2.2.1 a j
theorem HP.putr {Γ : aG} {h : aH} {H H' : Heap} {a k : Nat} {x : Option Nat} (hP : HP Γ h H) (ht : (hsh h a).1 ≠ 0) (ht2 : (hsh h a).1 ≠ 50) (hz : H'.size = H.size) (ho : ∀ q, q ≠ a → H'[q]? = H[q]?) (hc : cellIs Γ (hsh h a).1 (hsh h a).2 (hiv h a) (fun j => if j = k then x else hrf h a j) a H') : HP Γ (hwr h a k x) H' := by
  have e : hrf (hwr h a k x) a = fun j => if j = k then x else hrf h a j := by
    funext j
    show (if a = a ∧ j = k then x else _) = _
    simp [hrf]
  refine hP.put (a := a) rfl rfl (fun b hb j => ⟨rfl, ?_⟩) (fun j => hP.2.2.2.2.2.1 a j) ht ht2 hz ho (by rw [e]; exact hc)
  show (if b = a ∧ j = k then x else _) = _
  rw [if_neg (fun z => hb z.1)]
  rfl
theorem HP.size {Γ : aG} {h : aH} {H : Heap} (hP : HP Γ h H) : H.size = hnx h := hP.1
theorem HP.cell {Γ : aG} {h : aH} {H : Heap} (hP : HP Γ h H) {a : Nat} (ht : (hsh h a).1 ≠ 0) (ht2 : (hsh h a).1 ≠ 50) : cellIs Γ (hsh h a).1 (hsh h a).2 (hiv h a) (hrf h a) a H := (hP.2.2.2.2.1 a ht ht2).2.2
theorem HP.tag {Γ : aG} {h : aH} {H : Heap} (hP : HP Γ h H) {a : Nat} (ha : hnx h ≤ a) : (hsh h a).1 = 0 := by
  by_cases e : (hsh h a).1 = 50
  · have := (hP.2.2.2.1 a e).1
    have := hP.2.1
    omega
  · by_cases e0 : (hsh h a).1 = 0
    · exact e0
    · have := (hP.cell e0 e).lt
      have := hP.1
      omega
/-- a new cell -/
theorem HP.new {Γ : aG} {h : aH} {H H' : Heap} {t n : Nat} (hP : HP Γ h H) (hz : H'.size = H.size + 1) (ho : ∀ q, q < H.size → H'[q]? = H[q]?) (ht : t ≠ 0) (ht2 : t ≠ 50) (hn : n ≤ 1000) (hc : cellIs Γ t n (fun _ => 0) (fun _ => none) H.size H') : HP Γ (hnw h t n) H' := by
  obtain ⟨p1, p2, p3, p4, p5, p6, p7⟩ := id hP
  have e1 : ∀ b, hsh (hnw h t n) b = if b = hnx h then (t, n) else hsh h b := fun b => rfl
  refine ⟨by rw [hz, p1]; rfl, Nat.le_succ_of_le p2, fun q hq => by rw [ho q (by omega)]; exact p3 q hq, fun b hb => ?_, fun b hb hb2 => ?_, p6, fun b hb => p7 b (Nat.le_of_succ_le hb)⟩
  · rw [e1] at hb ⊢
    by_cases e : b = hnx h
    · rw [if_pos e] at hb
      exact absurd hb ht2
    · rw [if_neg e] at hb ⊢
      exact p4 b hb
  · rw [e1] at hb hb2 ⊢
    by_cases e : b = hnx h
    · rw [if_pos e]
      refine ⟨by omega, hn, ?_⟩
      rw [show hiv (hnw h t n) b = fun _ => 0 from funext fun k => (p7 b (by omega)).1 k, show hrf (hnw h t n) b = fun _ => none from funext fun k => (p7 b (by omega)).2 k, e, ← p1]
      exact hc
    · rw [if_neg e] at hb hb2 ⊢
      obtain ⟨r1, r2, r3⟩ := p5 b hb hb2
      exact ⟨r1, r2, r3.kept (ho b r3.lt)⟩
/-- a cell that nobody looks at -/
theorem HP.thrown {Γ : aG} {h : aH} {H H' : Heap} (hP : HP Γ h H) (hz : H'.size = H.size + 1) (ho : ∀ q, q < H.size → H'[q]? = H[q]?) : HP Γ (hth h) H' := by
  obtain ⟨p1, p2, p3, p4, p5, p6, p7⟩ := id hP
  refine ⟨by rw [hz, p1]; rfl, Nat.le_succ_of_le p2, fun q hq => by rw [ho q (by omega)]; exact p3 q hq, p4, fun b hb hb2 => ?_, p6, fun b hb => p7 b (Nat.le_of_succ_le hb)⟩
  obtain ⟨r1, r2, r3⟩ := p5 b hb hb2
  exact ⟨r1, r2, r3.kept (ho b r3.lt)⟩
/-- the words of the tables that a method may take with it -/
def gW : List Cond := lw_tbl.filter goodWord
theorem gW_good {w : Cond} (h : w ∈ gW) : (w.onTables && w.keeps) = true ∨ ∃ ty, w = .arrayClass ty := good_of_word (List.mem_filter.mp h).2
theorem gW_in : GoodIn gW gW := fun w h => ⟨h, gW_good h⟩
theorem gW_mem {w : Cond} (h : w ∈ lw_tbl) (g : goodWord w = true) : w ∈ gW := List.mem_filter.mpr ⟨h, g⟩
def am_dc (w : Cond) : Bool := match w with
  | .declares _ => true
  | .castable _ _ => true
  | _ => false
/-- what holds of the start for good -/
def SF (Γ : aG) : Prop :=
  (∀ w ∈ gW, ∀ (a : Array Value) (U : State), (gs Γ).WarmedH U.vm → w.before a U = true) ∧ va_K Γ.2.1 vwCl [] (gs Γ) ∧
  (ArrOfT (gs Γ) Γ.2.2.1.1 .int ∧ va_RA (gs Γ) Γ.2.2.1.1 .int) ∧ (ArrOfT (gs Γ) Γ.2.2.1.2.1 .long ∧ va_RA (gs Γ) Γ.2.2.1.2.1 .long) ∧ (ArrOfT (gs Γ) Γ.2.2.1.2.2 (.array .int) ∧ va_RA (gs Γ) Γ.2.2.1.2.2 (.array .int)) ∧
  (∀ c, am_ac c = true → (ArrOfT (gs Γ) (Γ.2.2.2 c) (.object (am_cn c)) ∧ va_RA (gs Γ) (Γ.2.2.2 c) (.object (am_cn c))) ∧ va_AO (am_cn c) (gs Γ)) ∧ va_AOA .int (gs Γ) ∧
  (∀ o e, e ∈ am_xrT o → ∃ (sa : Nat) (tx : String), vk_R (am_cn o) e.1.2.1 tx sa (gs Γ)) ∧
  vx_Zq Bundle.tN "UNASSIGNED_STACK" Bundle.steD (fun q => gb Γ ≤ q) (gs Γ) (gs Γ).heap ∧ vx_Zq Bundle.tN "SUPPRESSED_SENTINEL" Bundle.listD (fun q => gb Γ ≤ q) (gs Γ) (gs Γ).heap ∧
  (∀ o ix ν, (ix, (3, ν)) ∈ am_mrT o → va_Nw (.methodLinkNest (am_cn o) ix (am_y ν) "ConfigDesk") (gs Γ)) ∧
  (∀ E ct : Nat, 1 ≤ E → E ≤ 3 → 1 ≤ am_ct ct → E ≠ am_ct ct → va_Nc (am_xn E) (am_xn (am_ct ct)) (gs Γ)) ∧ (∀ w ∈ lw_tbl, am_dc w = true → ∀ (a : Array Value) (U : State), (gs Γ).WarmedH U.vm → w.before a U = true)
/-- a state of the run -/
def GL (Γ : aG) (s : State) : Prop := (gs Γ).WarmedH s.vm ∧ gb Γ ≤ s.heap.size ∧ ∀ q : Nat, q < gb Γ → s.heap[q]? = (gs Γ).heap[q]?
/-- a frame of the method μ -/
def CX (Γ : aG) (μ : aM) (p : Program) (R : Room) (s : State) (m : MethodId) (args : Array Value) (meth : Method) (c : Code) : Prop :=
  p.tables.exec = Jvm.exec ∧ c.code = am_cc μ ∧ meth.sig.returnType = am_rt μ ∧ c.maxLocals = am_mx μ ∧ s.vm.findClass (am_cn (am_own μ)) = some m.cls ∧ meth.locks = false ∧ c.exceptionTable.toList = tableOf (am_hh μ) ∧ (am_ini μ = true → meth.name = "<init>") ∧ am_nF μ ≤ R.frames ∧ am_nL μ ≤ R.locals ∧ GL Γ s
def LC (Γ : aG) (locs : List Loc) : Prop := ∀ l ∈ locs, gb Γ ≤ l.base
theorem LC.snoc {Γ : aG} {locs : List Loc} {q : Loc} (h : LC Γ locs) (hq : gb Γ ≤ q.base) : LC Γ (locs ++ [q]) := fun l hl => by
  rcases List.mem_append.mp hl with h1 | h1
  · exact h l h1
  · rw [List.mem_singleton.mp h1]; exact hq
end
section
/-! EACH STEP of the abstract machine is a step of the machine -/
section AS
variable {Γ : aG} {μ : aM} {p : Program} {l : Launch} {e : Env} {R : Room} {s : State} {m : MethodId} {args : Array Value} {below : List Frame} {meth : Method} {c : Code} {H : Heap} {locs : List Loc} {cells slots : Nat} {Q : State → Prop}
variable {pc len : Nat} {ls : Array Slot} {L S : List aV} {h : aH} {q : aC}
/-- what is to be shown of a step that leads to q -/
def AG (Γ : aG) (μ : aM) (p : Program) (l : Launch) (e : Env) (R : Room) (s : State) (m : MethodId) (args : Array Value) (below : List Frame) (meth : Method) (c : Code) (H : Heap) (locs : List Loc) (cells slots : Nat) (Q : State → Prop) (pc : Nat) (ls : Array Slot) (S : List aV) (h : aH) (q : aC) : Prop :=
  cells + (hnx q.2.2.2 - hnx h) ≤ R.cells → slots + (hks q.2.2.2 - hks h) ≤ R.slots →
  (∀ (H' : Heap) (locs' : List Loc) (ls' : Array Slot), HP Γ q.2.2.2 H' → LH ls' (am_mx μ) q.2.1 → (∀ v ∈ q.2.2.1, okv v) → LC Γ locs' → hnx h ≤ hnx q.2.2.2 → hks h ≤ hks q.2.2.2 → W p l e R s m args below meth c H' locs' (cells + (hnx q.2.2.2 - hnx h)) (slots + (hks q.2.2.2 - hks h)) Q (F0 m q.1 ls' (q.2.2.1.map rv))) →
  W p l e R s m args below meth c H locs cells slots Q (F0 m pc ls (S.map rv))
/-- a step that leaves the heap as it is -/
theorem AG.same {pc' : Nat} {L' S' : List aV} (hP : HP Γ h H) (hC : LC Γ locs)
    (k : (∀ (ls' : Array Slot), LH ls' (am_mx μ) L' → (∀ v ∈ S', okv v) → W p l e R s m args below meth c H locs cells slots Q (F0 m pc' ls' (S'.map rv))) → W p l e R s m args below meth c H locs cells slots Q (F0 m pc ls (S.map rv))) :
    AG Γ μ p l e R s m args below meth c H locs cells slots Q pc ls S h (pc', L', S', h) := by
  intro _ _ kk
  refine k fun ls' h1 h2 => ?_
  have := kk H locs ls' hP h1 h2 hC (Nat.le_refl _) (Nat.le_refl _)
  simpa using this
theorem okc {v : aV} {S : List aV} (h : ∀ w ∈ v :: S, okv w) : okv v ∧ ∀ w ∈ S, okv w := ⟨h v List.mem_cons_self, fun w hw => h w (List.mem_cons_of_mem _ hw)⟩
theorem okn {v : aV} {S : List aV} (h1 : okv v) (h : ∀ w ∈ S, okv w) : ∀ w ∈ v :: S, okv w := fun w hw => by
  rcases List.mem_cons.mp hw with e | e
  · rw [e]; exact h1
  · exact h w e
theorem tg_of {pc t : Nat} {off : Int} (h : am_tg pc off = some t) : (pc : Int) + off = (t : Int) := by
  unfold am_tg at h
  split at h
  · cases h
    omega
  · cases h
theorem as_iconst {n : Int} (C : CX Γ μ p R s m args meth c) (hP : HP Γ h H) (hC : LC Γ locs) (hL : LH ls (am_mx μ) L) (hV : ∀ v ∈ S, okv v) (hd : decode (am_cc μ) pc = .ok (.iconst n, 1)) (hn : inr32 n) : AG Γ μ p l e R s m args below meth c H locs cells slots Q pc ls S h (pc + 1, L, .inl n :: S, h) :=
  AG.same hP hC fun kk => lv_iconst (v := Int32.ofInt n) C.1 C.2.1 hd rfl (kk ls hL (okn hn hV))
theorem as_bipush {n : Int} (C : CX Γ μ p R s m args meth c) (hP : HP Γ h H) (hC : LC Γ locs) (hL : LH ls (am_mx μ) L) (hV : ∀ v ∈ S, okv v) (hd : decode (am_cc μ) pc = .ok (.bipush n, 2)) (hn : -128 ≤ n ∧ n ≤ 127) : AG Γ μ p l e R s m args below meth c H locs cells slots Q pc ls S h (pc + 2, L, .inl n :: S, h) :=
  AG.same hP hC fun kk => lv_bipush (v := Int32.ofInt n) C.1 C.2.1 hd (by
    rw [← Int32.toInt_inj, Int8.toInt_toInt32, Int8.toInt_ofInt_of_le (by omega) (by omega), i32_to (by constructor <;> omega)]) (kk ls hL (okn (show inr32 n by constructor <;> omega) hV))
theorem as_sipush {n : Int} (C : CX Γ μ p R s m args meth c) (hP : HP Γ h H) (hC : LC Γ locs) (hL : LH ls (am_mx μ) L) (hV : ∀ v ∈ S, okv v) (hd : decode (am_cc μ) pc = .ok (.sipush n, 3)) (hn : -32768 ≤ n ∧ n ≤ 32767) : AG Γ μ p l e R s m args below meth c H locs cells slots Q pc ls S h (pc + 3, L, .inl n :: S, h) :=
  AG.same hP hC fun kk => lv_sipush (v := Int32.ofInt n) C.1 C.2.1 hd (by
    rw [← Int32.toInt_inj, Int16.toInt_toInt32, Int16.toInt_ofInt_of_le (by omega) (by omega), i32_to (by constructor <;> omega)]) (kk ls hL (okn (show inr32 n by constructor <;> omega) hV))
theorem as_lconst {n : Fin 2} (C : CX Γ μ p R s m args meth c) (hP : HP Γ h H) (hC : LC Γ locs) (hL : LH ls (am_mx μ) L) (hV : ∀ v ∈ S, okv v) (hd : decode (am_cc μ) pc = .ok (.lconst n, 1)) : AG Γ μ p l e R s m args below meth c H locs cells slots Q pc ls S h (pc + 1, L, .inr (.inl (n.val : Int)) :: S, h) :=
  AG.same hP hC fun kk => lv_lconst (v := Int64.ofInt (n.val : Int)) C.1 C.2.1 hd Int64.ofInt_eq_ofNat.symm (kk ls hL (okn (show inr32 (n.val : Int) by have := n.isLt; constructor <;> omega) hV))
theorem as_ld {i : Nat} {num : Bool} (C : CX Γ μ p R s m args meth c) (hP : HP Γ h H) (hC : LC Γ locs) (hL : LH ls (am_mx μ) L) (hV : ∀ v ∈ S, okv v)
    (hd : (num = true ∧ len = 1 ∧ ∃ k : Fin 4, k.val = i ∧ decode (am_cc μ) pc = .ok (.iload_n k, 1)) ∨ (num = true ∧ len = 2 ∧ decode (am_cc μ) pc = .ok (.iload i, 2)) ∨ (num = false ∧ len = 1 ∧ ∃ k : Fin 4, k.val = i ∧ decode (am_cc μ) pc = .ok (.aload_n k, 1)) ∨ (num = false ∧ len = 2 ∧ decode (am_cc μ) pc = .ok (.aload i, 2)))
    (hi : am_ld pc L S h i len num = some q) : AG Γ μ p l e R s m args below meth c H locs cells slots Q pc ls S h q := by
  unfold am_ld at hi
  split at hi
  · rename_i x hx
    split at hi
    · rename_i hn
      cases hi
      obtain ⟨g1, g2, g3⟩ := hL.2.2 _ _ hx
      refine AG.same hP hC fun kk => ?_
      rcases hd with ⟨-, rfl, k, rfl, d⟩ | ⟨-, rfl, d⟩ | ⟨h1, -⟩ | ⟨h1, -⟩
      · exact lv_iload_n C.1 C.2.1 d rfl g1 (kk ls hL (okn g3 hV))
      · exact lv_iload C.1 C.2.1 d g1 (kk ls hL (okn g3 hV))
      · rw [h1] at hn; cases hn
      · rw [h1] at hn; cases hn
    · cases hi
  · rename_i a hx
    split at hi
    · cases hi
    · rename_i hn
      cases hi
      obtain ⟨g1, g2, g3⟩ := hL.2.2 _ _ hx
      refine AG.same hP hC fun kk => ?_
      rcases hd with ⟨h1, -⟩ | ⟨h1, -⟩ | ⟨-, rfl, k, rfl, d⟩ | ⟨-, rfl, d⟩
      · exact absurd h1 hn
      · exact absurd h1 hn
      · exact lv_aload_n C.1 C.2.1 d rfl g1 (kk ls hL (okn g3 hV))
      · exact lv_aload C.1 C.2.1 d g1 (kk ls hL (okn g3 hV))
  · cases hi
theorem as_sv {i : Nat} {num : Bool} (C : CX Γ μ p R s m args meth c) (hP : HP Γ h H) (hC : LC Γ locs) (hL : LH ls (am_mx μ) L) (hV : ∀ v ∈ S, okv v)
    (hd : (num = true ∧ len = 1 ∧ ∃ k : Fin 4, k.val = i ∧ decode (am_cc μ) pc = .ok (.istore_n k, 1)) ∨ (num = true ∧ len = 2 ∧ decode (am_cc μ) pc = .ok (.istore i, 2)) ∨ (num = false ∧ len = 1 ∧ ∃ k : Fin 4, k.val = i ∧ decode (am_cc μ) pc = .ok (.astore_n k, 1)) ∨ (num = false ∧ len = 2 ∧ decode (am_cc μ) pc = .ok (.astore i, 2)))
    (hi : am_sv pc L S h i len (am_mx μ) num = some q) : AG Γ μ p l e R s m args below meth c H locs cells slots Q pc ls S h q := by
  unfold am_sv at hi
  split at hi
  · rename_i x S'
    split at hi
    · rename_i hn
      unfold am_st at hi
      split at hi
      · rename_i hle
        cases hi
        obtain ⟨v1, v2⟩ := okc hV
        refine AG.same hP hC fun kk => ?_
        rcases hd with ⟨-, rfl, k, rfl, d⟩ | ⟨-, rfl, d⟩ | ⟨h1, -⟩ | ⟨h1, -⟩
        · exact lv_istore_n C.1 C.2.1 d rfl hL.has hn.2 rfl (fun ls' h' => kk ls' (hL.set hle hn.2 rfl v1 h') v2)
        · exact lv_istore C.1 C.2.1 d hL.has hn.2 rfl (fun ls' h' => kk ls' (hL.set hle hn.2 rfl v1 h') v2)
        · rw [h1] at hn; cases hn.1
        · rw [h1] at hn; cases hn.1
      · cases hi
    · cases hi
  · rename_i a S'
    split at hi
    · rename_i hn
      unfold am_st at hi
      split at hi
      · rename_i hle
        cases hi
        obtain ⟨v1, v2⟩ := okc hV
        refine AG.same hP hC fun kk => ?_
        rcases hd with ⟨h1, -⟩ | ⟨h1, -⟩ | ⟨-, rfl, k, rfl, d⟩ | ⟨-, rfl, d⟩
        · exact absurd h1 hn.1
        · exact absurd h1 hn.1
        · exact lv_astore_n C.1 C.2.1 d rfl hL.has hn.2 rfl (fun ls' h' => kk ls' (hL.set hle hn.2 rfl v1 h') v2)
        · exact lv_astore C.1 C.2.1 d hL.has hn.2 rfl (fun ls' h' => kk ls' (hL.set hle hn.2 rfl v1 h') v2)
      · cases hi
    · cases hi
  · cases hi
theorem as_ic {i : Nat} {n : Int} (C : CX Γ μ p R s m args meth c) (hP : HP Γ h H) (hC : LC Γ locs) (hL : LH ls (am_mx μ) L) (hV : ∀ v ∈ S, okv v) (hd : decode (am_cc μ) pc = .ok (.iinc i n, 3))
    (hi : am_ic pc L S h i n (am_mx μ) = some q) : AG Γ μ p l e R s m args below meth c H locs cells slots Q pc ls S h q := by
  unfold am_ic at hi
  split at hi
  · rename_i x hx
    split at hi
    · rename_i hn
      cases hi
      have hlt : i < L.length := (List.getElem?_eq_some_iff.mp hx).1
      obtain ⟨k, hk⟩ := List.getElem?_of_mem (lvl_mem.mpr ⟨_, hx, rfl⟩)
      refine AG.same hP hC fun kk => ?_
      exact lv_iinc (v := Int32.ofInt (x + n)) C.1 C.2.1 hd hL.has hk (Int32.ofInt_add _ _).symm hn.2.2 rfl (fun ls' h' => kk ls' (hL.set (v := .inl (x + n)) (Nat.le_of_lt hlt) hn.2.2 rfl hn.1 h') hV)
    · cases hi
  · cases hi
theorem as_ar {f : Int → Int → Int} (C : CX Γ μ p R s m args meth c) (hP : HP Γ h H) (hC : LC Γ locs) (hL : LH ls (am_mx μ) L) (hV : ∀ v ∈ S, okv v)
    (hd : (decode (am_cc μ) pc = .ok (.iadd, 1) ∧ f = fun x y => x + y) ∨ (decode (am_cc μ) pc = .ok (.isub, 1) ∧ f = fun x y => x - y) ∨ (decode (am_cc μ) pc = .ok (.imul, 1) ∧ f = fun x y => x * y))
    (hi : am_ar pc L S h f = some q) : AG Γ μ p l e R s m args below meth c H locs cells slots Q pc ls S h q := by
  unfold am_ar at hi
  split at hi
  · rename_i y x S'
    split at hi
    · rename_i hn
      cases hi
      obtain ⟨v1, v2⟩ := okc hV
      obtain ⟨v2, v3⟩ := okc v2
      refine AG.same hP hC fun kk => ?_
      have k9 := kk ls hL (okn (show okv (.inl (f x y)) from hn) v3)
      rcases hd with ⟨d, rfl⟩ | ⟨d, rfl⟩ | ⟨d, rfl⟩
      · refine lv_iadd C.1 C.2.1 d ?_
        rw [← Int32.ofInt_add]
        exact k9
      · refine lv_isub C.1 C.2.1 d ?_
        rw [← Int32.ofInt_sub]
        exact k9
      · refine lv_imul C.1 C.2.1 d ?_
        rw [← Int32.ofInt_mul]
        exact k9
    · cases hi
  · cases hi
theorem as_rm (C : CX Γ μ p R s m args meth c) (hP : HP Γ h H) (hC : LC Γ locs) (hL : LH ls (am_mx μ) L) (hV : ∀ v ∈ S, okv v) (hd : decode (am_cc μ) pc = .ok (.irem, 1))
    (hi : am_rm pc L S h = some q) : AG Γ μ p l e R s m args below meth c H locs cells slots Q pc ls S h q := by
  unfold am_rm at hi
  split at hi
  · rename_i y x S'
    split at hi
    · rename_i hn
      cases hi
      obtain ⟨v1, v2⟩ := okc hV
      obtain ⟨v2, v3⟩ := okc v2
      have b1 := Int.emod_nonneg x (show y ≠ 0 by omega)
      have b2 := Int.emod_lt_of_pos x hn.2
      have w1 : inr32 y := v1
      have w2 : inr32 x := v2
      have hr : inr32 (x % y) := ⟨by omega, by have := w1.2; omega⟩
      refine AG.same hP hC fun kk => ?_
      have k9 := kk ls hL (okn (show okv (.inl (x % y)) from hr) v3)
      refine lv_irem C.1 C.2.1 hd (fun z => ?_) ?_
      · have := (i32_eq w1 i32_0).mp z
        omega
      · have e : Int32.ofInt x % Int32.ofInt y = Int32.ofInt (x % y) := by
          rw [← Int32.toInt_inj, Int32.toInt_mod, i32_to w1, i32_to w2, i32_to hr, Int.tmod_eq_emod_of_nonneg hn.1]
        have e0 : Int32.ofInt x / Int32.ofInt y = Int32.ofInt (x / y) := by
          have b3 := Int.ediv_nonneg hn.1 (Int.le_of_lt hn.2)
          have b4 := Int.ediv_le_self y hn.1
          have w3 : inr32 (x / y) := ⟨by omega, by have := w2.2; omega⟩
          rw [← Int32.toInt_inj, Int32.toInt_div_of_ne_right _ _ (fun z => by have := (i32_eq w1 (show inr32 (-1) by decide)).mp z; omega), i32_to w1, i32_to w2, i32_to w3, Int.tdiv_eq_ediv_of_nonneg hn.1]
        rw [e0, ← Int32.ofInt_mul, ← Int32.ofInt_sub, show x - x / y * y = x % y by rw [Int.emod_def, Int.mul_comm]]
        exact k9
    · cases hi
  · cases hi
theorem as_bo {k : Nat} (C : CX Γ μ p R s m args meth c) (hP : HP Γ h H) (hC : LC Γ locs) (hL : LH ls (am_mx μ) L) (hV : ∀ v ∈ S, okv v)
    (hd : (k = 0 ∧ decode (am_cc μ) pc = .ok (.iand, 1)) ∨ (k = 1 ∧ decode (am_cc μ) pc = .ok (.ior, 1)) ∨ (k = 2 ∧ decode (am_cc μ) pc = .ok (.ixor, 1)) ∨ (k = 3 ∧ decode (am_cc μ) pc = .ok (.ishl, 1)) ∨ (k = 4 ∧ decode (am_cc μ) pc = .ok (.ishr, 1)))
    (hi : am_bo pc L S h k = some q) : AG Γ μ p l e R s m args below meth c H locs cells slots Q pc ls S h q := by
  unfold am_bo at hi
  split at hi
  · rename_i y x S'
    cases hi
    obtain ⟨v1, v2⟩ := okc hV
    obtain ⟨v2, v3⟩ := okc v2
    refine AG.same hP hC fun kk => ?_
    have hr : okv (.inl (am_bw k x y)) := by
      show inr32 (am_bw k x y)
      unfold am_bw
      split <;> exact i32_any _
    have k9 := kk ls hL (okn hr v3)
    have e : rv (.inl (am_bw k x y)) = .int (Int32.ofInt (am_bw k x y)) := rfl
    rw [List.map_cons, e] at k9
    rcases hd with ⟨rfl, d⟩ | ⟨rfl, d⟩ | ⟨rfl, d⟩ | ⟨rfl, d⟩ | ⟨rfl, d⟩
    · refine lv_iand C.1 C.2.1 d ?_
      rw [show am_bw 0 x y = (Int32.ofInt x &&& Int32.ofInt y).toInt from rfl, Int32.ofInt_toInt] at k9
      exact k9
    · refine lv_ior C.1 C.2.1 d ?_
      rw [show am_bw 1 x y = (Int32.ofInt x ||| Int32.ofInt y).toInt from rfl, Int32.ofInt_toInt] at k9
      exact k9
    · refine lv_ixor C.1 C.2.1 d ?_
      rw [show am_bw 2 x y = (Int32.ofInt x ^^^ Int32.ofInt y).toInt from rfl, Int32.ofInt_toInt] at k9
      exact k9
    · refine lv_ishl C.1 C.2.1 d ?_
      rw [show am_bw 3 x y = (Int32.ofInt x <<< (Int32.ofInt y &&& 31)).toInt from rfl, Int32.ofInt_toInt] at k9
      exact k9
    · refine lv_ishr C.1 C.2.1 d ?_
      rw [show am_bw 4 x y = (Int32.ofInt x >>> (Int32.ofInt y &&& 31)).toInt from rfl, Int32.ofInt_toInt] at k9
      exact k9
  · cases hi
theorem as_i2l (C : CX Γ μ p R s m args meth c) (hP : HP Γ h H) (hC : LC Γ locs) (hL : LH ls (am_mx μ) L) (hV : ∀ v ∈ S, okv v) (hd : decode (am_cc μ) pc = .ok (.i2l, 1))
    (hi : am_i2l pc L S h = some q) : AG Γ μ p l e R s m args below meth c H locs cells slots Q pc ls S h q := by
  unfold am_i2l at hi
  split at hi
  · rename_i x S'
    cases hi
    obtain ⟨v1, v2⟩ := okc hV
    have w1 : inr32 x := v1
    refine AG.same hP hC fun kk => ?_
    exact lv_i2l (v := Int64.ofInt x) C.1 C.2.1 hd (by rw [← Int64.ofInt_int32ToInt, i32_to w1]) (kk ls hL (okn (show okv (.inr (.inl x)) from w1) v2))
  · cases hi
theorem as_lc (C : CX Γ μ p R s m args meth c) (hP : HP Γ h H) (hC : LC Γ locs) (hL : LH ls (am_mx μ) L) (hV : ∀ v ∈ S, okv v) (hd : decode (am_cc μ) pc = .ok (.lcmp, 1))
    (hi : am_lc pc L S h = some q) : AG Γ μ p l e R s m args below meth c H locs cells slots Q pc ls S h q := by
  unfold am_lc at hi
  split at hi
  · rename_i y x S'
    cases hi
    obtain ⟨v1, v2⟩ := okc hV
    obtain ⟨v2, v3⟩ := okc v2
    have w1 : inr32 y := v1
    have w2 : inr32 x := v2
    refine AG.same hP hC fun kk => ?_
    have hr : okv (.inl (if y < x then 1 else if x = y then 0 else -1)) := by
      show inr32 _
      split
      · decide
      · split <;> decide
    refine W.lcmp C.1 C.2.1 hd ?_
    have k9 := kk ls hL (okn hr v3)
    have e : lg_cmp (Int64.ofInt x) (Int64.ofInt y) = Int32.ofInt (if y < x then 1 else if x = y then 0 else -1) := by
      have e1 : (Int64.ofInt x > Int64.ofInt y) ↔ y < x := by
        rw [gt_iff_lt, Int64.lt_iff_toInt_lt, i64_to w1, i64_to w2]
      have e2 : (Int64.ofInt x = Int64.ofInt y) ↔ x = y := ⟨fun z => by rw [← i64_to w1, ← i64_to w2, z], fun z => by rw [z]⟩
      unfold lg_cmp
      by_cases h1 : y < x
      · rw [if_pos (e1.mpr h1), if_pos h1]; rfl
      · rw [if_neg (fun z => h1 (e1.mp z)), if_neg h1]
        by_cases h2 : x = y
        · rw [if_pos (e2.mpr h2), if_pos h2]; rfl
        · rw [if_neg (fun z => h2 (e2.mp z)), if_neg h2]; rfl
    rw [e]
    exact k9
  · cases hi
theorem as_d1 (C : CX Γ μ p R s m args meth c) (hP : HP Γ h H) (hC : LC Γ locs) (hL : LH ls (am_mx μ) L) (hV : ∀ v ∈ S, okv v) (hd : decode (am_cc μ) pc = .ok (.dup, 1))
    (hi : am_d1 pc L S h = some q) : AG Γ μ p l e R s m args below meth c H locs cells slots Q pc ls S h q := by
  unfold am_d1 at hi
  split at hi
  · rename_i v S'
    split at hi
    · rename_i hc
      cases hi
      refine AG.same hP hC fun kk => ?_
      exact lv_dup C.1 C.2.1 hd (rv_cat hc) (kk ls hL (okn (okc hV).1 hV))
    · cases hi
  · cases hi
theorem as_go {off : Int} {t : Nat} (C : CX Γ μ p R s m args meth c) (hP : HP Γ h H) (hC : LC Γ locs) (hL : LH ls (am_mx μ) L) (hV : ∀ v ∈ S, okv v) (hd : decode (am_cc μ) pc = .ok (.goto off, 3)) (ht : am_tg pc off = some t) : AG Γ μ p l e R s m args below meth c H locs cells slots Q pc ls S h (t, L, S, h) :=
  AG.same hP hC fun kk => lv_goto C.1 C.2.1 hd (tg_of ht) (kk ls hL hV)
theorem as_if1 {cd : ClassFile.Cond} {off : Int} (C : CX Γ μ p R s m args meth c) (hP : HP Γ h H) (hC : LC Γ locs) (hL : LH ls (am_mx μ) L) (hV : ∀ v ∈ S, okv v) (hd : decode (am_cc μ) pc = .ok (.ifCond cd off, 3))
    (hi : am_if1 pc L S h cd off = some q) : AG Γ μ p l e R s m args below meth c H locs cells slots Q pc ls S h q := by
  unfold am_if1 at hi
  split at hi
  · rename_i x S' t ht
    obtain ⟨v1, v2⟩ := okc hV
    have w1 : inr32 x := v1
    have t9 := tg_of ht
    have i1 := i32_eq w1 i32_0
    have i2 := i32_lt w1 i32_0
    have i3 := i32_le i32_0 w1
    have i4 := i32_lt i32_0 w1
    have i5 := i32_le w1 i32_0
    cases hi
    refine AG.same hP hC fun kk => ?_
    have k9 := kk ls hL v2
    cases cd <;> simp only [am_cd, decide_eq_true_eq] at k9
    · exact lv_if_eq C.1 C.2.1 hd t9 (fun z => by rw [if_pos (i1.mp z)] at k9; exact k9) (fun z => by rw [if_neg (fun y => z (i1.mpr y))] at k9; exact k9)
    · exact lv_if_ne C.1 C.2.1 hd t9 (fun z => by rw [if_pos (fun y => z (i1.mpr y))] at k9; exact k9) (fun z => by rw [if_neg (fun y => y (i1.mp z))] at k9; exact k9)
    · exact lv_if_lt C.1 C.2.1 hd t9 (fun z => by rw [if_pos (i2.mp z)] at k9; exact k9) (fun z => by rw [if_neg (fun y => z (i2.mpr y))] at k9; exact k9)
    · exact lv_if_ge C.1 C.2.1 hd t9 (fun z => by rw [if_pos (i3.mp z)] at k9; exact k9) (fun z => by rw [if_neg (fun y => z (i3.mpr y))] at k9; exact k9)
    · exact lv_if_gt C.1 C.2.1 hd t9 (fun z => by rw [if_pos (i4.mp z)] at k9; exact k9) (fun z => by rw [if_neg (fun y => z (i4.mpr y))] at k9; exact k9)
    · exact lv_if_le C.1 C.2.1 hd t9 (fun z => by rw [if_pos (i5.mp z)] at k9; exact k9) (fun z => by rw [if_neg (fun y => z (i5.mpr y))] at k9; exact k9)
  · cases hi
theorem as_if2 {cd : ClassFile.Cond} {off : Int} (C : CX Γ μ p R s m args meth c) (hP : HP Γ h H) (hC : LC Γ locs) (hL : LH ls (am_mx μ) L) (hV : ∀ v ∈ S, okv v) (hd : decode (am_cc μ) pc = .ok (.if_icmp cd off, 3))
    (hi : am_if2 pc L S h cd off = some q) : AG Γ μ p l e R s m args below meth c H locs cells slots Q pc ls S h q := by
  unfold am_if2 at hi
  split at hi
  · rename_i y x S' t ht
    obtain ⟨v1, v2⟩ := okc hV
    obtain ⟨v2, v3⟩ := okc v2
    have w1 : inr32 y := v1
    have w2 : inr32 x := v2
    have t9 := tg_of ht
    have i1 := i32_eq w2 w1
    have i2 := i32_lt w2 w1
    have i3 := i32_le w1 w2
    have i4 := i32_lt w1 w2
    have i5 := i32_le w2 w1
    cases hi
    refine AG.same hP hC fun kk => ?_
    have k9 := kk ls hL v3
    cases cd <;> simp only [am_cd, decide_eq_true_eq] at k9
    · exact lv_icmp_eq C.1 C.2.1 hd t9 (fun z => by rw [if_pos (i1.mp z)] at k9; exact k9) (fun z => by rw [if_neg (fun y => z (i1.mpr y))] at k9; exact k9)
    · exact lv_icmp_ne C.1 C.2.1 hd t9 (fun z => by rw [if_pos (fun y => z (i1.mpr y))] at k9; exact k9) (fun z => by rw [if_neg (fun y => y (i1.mp z))] at k9; exact k9)
    · exact lv_icmp_lt C.1 C.2.1 hd t9 (fun z => by rw [if_pos (i2.mp z)] at k9; exact k9) (fun z => by rw [if_neg (fun y => z (i2.mpr y))] at k9; exact k9)
    · exact lv_icmp_ge C.1 C.2.1 hd t9 (fun z => by rw [if_pos (i3.mp z)] at k9; exact k9) (fun z => by rw [if_neg (fun y => z (i3.mpr y))] at k9; exact k9)
    · exact lv_icmp_gt C.1 C.2.1 hd t9 (fun z => by rw [if_pos (i4.mp z)] at k9; exact k9) (fun z => by rw [if_neg (fun y => z (i4.mpr y))] at k9; exact k9)
    · exact lv_icmp_le C.1 C.2.1 hd t9 (fun z => by rw [if_pos (i5.mp z)] at k9; exact k9) (fun z => by rw [if_neg (fun y => z (i5.mpr y))] at k9; exact k9)
  · cases hi
theorem as_sw {d lo hi9 : Int} {offs : Array Int} (C : CX Γ μ p R s m args meth c) (hP : HP Γ h H) (hC : LC Γ locs) (hL : LH ls (am_mx μ) L) (hV : ∀ v ∈ S, okv v) (hd : decode (am_cc μ) pc = .ok (.tableswitch d lo hi9 offs, len))
    (hi : am_sw pc L S h d lo hi9 offs = some q) : AG Γ μ p l e R s m args below meth c H locs cells slots Q pc ls S h q := by
  unfold am_sw at hi
  split at hi
  · rename_i x S'
    obtain ⟨v1, v2⟩ := okc hV
    have w1 : inr32 x := v1
    have e9 := i32_to w1
    split at hi
    · rename_i hx
      rw [Option.map_eq_some_iff] at hi
      obtain ⟨t, ht, rfl⟩ := hi
      refine AG.same hP hC fun kk => ?_
      exact lv_tableOut C.1 C.2.1 hd (by rw [e9]; exact hx) (tg_of ht) (kk ls hL v2)
    · rename_i hx
      split at hi
      · rename_i off ho
        rw [Option.map_eq_some_iff] at hi
        obtain ⟨t, ht, rfl⟩ := hi
        refine AG.same hP hC fun kk => ?_
        exact lv_tableIn C.1 C.2.1 hd (by rw [e9]; exact fun z => hx (Or.inl z)) (by rw [e9]; exact fun z => hx (Or.inr z)) (by rw [e9]; exact ho) (tg_of ht) (kk ls hL v2)
      · cases hi
  · cases hi
end AS
end
section
/-! THE TABLES of the abstract machine against the tables' words -/
def am_TT : Nat → u_T := fun c => match c with
  | 0 => TX0
  | 1 => TX1
  | 2 => TX2
  | 3 => TX3
  | 4 => TX4
  | 5 => TX5
  | 6 => TX6
  | 7 => TX7
  | _ => TX8
def am_ty : Nat → Nat → FieldType := fun c => match c with
  | 0 => tyX0
  | 1 => tyX1
  | 2 => tyX2
  | 3 => tyX3
  | 4 => tyX4
  | 5 => tyX5
  | 6 => tyX6
  | 7 => tyX7
  | _ => tyX8
theorem c8 {P : Nat → Prop} (h0 : P 0) (h1 : P 1) (h2 : P 2) (h3 : P 3) (h4 : P 4) (h5 : P 5) (h6 : P 6) (h7 : P 7) (h8 : P 8) : ∀ c, c ≤ 8 → P c := by
  intro c hc
  match c, hc with
  | 0, _ => exact h0
  | 1, _ => exact h1
  | 2, _ => exact h2
  | 3, _ => exact h3
  | 4, _ => exact h4
  | 5, _ => exact h5
  | 6, _ => exact h6
  | 7, _ => exact h7
  | 8, _ => exact h8
theorem tw_cl : ∀ c, c ≤ 8 → vwCl[c]? = some (am_cn c, am_TT c, am_fN c) := c8 rfl rfl rfl rfl rfl rfl rfl rfl rfl
theorem tw_ty : ∀ c, c ≤ 8 → ∀ k, k < am_fN c → parseFieldDescriptor (am_TT c k).2.2.1 = some (am_ty c k) := c8 tyX0_ok tyX1_ok tyX2_ok tyX3_ok tyX4_ok tyX5_ok tyX6_ok tyX7_ok tyX8_ok
theorem tw_nm : ∀ c, c ≤ 8 → ∀ a, a < am_fN c → ∀ b, b < am_fN c → a ≠ b → (am_TT c a).2.1 ≠ (am_TT c b).2.1 := c8 nmX0 nmX1 nmX2 nmX3 nmX4 nmX5 nmX6 nmX7 nmX8
def am_rty (t : FieldType) : Bool := match t with
  | .object _ => true
  | .array _ => true
  | _ => false
theorem tw_fk : ∀ c, c ≤ 8 → ∀ k, k < am_fN c → (am_fk c k = 0 ∧ am_rty (am_ty c k) = true ∨ am_fk c k = 1 ∧ am_ty c k = .int ∨ am_fk c k = 2 ∧ am_ty c k = .boolean) ∧ (am_TT c k).2.2.2 = am_ff c k ∧ (am_TT c k).1 = am_cn c := c8 (by decide +kernel) (by decide +kernel) (by decide +kernel) (by decide +kernel) (by decide +kernel) (by decide +kernel) (by decide +kernel) (by decide +kernel) (by decide +kernel)
theorem tw_l : ∀ c, c ≤ 8 → ∀ w ∈ u_ws (am_cn c) (am_TT c) (am_fN c), w ∈ lw_tbl ∧ goodWord w = true := c8 (by decide +kernel) (by decide +kernel) (by decide +kernel) (by decide +kernel) (by decide +kernel) (by decide +kernel) (by decide +kernel) (by decide +kernel) (by decide +kernel)
theorem tw_o : ∀ c, c ≤ 8 → Cond.instantiable (am_cn c) (am_fN c) ∈ lw_tbl ∧ Cond.initialized (am_cn c) ∈ lw_tbl := c8 (by decide +kernel) (by decide +kernel) (by decide +kernel) (by decide +kernel) (by decide +kernel) (by decide +kernel) (by decide +kernel) (by decide +kernel) (by decide +kernel)
theorem c9 {P : Nat → Prop} (h : ∀ c, c ≤ 8 → P c) (h9 : P 9) (hr : ∀ c, P (c + 10)) : ∀ c, P c := by
  intro c
  by_cases h1 : c ≤ 8
  · exact h c h1
  · by_cases h2 : c = 9
    · rw [h2]; exact h9
    · rw [show c = (c - 10) + 10 by omega]; exact hr _
theorem tw_f : ∀ o, ∀ e ∈ am_frT o, e.2.1 ≤ 8 ∧ e.2.2 < am_fN e.2.1 ∧ Cond.fieldLink (am_cn o) e.1 (am_TT e.2.1 e.2.2).1 (am_TT e.2.1 e.2.2).2.1 (am_TT e.2.1 e.2.2).2.2.1 ∈ lw_tbl :=
  c9 (c8 (by decide +kernel) (by decide +kernel) (by decide +kernel) (by decide +kernel) (by decide +kernel) (by decide +kernel) (by decide +kernel) (by decide +kernel) (by decide +kernel)) (by decide +kernel) (fun c e he => by cases he)
theorem tw_c : ∀ o, ∀ e ∈ am_crT o, e.2 ≤ 8 ∧ Cond.classLink (am_cn o) e.1 (am_cn e.2) ∈ lw_tbl :=
  c9 (c8 (by decide +kernel) (by decide +kernel) (by decide +kernel) (by decide +kernel) (by decide +kernel) (by decide +kernel) (by decide +kernel) (by decide +kernel) (by decide +kernel)) (by decide +kernel) (fun c e he => by cases he)
theorem tw_a : ∀ o, ∀ e ∈ am_arT o, e.2 ≤ 8 ∧ am_ac e.2 = true ∧ Cond.classLink (am_cn o) e.1 (am_cn e.2) ∈ lw_tbl :=
  c9 (c8 (by decide +kernel) (by decide +kernel) (by decide +kernel) (by decide +kernel) (by decide +kernel) (by decide +kernel) (by decide +kernel) (by decide +kernel) (by decide +kernel)) (by decide +kernel) (fun c e he => by cases he)
theorem tw_n : ∀ o, ∀ e ∈ am_lrT o, inr32 e.2 ∧ Cond.constant (am_cn o) e.1 (Int32.ofInt e.2) ∈ lw_tbl ∧ goodWord (Cond.constant (am_cn o) e.1 (Int32.ofInt e.2)) = true :=
  c9 (c8 (by decide +kernel) (by decide +kernel) (by decide +kernel) (by decide +kernel) (by decide +kernel) (by decide +kernel) (by decide +kernel) (by decide +kernel) (by decide +kernel)) (by decide +kernel) (fun c e he => by cases he)
theorem tw_ob : ∀ o, o ≤ 8 → Cond.methodLink (am_cn o) (am_obT o) objectInit ∈ lw_tbl := c8 (by decide +kernel) (by decide +kernel) (by decide +kernel) (by decide +kernel) (by decide +kernel) (by decide +kernel) (by decide +kernel) (by decide +kernel) (by decide +kernel)
theorem tw_g : Cond.instanceMethod objectInit ∈ lw_tbl ∧ Cond.code objectInit ⟨#[0xb1]⟩ 1 none ∈ lw_tbl ∧ goodWord (Cond.code objectInit ⟨#[0xb1]⟩ 1 none) = true ∧ Cond.arrayClass .int ∈ lw_tbl ∧ Cond.arrayClass .long ∈ lw_tbl ∧ Cond.classLink RX1 17 "[[I" ∈ lw_tbl := ⟨by decide +kernel, by decide +kernel, by decide +kernel, by decide +kernel, by decide +kernel, by decide +kernel⟩
theorem tw_mn : Cond.methodLink RX2 76 Lib.Math.min.name ∈ lw_tbl ∧ Cond.static Lib.Math.min.name ∈ lw_tbl ∧ Cond.initialized "java/lang/Math" ∈ lw_tbl ∧ Cond.code Lib.Math.min.name Lib.Math.min.code 2 (some .int) ∈ lw_tbl ∧ goodWord (Cond.code Lib.Math.min.name Lib.Math.min.code 2 (some .int)) = true := ⟨by decide +kernel, by decide +kernel, by decide +kernel, by decide +kernel, by decide +kernel⟩
end
section
/-! THE STEPS that look at the heap or change it -/
section AS2
variable {Γ : aG} {μ : aM} {p : Program} {l : Launch} {e : Env} {R : Room} {s : State} {m : MethodId} {args : Array Value} {below : List Frame} {meth : Method} {c : Code} {H : Heap} {locs : List Loc} {cells slots : Nat} {Q : State → Prop}
variable {pc len : Nat} {ls : Array Slot} {L S : List aV} {h : aH} {q : aC}
theorem SF.hts (F : SF Γ) (C : CX Γ μ p R s m args meth c) : ∀ w ∈ gW, w.before args s = true := fun w hw => F.1 w hw args s C.2.2.2.2.2.2.2.2.2.2.1
theorem SF.tb (F : SF Γ) (C : CX Γ μ p R s m args meth c) {w : Cond} (h : w ∈ lw_tbl) (g : goodWord w = true) : w.before args s = true := F.hts C w (gW_mem h g)
theorem SF.K (F : SF Γ) (C : CX Γ μ p R s m args meth c) : va_K Γ.2.1 vwCl [] s := F.2.1.moved C.2.2.2.2.2.2.2.2.2.2.1.alike
theorem SF.lays (F : SF Γ) : ∀ k, k ≤ 8 → ∀ w ∈ u_ws (am_cn k) (am_TT k) (am_fN k), w ∈ gW := fun k hk w hw => gW_mem (tw_l k hk w hw).1 (tw_l k hk w hw).2
theorem HP.obj (hP : HP Γ h H) {a k : Nat} (hk : k ≤ 8) (hs : hsh h a = (k + 1, am_fN k)) : gb Γ ≤ a ∧ t_OB a (Γ.2.1.1 k) (am_fN k) (Γ.2.1.2 k) H (fun j => am_fv k j (hiv h a j) (hrf h a j)) := by
  have e1 : (hsh h a).1 = k + 1 := by rw [hs]
  have e2 : (hsh h a).2 = am_fN k := by rw [hs]
  obtain ⟨p1, -, hc⟩ := hP.2.2.2.2.1 a (by omega) (by omega)
  refine ⟨p1, ?_⟩
  rcases hc with ⟨h1, h2, h3, h4⟩ | ⟨h1, h2⟩ | ⟨h1, h2⟩ | ⟨h1, h2⟩ | ⟨h1, h2, h3, h4⟩
  · rw [e1, e2] at h4
    simpa using h4
  all_goals omega
theorem as_gf {ix : Nat} (F : SF Γ) (C : CX Γ μ p R s m args meth c) (hP : HP Γ h H) (hC : LC Γ locs) (hL : LH ls (am_mx μ) L) (hV : ∀ v ∈ S, okv v) (hd : decode (am_cc μ) pc = .ok (.getfield ix, 3))
    (hi : am_gf (am_own μ) pc L S h ix = some q) : AG Γ μ p l e R s m args below meth c H locs cells slots Q pc ls S h q := by
  unfold am_gf at hi
  split at hi
  · rename_i a S' cc k hlk
    obtain ⟨hc8, hk, hw⟩ := tw_f _ _ (am_lk_mem hlk)
    dsimp only at hc8 hk hw
    split at hi
    · rename_i hs
      obtain ⟨-, cell, q1, q2, q3, q4⟩ := hP.obj hc8 hs
      obtain ⟨hS, hfc, kC, hkC, hkind⟩ := (F.K C).1 cc _ (tw_cl cc hc8)
      obtain ⟨cf, kf, fi, f, hf, hsl⟩ := hS k hk
      have hst := (u_facts hfc hkC (u_lays (F.hts C) (F.lays cc hc8) hk) hf).1
      have key : ∀ v : Value, am_fv cc k (hiv h a k) (hrf h a k) = v → W p l e R s m args below meth c H locs cells slots Q (F0 m (pc + 3) ls (v :: S'.map rv)) → W p l e R s m args below meth c H locs cells slots Q (F0 m pc ls (.ref a :: S'.map rv)) := by
        intro v hv kk
        refine W.getf C.1 C.2.1 C.2.2.2.2.1 (F.tb C hw rfl) hf hst q1 (by rw [q3]; exact fun z => by cases z) (v := v) ?_ rfl rfl hd kk
        rw [hsl, q4 k hk]
        exact congrArg some hv
      obtain ⟨v1, v2⟩ := okc hV
      split at hi
      · rename_i hz
        split at hi
        · rename_i b hb
          cases hi
          exact AG.same hP hC fun kk => key (.ref b) (by rw [am_fv, if_pos hz, hb]; rfl) (kk ls hL (okn (show okv (.inr (.inr b)) from trivial) v2))
        · cases hi
      · rename_i hz
        cases hi
        exact AG.same hP hC fun kk => key (.int (Int32.ofInt (hiv h a k))) (by rw [am_fv, if_neg hz]) (kk ls hL (okn (show okv (.inl (hiv h a k)) from hP.2.2.2.2.2.1 a k) v2))
    · cases hi
  · cases hi
theorem apart9 (F : SF Γ) (C : CX Γ μ p R s m args meth c) {k : Nat} (hk : k ≤ 8) : ∀ x y, x < am_fN k → y < am_fN k → x ≠ y → (Γ.2.1.2 k) x ≠ (Γ.2.1.2 k) y :=
  va_apart (own := am_cn k) (F.hts C) (F.lays k hk) (am_ty k) (tw_ty k hk) (tw_nm k hk) (F.K C) (tw_cl k hk)
/-- a field is written: the machine's part, for a value that fits -/
theorem as_put {ix a cc k : Nat} {v : Value} {st : List Value} (F : SF Γ) (C : CX Γ μ p R s m args meth c) (hP : HP Γ h H) (hd : decode (am_cc μ) pc = .ok (.putfield ix, 3)) (hlk : am_lk ix (am_frT (am_own μ)) = some (cc, k)) (hs : hsh h a = (cc + 1, am_fN cc))
    (hf : am_ff cc k = true → am_ini μ = true ∧ cc = am_own μ) (hn : narrow (am_ty cc k) v = v) (hfit : fits (am_ty cc k) v = true)
    (kk : ∀ (H' : Heap) (q : Loc), gb Γ ≤ q.base → H'.size = H.size → (∀ b, b ≠ a → H'[b]? = H[b]?) → t_OB a (Γ.2.1.1 cc) (am_fN cc) (Γ.2.1.2 cc) H' (updV (fun j => am_fv cc j (hiv h a j) (hrf h a j)) k v) → W p l e R s m args below meth c H' (locs ++ [q]) cells slots Q (F0 m (pc + 3) ls st)) :
    W p l e R s m args below meth c H locs cells slots Q (F0 m pc ls (v :: .ref a :: st)) := by
  obtain ⟨hc8, hk, hw⟩ := tw_f _ _ (am_lk_mem hlk)
  dsimp only at hc8 hk hw
  obtain ⟨hb, cell, q1, q2, q3, q4⟩ := hP.obj hc8 hs
  obtain ⟨hS, hfc, kC, hkC, hkind⟩ := (F.K C).1 cc _ (tw_cl cc hc8)
  obtain ⟨cf, kf, fi, f, hf9, hsl⟩ := hS k hk
  have hlay := F.hts C _ (F.lays cc hc8 _ (u_in_lay hk))
  have hst := (u_facts hfc hkC (u_lays (F.hts C) (F.lays cc hc8) hk) hf9).1
  obtain ⟨-, hff, hdc⟩ := tw_fk cc hc8 k hk
  have fin : ∀ (H' : Heap), H'[a]? = some (cell.setSlot f.slot v) → H'.size = H.size → (∀ q, q ≠ a → H'[q]? = H[q]?) → W p l e R s m args below meth c H' (locs ++ [⟨a, f.slot⟩]) cells slots Q (F0 m (pc + 3) ls st) := by
    intro H' e1 e2 e3
    rw [hsl] at e1
    exact kk H' _ hb e2 e3 ⟨_, e1, q2, q3, t_set q4 (apart9 F C hc8) hk v⟩
  by_cases hfin : am_ff cc k = true
  · obtain ⟨hini, ho⟩ := hf hfin
    unfold u_lay at hlay
    rw [if_pos (by rw [hff]; exact hfin)] at hlay
    have hcf : m.cls = cf := by
      obtain ⟨_, _, c', _, _, _, -, -, hf', -, -, -, hown2, -⟩ := Cond.laysFinal_spec hlay
      have e1 : c' = cf := by have := hf9.symm.trans hf'; simp at this; exact this.1.symm
      have e2 : s.vm.findClass (am_TT cc k).1 = some m.cls := by rw [hdc, ho]; exact C.2.2.2.2.1
      rw [← e1]
      exact Option.some.inj (e2.symm.trans hown2)
    refine W.putFinK C.1 C.2.1 C.2.2.2.2.1 (F.tb C hw rfl) hf9 hst hcf (C.2.2.2.2.2.2.2.1 hini) (by rw [q2]; exact u_fits hfc hkC hkind (Or.inr hlay) hf9 (tw_ty cc hc8 k hk) hn hfit) q1 q3 (by rw [hsl]; exact k2_hasslot (q4 k hk)) rfl rfl hd fin
  · unfold u_lay at hlay
    rw [if_neg (by rw [hff]; exact hfin)] at hlay
    refine W.putK C.1 C.2.1 (f := f) ⟨C.2.2.2.2.1, F.tb C hw rfl, ⟨_, _, _, hf9⟩, hst⟩ (by rw [q2]; exact u_store hfc hkC hkind hlay hf9 (tw_ty cc hc8 k hk) hn hfit) q1 q3 (by rw [hsl]; exact k2_hasslot (q4 k hk)) rfl rfl hd fin
theorem as_pf {ix : Nat} (F : SF Γ) (C : CX Γ μ p R s m args meth c) (hP : HP Γ h H) (hC : LC Γ locs) (hL : LH ls (am_mx μ) L) (hV : ∀ v ∈ S, okv v) (hd : decode (am_cc μ) pc = .ok (.putfield ix, 3))
    (hi : am_pf (am_own μ) (am_ini μ) pc L S h ix = some q) : AG Γ μ p l e R s m args below meth c H locs cells slots Q pc ls S h q := by
  unfold am_pf at hi
  split at hi
  · rename_i x a S' cc k hlk
    obtain ⟨hc8, hk, hw⟩ := tw_f _ _ (am_lk_mem hlk)
    dsimp only at hc8 hk hw
    split at hi
    · rename_i hs
      obtain ⟨hs, hty, hf⟩ := hs
      cases hi
      obtain ⟨v1, v2⟩ := okc hV
      obtain ⟨-, v3⟩ := okc v2
      intro _ _ kk
      have hz : am_fk cc k ≠ 0 := by omega
      have e1 : (hsh h a).1 = cc + 1 := by rw [hs]
      have e2 : (hsh h a).2 = am_fN cc := by rw [hs]
      refine as_put F C hP hd hlk hs hf ?_ ?_ fun H' q9 hq hsz ho hob => ?_
      · obtain ⟨ht, -, -⟩ := tw_fk cc hc8 k hk
        rcases hty with h1 | ⟨h1, h2⟩ <;> rcases ht with ⟨g1, -⟩ | ⟨g1, g2⟩ | ⟨g1, g2⟩ <;> first | omega | skip
        · rw [g2]; rfl
        · rw [g2]; rcases h2 with rfl | rfl <;> rfl
      · obtain ⟨ht, -, -⟩ := tw_fk cc hc8 k hk
        rcases hty with h1 | ⟨h1, h2⟩ <;> rcases ht with ⟨g1, -⟩ | ⟨g1, g2⟩ | ⟨g1, g2⟩ <;> first | omega | skip
        · rw [g2]; rfl
        · rw [g2]; rcases h2 with rfl | rfl <;> rfl
      · have k9 := kk H' (locs ++ [q9]) ls (hP.puti v1 (by omega) (by omega) hsz ho ?_) hL v3 (hC.snoc hq) (Nat.le_refl _) (Nat.le_refl _)
        · simpa [hwi, hnx, hks] using k9
        · rw [e1, e2]
          refine Or.inl ⟨by omega, by omega, rfl, ?_⟩
          refine hob.to fun j _ => ?_
          show (if j = k then _ else _) = am_fv cc j (if j = k then x else hiv h a j) (hrf h a j)
          by_cases hj : j = k
          · subst hj
            rw [if_pos rfl, if_pos rfl, am_fv, if_neg hz]
            rfl
          · rw [if_neg hj, if_neg hj]
    · cases hi
  · rename_i b a S' cc k hlk
    obtain ⟨hc8, hk, hw⟩ := tw_f _ _ (am_lk_mem hlk)
    dsimp only at hc8 hk hw
    split at hi
    · rename_i hs
      obtain ⟨hs, hz, hf⟩ := hs
      cases hi
      obtain ⟨v1, v2⟩ := okc hV
      obtain ⟨-, v3⟩ := okc v2
      intro _ _ kk
      have e1 : (hsh h a).1 = cc + 1 := by rw [hs]
      have e2 : (hsh h a).2 = am_fN cc := by rw [hs]
      have hrt : am_rty (am_ty cc k) = true := by
        obtain ⟨ht, -, -⟩ := tw_fk cc hc8 k hk
        rcases ht with ⟨-, g⟩ | ⟨g1, g2⟩ | ⟨g1, g2⟩
        · exact g
        · omega
        · omega
      refine as_put F C hP hd hlk hs hf ?_ ?_ fun H' q9 hq hsz ho hob => ?_
      · generalize am_ty cc k = t at hrt
        cases t <;> first | rfl | cases hrt
      · generalize am_ty cc k = t at hrt
        cases t <;> first | rfl | cases hrt
      · have k9 := kk H' (locs ++ [q9]) ls (hP.putr (by omega) (by omega) hsz ho ?_) hL v3 (hC.snoc hq) (Nat.le_refl _) (Nat.le_refl _)
        · simpa [hwr, hnx, hks] using k9
        · rw [e1, e2]
          refine Or.inl ⟨by omega, by omega, rfl, ?_⟩
          refine hob.to fun j _ => ?_
          show (if j = k then _ else _) = am_fv cc j (hiv h a j) (if j = k then some b else hrf h a j)
          by_cases hj : j = k
          · subst hj
            rw [if_pos rfl, if_pos rfl, am_fv, if_pos hz]
            rfl
          · rw [if_neg hj, if_neg hj]
    · cases hi
  · cases hi
end AS2
end
section
/-! THE STEPS on arrays; new cells -/
section AS3
variable {Γ : aG} {μ : aM} {p : Program} {l : Launch} {e : Env} {R : Room} {s : State} {m : MethodId} {args : Array Value} {below : List Frame} {meth : Method} {c : Code} {H : Heap} {locs : List Loc} {cells slots : Nat} {Q : State → Prop}
variable {pc len : Nat} {ls : Array Slot} {L S : List aV} {h : aH} {q : aC}
theorem HP.ints (hP : HP Γ h H) {a : Nat} (hs : (hsh h a).1 = 20) : gb Γ ≤ a ∧ H[a]? = some (arrV Γ.2.2.1.1 (hsh h a).2 (fun j => .int (Int32.ofInt (hiv h a j)))) := by
  obtain ⟨p1, -, hc⟩ := hP.2.2.2.2.1 a (by omega) (by omega)
  refine ⟨p1, ?_⟩
  rcases hc with ⟨h1, h2, h3, h4⟩ | ⟨h1, h2⟩ | ⟨h1, h2⟩ | ⟨h1, h2⟩ | ⟨h1, h2, h3, h4⟩ <;> first | exact h2 | omega
theorem HP.longs (hP : HP Γ h H) {a : Nat} (hs : (hsh h a).1 = 21) : gb Γ ≤ a ∧ H[a]? = some (arrV Γ.2.2.1.2.1 (hsh h a).2 (fun j => .long (Int64.ofInt (hiv h a j)))) := by
  obtain ⟨p1, -, hc⟩ := hP.2.2.2.2.1 a (by omega) (by omega)
  refine ⟨p1, ?_⟩
  rcases hc with ⟨h1, h2, h3, h4⟩ | ⟨h1, h2⟩ | ⟨h1, h2⟩ | ⟨h1, h2⟩ | ⟨h1, h2, h3, h4⟩ <;> first | exact h2 | omega
theorem HP.rows (hP : HP Γ h H) {a : Nat} (hs : (hsh h a).1 = 40) : gb Γ ≤ a ∧ H[a]? = some (arrV Γ.2.2.1.2.2 (hsh h a).2 (fun j => va_rf (hrf h a j))) := by
  obtain ⟨p1, -, hc⟩ := hP.2.2.2.2.1 a (by omega) (by omega)
  refine ⟨p1, ?_⟩
  rcases hc with ⟨h1, h2, h3, h4⟩ | ⟨h1, h2⟩ | ⟨h1, h2⟩ | ⟨h1, h2⟩ | ⟨h1, h2, h3, h4⟩ <;> first | exact h2 | omega
theorem HP.refs (hP : HP Γ h H) {a : Nat} (h1 : 22 ≤ (hsh h a).1) (h2 : (hsh h a).1 ≤ 30) : gb Γ ≤ a ∧ am_ac ((hsh h a).1 - 22) = true ∧ H[a]? = some (arrV (Γ.2.2.2 ((hsh h a).1 - 22)) (hsh h a).2 (fun j => va_rf (hrf h a j))) := by
  obtain ⟨p1, -, hc⟩ := hP.2.2.2.2.1 a (by omega) (by omega)
  refine ⟨p1, ?_⟩
  rcases hc with ⟨h1, h2, h3, h4⟩ | ⟨h1, h2⟩ | ⟨h1, h2⟩ | ⟨h1, h2⟩ | ⟨h1, h2, h3, h4⟩ <;> first | exact ⟨h3, h4⟩ | omega
theorem SF.arr (F : SF Γ) (C : CX Γ μ p R s m args meth c) : ArrOfT s Γ.2.2.1.1 .int ∧ ArrOfT s Γ.2.2.1.2.1 .long ∧ ArrOfT s Γ.2.2.1.2.2 (.array .int) :=
  have ha := C.2.2.2.2.2.2.2.2.2.2.1.alike
  ⟨arrOfT_moved ha F.2.2.1.1, arrOfT_moved ha F.2.2.2.1.1, arrOfT_moved ha F.2.2.2.2.1.1⟩
theorem HP.script (hP : HP Γ h H) (C : CX Γ μ p R s m args meth c) {a : Nat} (hs : (hsh h a).1 = 50) : ∃ scr : Cell, H[a]? = some scr ∧ s.isArrayOf scr .int ∧ scr.vm ≠ .unknown ∧ scr.slots.size = (hsh h a).2 ∧ ∀ j : Nat, j < (hsh h a).2 → scr.slots[j]? = some (.int (Int32.ofInt (hiv h a j))) := by
  obtain ⟨p1, hX, -⟩ := hP.2.2.2.1 a hs
  obtain ⟨scr, h1, h2, h3, h4, h5⟩ := hX.moved C.2.2.2.2.2.2.2.2.2.2.1.alike
  exact ⟨scr, by rw [hP.2.2.1 a p1]; exact h1, h2, h3, h4, h5⟩
theorem as_al (F : SF Γ) (C : CX Γ μ p R s m args meth c) (hP : HP Γ h H) (hC : LC Γ locs) (hL : LH ls (am_mx μ) L) (hV : ∀ v ∈ S, okv v) (hd : decode (am_cc μ) pc = .ok (.arraylength, 1))
    (hi : am_al pc L S h = some q) : AG Γ μ p l e R s m args below meth c H locs cells slots Q pc ls S h q := by
  unfold am_al at hi
  split at hi
  · rename_i a S'
    split at hi
    · rename_i hs
      cases hi
      obtain ⟨v1, v2⟩ := okc hV
      obtain ⟨A1, A2, A3⟩ := F.arr C
      refine AG.same hP hC fun kk => ?_
      by_cases h5 : (hsh h a).1 = 50
      · have hsz := (hP.2.2.2.1 a h5).2.2
        obtain ⟨scr, g1, g2, g3, g4, g5⟩ := hP.script C h5
        refine W.alen (n := Int32.ofInt ((hsh h a).2 : Int)) C.1 C.2.1 g1 g2 (by rw [g4]; exact Int32.ofInt_eq_ofNat.symm) rfl rfl hd (kk ls hL (okn (show inr32 _ by constructor <;> omega) v2))
      · have hsz := (hP.2.2.2.2.1 a (by omega) h5).2.1
        have key : ∀ (cA : ClassId) (g : Nat → Value) (ty : FieldType), H[a]? = some (arrV cA (hsh h a).2 g) → s.isArrayOf (arrV cA (hsh h a).2 g) ty → W p l e R s m args below meth c H locs cells slots Q (F0 m pc ls (.ref a :: S'.map rv)) := fun cA g ty g1 g2 =>
          W.alen (n := Int32.ofInt ((hsh h a).2 : Int)) C.1 C.2.1 g1 g2 (by rw [arrV_size]; exact Int32.ofInt_eq_ofNat.symm) rfl rfl hd (kk ls hL (okn (show inr32 _ by constructor <;> omega) v2))
        obtain ⟨-, -, hc⟩ := hP.2.2.2.2.1 a (by omega) h5
        rcases hc with ⟨h1, h2, h3, h4⟩ | ⟨h1, h2⟩ | ⟨h1, h2⟩ | ⟨h1, h2⟩ | ⟨h1, h2, h3, h4⟩
        · omega
        · exact key _ _ _ h2 (A1 _ _)
        · exact key _ _ _ h2 (A2 _ _)
        · exact key _ _ _ h2 (A3 _ _)
        · exact key _ _ _ h4 (arrOfT_moved C.2.2.2.2.2.2.2.2.2.2.1.alike (F.2.2.2.2.2.1 _ h3).1.1 _ _)
    · cases hi
  · cases hi
theorem as_il (F : SF Γ) (C : CX Γ μ p R s m args meth c) (hP : HP Γ h H) (hC : LC Γ locs) (hL : LH ls (am_mx μ) L) (hV : ∀ v ∈ S, okv v) (hd : decode (am_cc μ) pc = .ok (.iaload, 1))
    (hi : am_il pc L S h = some q) : AG Γ μ p l e R s m args below meth c H locs cells slots Q pc ls S h q := by
  unfold am_il at hi
  split at hi
  · rename_i i a S'
    split at hi
    · rename_i hs
      cases hi
      obtain ⟨v1, v2⟩ := okc hV
      obtain ⟨-, v3⟩ := okc v2
      have w1 : inr32 i := v1
      obtain ⟨A1, A2, A3⟩ := F.arr C
      have hin := i32_in w1 hs.2.1 hs.2.2
      have hlt : i.toNat < (hsh h a).2 := by omega
      refine AG.same hP hC fun kk => ?_
      have k9 := kk ls hL (okn (show okv (.inl (hiv h a i.toNat)) from hP.2.2.2.2.2.1 a _) v3)
      by_cases h5 : (hsh h a).1 = 50
      · obtain ⟨scr, g1, g2, g3, g4, g5⟩ := hP.script C h5
        exact W.iald (v := .int (Int32.ofInt (hiv h a i.toNat))) C.1 C.2.1 g1 g2 g3 (by rw [g4]; exact hin) (by rw [i32_nat w1]; exact g5 _ hlt) rfl rfl hd k9
      · have h2 := (hP.ints (hs.1.resolve_right h5)).2
        exact W.iald (v := .int (Int32.ofInt (hiv h a i.toNat))) C.1 C.2.1 h2 (A1 _ _) (fun z => by cases z) (by rw [arrV_size]; exact hin) (by rw [i32_nat w1]; exact arrV_read _ _ hlt) rfl rfl hd k9
    · cases hi
  · cases hi
theorem as_ll (F : SF Γ) (C : CX Γ μ p R s m args meth c) (hP : HP Γ h H) (hC : LC Γ locs) (hL : LH ls (am_mx μ) L) (hV : ∀ v ∈ S, okv v) (hd : decode (am_cc μ) pc = .ok (.laload, 1))
    (hi : am_ll pc L S h = some q) : AG Γ μ p l e R s m args below meth c H locs cells slots Q pc ls S h q := by
  unfold am_ll at hi
  split at hi
  · rename_i i a S'
    split at hi
    · rename_i hs
      cases hi
      obtain ⟨v1, v2⟩ := okc hV
      obtain ⟨-, v3⟩ := okc v2
      have w1 : inr32 i := v1
      obtain ⟨A1, A2, A3⟩ := F.arr C
      have hin := i32_in w1 hs.2.1 hs.2.2
      have hlt : i.toNat < (hsh h a).2 := by omega
      refine AG.same hP hC fun kk => ?_
      have k9 := kk ls hL (okn (show okv (.inr (.inl (hiv h a i.toNat))) from hP.2.2.2.2.2.1 a _) v3)
      have h2 := (hP.longs hs.1).2
      exact W.lald (v := .long (Int64.ofInt (hiv h a i.toNat))) C.1 C.2.1 h2 (A2 _ _) (fun z => by cases z) (by rw [arrV_size]; exact hin) (by rw [i32_nat w1]; exact arrV_read _ _ hlt) rfl rfl hd k9
    · cases hi
  · cases hi
theorem as_rl (F : SF Γ) (C : CX Γ μ p R s m args meth c) (hP : HP Γ h H) (hC : LC Γ locs) (hL : LH ls (am_mx μ) L) (hV : ∀ v ∈ S, okv v) (hd : decode (am_cc μ) pc = .ok (.aaload, 1))
    (hi : am_rl pc L S h = some q) : AG Γ μ p l e R s m args below meth c H locs cells slots Q pc ls S h q := by
  unfold am_rl at hi
  split at hi
  · rename_i i a S'
    split at hi
    · rename_i hs
      split at hi
      · rename_i b hb
        cases hi
        obtain ⟨v1, v2⟩ := okc hV
        obtain ⟨-, v3⟩ := okc v2
        have w1 : inr32 i := v1
        obtain ⟨A1, A2, A3⟩ := F.arr C
        have hin := i32_in w1 hs.2.1 hs.2.2
        have hlt : i.toNat < (hsh h a).2 := by omega
        refine AG.same hP hC fun kk => ?_
        have k9 := kk ls hL (okn (show okv (.inr (.inr b)) from trivial) v3)
        have hv : va_rf (hrf h a i.toNat) = .ref b := by rw [hb]; rfl
        by_cases h5 : (hsh h a).1 = 40
        · have h2 := (hP.rows h5).2
          exact W.aald (v := .ref b) (ty := .array .int) C.1 C.2.1 h2 (A3 _ _) rfl (fun z => by cases z) (by rw [arrV_size]; exact hin) (by rw [i32_nat w1, arrV_read _ _ hlt, hv]) rfl rfl hd k9
        · have h6 := hs.1.resolve_left h5
          obtain ⟨-, h3, h2⟩ := hP.refs h6.1 h6.2
          exact W.aald (v := .ref b) (ty := .object (am_cn ((hsh h a).1 - 22))) C.1 C.2.1 h2 (arrOfT_moved C.2.2.2.2.2.2.2.2.2.2.1.alike (F.2.2.2.2.2.1 _ h3).1.1 _ _) rfl (fun z => by cases z) (by rw [arrV_size]; exact hin) (by rw [i32_nat w1, arrV_read _ _ hlt, hv]) rfl rfl hd k9
      · cases hi
    · cases hi
  · cases hi
theorem as_is (F : SF Γ) (C : CX Γ μ p R s m args meth c) (hP : HP Γ h H) (hC : LC Γ locs) (hL : LH ls (am_mx μ) L) (hV : ∀ v ∈ S, okv v) (hd : decode (am_cc μ) pc = .ok (.iastore, 1))
    (hi : am_is pc L S h = some q) : AG Γ μ p l e R s m args below meth c H locs cells slots Q pc ls S h q := by
  unfold am_is at hi
  split at hi
  · rename_i x i a S'
    split at hi
    · rename_i hs
      cases hi
      obtain ⟨v0, v1⟩ := okc hV
      obtain ⟨v1, v2⟩ := okc v1
      obtain ⟨-, v3⟩ := okc v2
      have w0 : inr32 x := v0
      have w1 : inr32 i := v1
      obtain ⟨A1, A2, A3⟩ := F.arr C
      have hin := i32_in w1 hs.2.1 hs.2.2
      obtain ⟨hb, h2⟩ := hP.ints hs.1
      intro _ _ kk
      refine W.iast C.1 C.2.1 h2 (A1 _ _) (fun z => by cases z) (by rw [arrV_size]; exact hin) rfl rfl hd fun H1 e1 z1 oq => ?_
      have k9 := kk H1 (locs ++ [⟨a, (Int32.ofInt i).toNatClampNeg⟩]) ls (hP.puti (k := i.toNat) w0 (by omega) (by omega) z1 oq (Or.inr (Or.inl ⟨hs.1, ?_⟩))) hL v3 (hC.snoc hb) (Nat.le_refl _) (Nat.le_refl _)
      · simpa [hwi, hnx, hks] using k9
      · rw [e1, arrV_store, i32_nat w1]
        congr 2
        funext j
        unfold updV
        by_cases hj : j = i.toNat
        · simp [hj]
        · simp [hj]
    · cases hi
  · cases hi
theorem as_ls (F : SF Γ) (C : CX Γ μ p R s m args meth c) (hP : HP Γ h H) (hC : LC Γ locs) (hL : LH ls (am_mx μ) L) (hV : ∀ v ∈ S, okv v) (hd : decode (am_cc μ) pc = .ok (.lastore, 1))
    (hi : am_ls pc L S h = some q) : AG Γ μ p l e R s m args below meth c H locs cells slots Q pc ls S h q := by
  unfold am_ls at hi
  split at hi
  · rename_i x i a S'
    split at hi
    · rename_i hs
      cases hi
      obtain ⟨v0, v1⟩ := okc hV
      obtain ⟨v1, v2⟩ := okc v1
      obtain ⟨-, v3⟩ := okc v2
      have w0 : inr32 x := v0
      have w1 : inr32 i := v1
      obtain ⟨A1, A2, A3⟩ := F.arr C
      have hin := i32_in w1 hs.2.1 hs.2.2
      obtain ⟨hb, h2⟩ := hP.longs hs.1
      intro _ _ kk
      refine W.last C.1 C.2.1 h2 (A2 _ _) (fun z => by cases z) (by rw [arrV_size]; exact hin) rfl rfl hd fun H1 e1 z1 oq => ?_
      have k9 := kk H1 (locs ++ [⟨a, (Int32.ofInt i).toNatClampNeg⟩]) ls (hP.puti (k := i.toNat) w0 (by omega) (by omega) z1 oq (Or.inr (Or.inr (Or.inl ⟨hs.1, ?_⟩)))) hL v3 (hC.snoc hb) (Nat.le_refl _) (Nat.le_refl _)
      · simpa [hwi, hnx, hks] using k9
      · rw [e1, arrV_store, i32_nat w1]
        congr 2
        funext j
        unfold updV
        by_cases hj : j = i.toNat
        · simp [hj]
        · simp [hj]
    · cases hi
  · cases hi
theorem as_rs (F : SF Γ) (C : CX Γ μ p R s m args meth c) (hP : HP Γ h H) (hC : LC Γ locs) (hL : LH ls (am_mx μ) L) (hV : ∀ v ∈ S, okv v) (hd : decode (am_cc μ) pc = .ok (.aastore, 1))
    (hi : am_rs pc L S h = some q) : AG Γ μ p l e R s m args below meth c H locs cells slots Q pc ls S h q := by
  unfold am_rs at hi
  split at hi
  · rename_i b i a S'
    split at hi
    · rename_i hs
      cases hi
      obtain ⟨r1, r2, r3, r4, r5⟩ := hs
      obtain ⟨v0, v1⟩ := okc hV
      obtain ⟨v1, v2⟩ := okc v1
      obtain ⟨-, v3⟩ := okc v2
      have w1 : inr32 i := v1
      have hin := i32_in w1 r4 r5
      obtain ⟨hb, hac, h2⟩ := hP.refs r1 r2
      generalize hk : (hsh h a).1 - 22 = k at hac h2 r3
      have hk8 : k ≤ 8 := by omega
      obtain ⟨-, cellV, g1, g2, g3, -⟩ := hP.obj hk8 r3
      have hcls := ((F.K C).1 k _ (tw_cl k hk8)).2
      obtain ⟨kA, comp, k1, k2, k3, -⟩ := va_RA.moved C.2.2.2.2.2.2.2.2.2.2.1.alike (F.2.2.2.2.2.1 k hac).1.2
      have hcomp : comp = Γ.2.1.1 k := Option.some.inj (k3.symm.trans hcls.1)
      subst hcomp
      obtain ⟨kC, hkC, -⟩ := hcls.2
      intro _ _ kk
      refine W.aast C.1 C.2.1 h2 (fun q h => by cases h) (fun h => by cases h) k1 k2 rfl hkC ⟨fun z => hin (Or.inl z), by rw [arrV_size]; exact Nat.not_le.mp fun z => hin (Or.inr z)⟩ g1 (fun q h => by rw [g3] at h; cases h) (by rw [g2]; exact hkC) (by rw [g2]; exact va_assign hcls) rfl rfl hd fun H1 e1 z1 oq => ?_
      have k9 := kk H1 (locs ++ [⟨a, (Int32.ofInt i).toNatClampNeg⟩]) ls (hP.putr (k := i.toNat) (x := some b) (by omega) (by omega) z1 oq (Or.inr (Or.inr (Or.inr (Or.inr ⟨r1, r2, by rw [hk]; exact hac, ?_⟩))))) hL v3 (hC.snoc hb) (Nat.le_refl _) (Nat.le_refl _)
      · simpa [hwr, hnx, hks] using k9
      · rw [e1, arrV_store, i32_nat w1, hk]
        congr 2
        funext j
        unfold updV
        by_cases hj : j = i.toNat
        · simp [hj, va_rf]
        · simp [hj]
    · cases hi
  · cases hi
theorem as_d2 (C : CX Γ μ p R s m args meth c) (hP : HP Γ h H) (hC : LC Γ locs) (hL : LH ls (am_mx μ) L) (hV : ∀ v ∈ S, okv v) (hd : decode (am_cc μ) pc = .ok (.dup2, 1))
    (hi : am_d2 pc L S h = some q) : AG Γ μ p l e R s m args below meth c H locs cells slots Q pc ls S h q := by
  unfold am_d2 at hi
  split at hi
  · rename_i y x S'
    split at hi
    · rename_i hc
      cases hi
      obtain ⟨v1, v2⟩ := okc hV
      obtain ⟨v2, v3⟩ := okc v2
      refine AG.same hP hC fun kk => ?_
      exact lv_dup2_11 C.1 C.2.1 hd (rv_cat hc.2) (rv_cat hc.1) (kk ls hL (okn v1 (okn v2 hV)))
    · cases hi
  · cases hi
theorem as_ob {ix : Nat} (F : SF Γ) (C : CX Γ μ p R s m args meth c) (hP : HP Γ h H) (hC : LC Γ locs) (hL : LH ls (am_mx μ) L) (hV : ∀ v ∈ S, okv v) (hd : decode (am_cc μ) pc = .ok (.invokespecial ix, 3))
    (hi : am_ob (am_own μ) (am_nF μ) (am_nL μ) pc L S h ix = some q) : AG Γ μ p l e R s m args below meth c H locs cells slots Q pc ls S h q := by
  unfold am_ob at hi
  split at hi
  · rename_i a S'
    split at hi
    · rename_i hc
      cases hi
      obtain ⟨ho, rfl, h1, h2, h3⟩ := hc
      obtain ⟨v1, v2⟩ := okc hV
      obtain ⟨g1, g2, g3, -⟩ := tw_g
      have f1 := C.2.2.2.2.2.2.2.2.1
      have f2 := C.2.2.2.2.2.2.2.2.2.1
      refine AG.same hP hC fun kk => ?_
      refine W.objInit C.1 C.2.1 C.2.2.2.2.1 (F.tb C (tw_ob _ ho) rfl) (F.tb C g1 rfl) (F.tb C g2 g3) rfl (by rw [C.2.2.2.1]; exact hL.1.1) rfl hd (by omega) ?_ (kk ls hL v2)
      rw [rv_wd]
      show 0 + am_wd S' + 12 ≤ R.locals
      omega
    · cases hi
  · cases hi
theorem as_mn {ix : Nat} (F : SF Γ) (C : CX Γ μ p R s m args meth c) (hP : HP Γ h H) (hC : LC Γ locs) (hL : LH ls (am_mx μ) L) (hV : ∀ v ∈ S, okv v) (hc1 : cells ≤ R.cells) (hs1 : slots ≤ R.slots) (hd : decode (am_cc μ) pc = .ok (.invokestatic ix, 3))
    (hi : am_mn (am_own μ) (am_nF μ) (am_nL μ) pc L S h ix = some q) : AG Γ μ p l e R s m args below meth c H locs cells slots Q pc ls S h q := by
  unfold am_mn at hi
  split at hi
  · rename_i y x S'
    split at hi
    · rename_i hc
      cases hi
      obtain ⟨ho, rfl, h1, h2, h3⟩ := hc
      obtain ⟨v1, v2⟩ := okc hV
      obtain ⟨v2, v3⟩ := okc v2
      have w1 : inr32 y := v1
      have w2 : inr32 x := v2
      obtain ⟨g1, g2, g3, g4, g5⟩ := tw_mn
      have f1 := C.2.2.2.2.2.2.2.2.1
      have f2 := C.2.2.2.2.2.2.2.2.2.1
      have hown : s.vm.findClass RX2 = some m.cls := by have h9 := C.2.2.2.2.1; rw [ho] at h9; exact h9
      refine AG.same hP hC fun kk => ?_
      have hr : okv (.inl (if y < x then y else x)) := by
        show inr32 _
        split
        · exact w1
        · exact w2
      have k9 := kk ls hL (okn hr v3)
      refine va_mmin C.1 C.2.1 (by rw [C.2.2.2.1]; exact hL.1.1.symm) hown (F.tb C g1 rfl) (F.tb C g2 rfl) (F.tb C g3 rfl) (F.tb C g4 g5) (by omega) (by rw [rv_wd]; omega) hc1 hs1 hd ?_
      have e : (if Int32.ofInt y < Int32.ofInt x then Int32.ofInt y else Int32.ofInt x) = Int32.ofInt (if y < x then y else x) := by
        by_cases h : y < x
        · rw [if_pos h, if_pos ((i32_lt w1 w2).mpr h)]
        · rw [if_neg h, if_neg (fun z => h ((i32_lt w1 w2).mp z))]
      rw [e]
      exact k9
    · cases hi
  · cases hi
theorem as_ldc {ix : Nat} (F : SF Γ) (C : CX Γ μ p R s m args meth c) (hP : HP Γ h H) (hC : LC Γ locs) (hL : LH ls (am_mx μ) L) (hV : ∀ v ∈ S, okv v) (hd : decode (am_cc μ) pc = .ok (.ldc ix, 2))
    (hi : am_lc2 (am_own μ) pc L S h ix = some q) : AG Γ μ p l e R s m args below meth c H locs cells slots Q pc ls S h q := by
  unfold am_lc2 at hi
  split at hi
  · rename_i x hlk
    cases hi
    obtain ⟨w1, w2, w3⟩ := tw_n _ _ (am_lk_mem hlk)
    refine AG.same hP hC fun kk => ?_
    exact lv_ldc (v := Int32.ofInt x) C.1 C.2.1 C.2.2.2.2.1 (F.tb C w2 w3) hd (kk ls hL (okn w1 hV))
  · cases hi
theorem as_nw {ix : Nat} (F : SF Γ) (C : CX Γ μ p R s m args meth c) (hP : HP Γ h H) (hC : LC Γ locs) (hL : LH ls (am_mx μ) L) (hV : ∀ v ∈ S, okv v) (hd : decode (am_cc μ) pc = .ok (.new ix, 3))
    (hi : am_nw (am_own μ) pc L S h ix = some q) : AG Γ μ p l e R s m args below meth c H locs cells slots Q pc ls S h q := by
  unfold am_nw at hi
  split at hi
  · rename_i k hlk
    cases hi
    obtain ⟨hk8, hw⟩ := tw_c _ _ (am_lk_mem hlk)
    dsimp only at hk8 hw
    obtain ⟨o1, o2⟩ := tw_o k hk8
    have hKn := (F.K C).1 k _ (tw_cl k hk8)
    intro r1 r2 kk
    have e1 : hnx (hnw h (k + 1) (am_fN k)) = hnx h + 1 := rfl
    have e2 : hks (hnw h (k + 1) (am_fN k)) = hks h + am_fN k := rfl
    dsimp only at r1 r2 kk
    rw [e1] at r1
    rw [e2] at r2
    have hN : am_fN k ≤ 1000 := by
      refine Nat.le_trans (m := 18) ?_ (by omega)
      exact c8 (P := fun k => am_fN k ≤ 18) (by decide) (by decide) (by decide) (by decide) (by decide) (by decide) (by decide) (by decide) (by decide) k hk8
    refine W.newcK C.1 C.2.1 C.2.2.2.2.1 (F.tb C hw rfl) (F.tb C o1 rfl) (F.tb C o2 rfl) rfl hd (by omega) (by omega) hKn.2.1 rfl fun H1 kC hkC b1 z1 o9 => ?_
    have k9 := kk H1 locs ls (hP.new z1 o9 (Nat.succ_ne_zero k) (by omega) hN (Or.inl ⟨by omega, by omega, rfl, ?_⟩)) hL (okn (show okv (.inr (.inr (hnx h))) from trivial) hV) hC (by rw [e1]; omega) (by rw [e2]; omega)
    · rw [e1, e2, show hnx h + 1 - hnx h = 1 by omega, show hks h + am_fN k - hks h = am_fN k by omega] at k9
      rw [hP.size]
      exact k9
    · refine (u_born (am_ty k) (F.hts C) (F.lays k hk8) hKn hkC b1 (tw_ty k hk8)).to fun j hj => ?_
      show defaultValue (am_ty k j) = am_fv k j 0 none
      obtain ⟨ht, -, -⟩ := tw_fk k hk8 j hj
      rcases ht with ⟨g1, g2⟩ | ⟨g1, g2⟩ | ⟨g1, g2⟩
      · rw [am_fv, if_pos g1]
        generalize am_ty k j = t at g2
        cases t <;> first | rfl | cases g2
      · rw [am_fv, if_neg (by omega), g2]; rfl
      · rw [am_fv, if_neg (by omega), g2]; rfl
  · cases hi
theorem as_na1 {t : ArrayType} (F : SF Γ) (C : CX Γ μ p R s m args meth c) (hP : HP Γ h H) (hC : LC Γ locs) (hL : LH ls (am_mx μ) L) (hV : ∀ v ∈ S, okv v) (hd : decode (am_cc μ) pc = .ok (.newarray t, 2))
    (hi : am_na1 pc L S h t = some q) : AG Γ μ p l e R s m args below meth c H locs cells slots Q pc ls S h q := by
  obtain ⟨-, -, -, gi, gl, -⟩ := tw_g
  have ha := C.2.2.2.2.2.2.2.2.2.2.1.alike
  unfold am_na1 at hi
  split at hi
  · rename_i n S'
    split at hi
    · rename_i hn
      cases hi
      obtain ⟨v1, v2⟩ := okc hV
      have w1 : inr32 n := v1
      intro r1 r2 kk
      have e1 : hnx (hnw h 20 n.toNat) = hnx h + 1 := rfl
      have e2 : hks (hnw h 20 n.toNat) = hks h + n.toNat := rfl
      dsimp only at r1 r2 kk
      rw [e1] at r1
      rw [e2] at r2
      refine va_newaK (atype := .int) C.1 C.2.1 (F.tb C gi rfl) rfl hd rfl (by rw [show (0 : Int32) = Int32.ofInt 0 from rfl, i32_lt w1 i32_0]; omega) (i32_nat w1) (by show n.toNat * 4 ≤ _; omega) (by omega) (by omega) rfl fun H1 cA b1 z1 o1 hA hN => ?_
      have hcA : cA = Γ.2.2.1.1 := by
        have h9 : s.vm.findClass ("[" ++ (FieldType.int).toString) = some Γ.2.2.1.1 := va_RA.moved ha F.2.2.1.2
        exact Option.some.inj (hN.symm.trans h9)
      subst hcA
      have k9 := kk H1 locs ls (hP.new z1 o1 (by omega) (by omega) (by omega) (Or.inr (Or.inl ⟨rfl, b1⟩))) hL (okn (show okv (.inr (.inr (hnx h))) from trivial) v2) hC (by rw [e1]; omega) (by rw [e2]; omega)
      rw [e1, e2, show hnx h + 1 - hnx h = 1 by omega, show hks h + n.toNat - hks h = n.toNat by omega] at k9
      rw [hP.size]
      exact k9
    · cases hi
  · rename_i n S'
    split at hi
    · rename_i hn
      cases hi
      obtain ⟨v1, v2⟩ := okc hV
      have w1 : inr32 n := v1
      intro r1 r2 kk
      have e1 : hnx (hnw h 21 n.toNat) = hnx h + 1 := rfl
      have e2 : hks (hnw h 21 n.toNat) = hks h + n.toNat := rfl
      dsimp only at r1 r2 kk
      rw [e1] at r1
      rw [e2] at r2
      refine va_newaK (atype := .long) C.1 C.2.1 (F.tb C gl rfl) rfl hd rfl (by rw [show (0 : Int32) = Int32.ofInt 0 from rfl, i32_lt w1 i32_0]; omega) (i32_nat w1) (by show n.toNat * 8 ≤ _; omega) (by omega) (by omega) rfl fun H1 cA b1 z1 o1 hA hN => ?_
      have hcA : cA = Γ.2.2.1.2.1 := by
        have h9 : s.vm.findClass ("[" ++ (FieldType.long).toString) = some Γ.2.2.1.2.1 := va_RA.moved ha F.2.2.2.1.2
        exact Option.some.inj (hN.symm.trans h9)
      subst hcA
      have k9 := kk H1 locs ls (hP.new z1 o1 (by omega) (by omega) (by omega) (Or.inr (Or.inr (Or.inl ⟨rfl, b1⟩)))) hL (okn (show okv (.inr (.inr (hnx h))) from trivial) v2) hC (by rw [e1]; omega) (by rw [e2]; omega)
      rw [e1, e2, show hnx h + 1 - hnx h = 1 by omega, show hks h + n.toNat - hks h = n.toNat by omega] at k9
      rw [hP.size]
      exact k9
    · cases hi
  · cases hi
theorem as_na2 {ix : Nat} (F : SF Γ) (C : CX Γ μ p R s m args meth c) (hP : HP Γ h H) (hC : LC Γ locs) (hL : LH ls (am_mx μ) L) (hV : ∀ v ∈ S, okv v) (hd : decode (am_cc μ) pc = .ok (.anewarray ix, 3))
    (hi : am_na2 (am_own μ) pc L S h ix = some q) : AG Γ μ p l e R s m args below meth c H locs cells slots Q pc ls S h q := by
  have ha := C.2.2.2.2.2.2.2.2.2.2.1.alike
  unfold am_na2 at hi
  split at hi
  · rename_i n S' k hlk
    obtain ⟨hk8, hac, hw⟩ := tw_a _ _ (am_lk_mem hlk)
    dsimp only at hk8 hac hw
    obtain ⟨⟨q1, q2⟩, q3⟩ := F.2.2.2.2.2.1 k hac
    split at hi
    · rename_i hn
      cases hi
      obtain ⟨v1, v2⟩ := okc hV
      have w1 : inr32 n := v1
      intro r1 r2 kk
      have e1 : hnx (hnw h (22 + k) n.toNat) = hnx h + 1 := rfl
      have e2 : hks (hnw h (22 + k) n.toNat) = hks h + n.toNat := rfl
      dsimp only at r1 r2 kk
      rw [e1] at r1
      rw [e2] at r2
      refine W.anew C.1 C.2.1 C.2.2.2.2.1 (F.tb C hw rfl) (va_AO.use (va_AO.moved ha q3)) rfl hd rfl (by rw [show (0 : Int32) = Int32.ofInt 0 from rfl, i32_lt w1 i32_0]; omega) (by rw [i32_nat w1]; omega) (by omega) (by rw [i32_nat w1]; omega) fun cA kA comp f1 f2 f3 f4 => ?_
      have hcA : cA = Γ.2.2.2 k := by
        obtain ⟨_, _, _, _, _, g5⟩ := va_RA.moved ha q2
        exact Option.some.inj (f1.symm.trans g5)
      subst hcA
      rw [i32_nat w1]
      generalize hH1 : H.push ({ cls := Γ.2.2.2 k, slots := Array.replicate n.toNat .null, vm := .none } : Cell) = H1
      have z1 : H1.size = H.size + 1 := by rw [← hH1, Array.size_push]
      have b1 : H1[H.size]? = some (arrV (Γ.2.2.2 k) n.toNat (fun _ => .null)) := by rw [← hH1, Array.getElem?_push_size, ← arrV_new]
      have o1 : ∀ q : Nat, q < H.size → H1[q]? = H[q]? := fun q hq => by rw [← hH1, Array.getElem?_push, if_neg (Nat.ne_of_lt hq)]
      have k9 := kk H1 locs ls (hP.new z1 o1 (by omega) (by omega) (by omega) (Or.inr (Or.inr (Or.inr (Or.inr ⟨by omega, by omega, by rw [show 22 + k - 22 = k by omega]; exact hac, by rw [show 22 + k - 22 = k by omega]; exact b1⟩))))) hL (okn (show okv (.inr (.inr (hnx h))) from trivial) v2) hC (by rw [e1]; omega) (by rw [e2]; omega)
      rw [e1, e2, show hnx h + 1 - hnx h = 1 by omega, show hks h + n.toNat - hks h = n.toNat by omega] at k9
      rw [hP.size]
      exact k9
    · cases hi
  · cases hi
end AS3
end
section
/-! new int[n][k]; every step -/
theorem va_AOA.moved {t : FieldType} {u U : State} (hvm : u.vm.Alike U.vm) (h : va_AOA t u) : va_AOA t U := by
  obtain ⟨comp, c, k, h1, h2, h3, h4, h5⟩ := arrayOverA_spec h
  obtain ⟨k', hk', he⟩ := hvm.2.2 _ _ h3
  have hi : (U.vm.classes.findIdx? fun (x : Class) => match x.kind with | .array component _ => component == comp | _ => false) = some c := by
    have hb : U.vm.bare = u.vm.bare := by first | exact hvm.bare_eq | exact hvm.bare_eq.symm
    have h9 := va_idx_bare U.vm comp
    rw [hb] at h9
    exact h9.symm.trans ((va_idx_bare u.vm comp).trans h2)
  have hkind : k'.kind = .array comp (.array t) := by rw [he]; exact h4
  have f1 : U.vm.findClass (FieldType.array t).toString = some comp := by rw [hvm.findClass]; exact h1
  have f2 : U.vm.findClass ("[" ++ (FieldType.array t).toString) = some c := by rw [hvm.findClass]; exact h5
  unfold va_AOA Cond.before Cond.holds
  simp only [Cond.value]
  rw [f1, Option.bind_some]
  refine (congrArg (fun o : Option Nat => (o.bind (fun c => (U.vm.classes[c]?).map fun (k : Class) => match k.kind with | .array _ ty => decide (ty = FieldType.array t) && decide (U.vm.findClass ("[" ++ (FieldType.array t).toString) = some c) | _ => false) == some true)) hi).trans ?_
  simp [hk', hkind, f2]
section AS4
variable {Γ : aG} {μ : aM} {p : Program} {l : Launch} {e : Env} {R : Room} {s : State} {m : MethodId} {args : Array Value} {below : List Frame} {meth : Method} {c : Code} {H : Heap} {locs : List Loc} {cells slots : Nat} {Q : State → Prop}
variable {pc len : Nat} {ls : Array Slot} {L S : List aV} {h : aH} {q : aC}
theorem HP.multi (hP : HP Γ h H) {H' : Heap} {n k : Nat} (hn : n ≤ 1000) (hk : k ≤ 1000) (hz : H'.size = H.size + 1 + n) (ho : ∀ q, q < H.size → H'[q]? = H[q]?) (h0 : H'[H.size]? = some (arrV Γ.2.2.1.2.2 n (fun j => va_rf (if j < n then some (H.size + 1 + j) else none))))
    (hr : ∀ j, j < n → H'[H.size + 1 + j]? = some (arrV Γ.2.2.1.1 k (fun _ => .int 0))) : HP Γ (hml h n k) H' := by
  obtain ⟨p1, p2, p3, p4, p5, p6, p7⟩ := id hP
  have e0 : hsh (hml h n k) (hnx h) = (40, n) := if_pos rfl
  have e1 : ∀ b, hnx h < b → b ≤ hnx h + n → hsh (hml h n k) b = (20, k) := fun b h1 h2 => by
    show (if b = hnx h then _ else if hnx h < b ∧ b ≤ hnx h + n then _ else _) = _
    rw [if_neg (by omega), if_pos ⟨h1, h2⟩]
  have e2 : ∀ b, b < hnx h ∨ hnx h + n < b → hsh (hml h n k) b = hsh h b := fun b h1 => by
    show (if b = hnx h then _ else if hnx h < b ∧ b ≤ hnx h + n then _ else _) = _
    rw [if_neg (by omega), if_neg (by omega)]
    rfl
  have g1 : ∀ b j, b ≠ hnx h → hrf (hml h n k) b j = hrf h b j := fun b j hb => by
    show (if b = hnx h ∧ j < n then _ else _) = _
    rw [if_neg (fun z => hb z.1)]
    rfl
  have en : hnx (hml h n k) = hnx h + 1 + n := rfl
  refine ⟨by rw [hz, p1, en], by rw [en]; omega, fun q hq => by rw [ho q (by omega)]; exact p3 q hq, fun b hb => ?_, fun b hb hb2 => ?_, p6, fun b hb => ?_⟩
  · rcases Nat.lt_or_ge b (hnx h) with c1 | c1
    · rw [e2 b (Or.inl c1)] at hb ⊢
      exact p4 b hb
    · rcases Nat.lt_or_ge (hnx h + n) b with c2 | c2
      · rw [e2 b (Or.inr c2)] at hb ⊢
        exact p4 b hb
      · by_cases c3 : b = hnx h
        · rw [c3, e0] at hb; cases hb
        · rw [e1 b (by omega) c2] at hb; cases hb
  · rcases Nat.lt_or_ge b (hnx h) with c1 | c1
    · rw [e2 b (Or.inl c1)] at hb hb2 ⊢
      obtain ⟨r1, r2, r3⟩ := p5 b hb hb2
      rw [show hrf (hml h n k) b = hrf h b from funext fun j => g1 b j (by omega)]
      exact ⟨r1, r2, r3.kept (ho b r3.lt)⟩
    · rcases Nat.lt_or_ge (hnx h + n) b with c2 | c2
      · rw [e2 b (Or.inr c2)] at hb
        exact absurd (hP.tag c1) hb
      · by_cases c3 : b = hnx h
        · rw [c3, e0]
          refine ⟨by omega, hn, Or.inr (Or.inr (Or.inr (Or.inl ⟨rfl, ?_⟩)))⟩
          rw [← p1, h0]
          congr 2
          funext j
          show va_rf _ = va_rf (if H.size = hnx h ∧ j < n then some (hnx h + 1 + j) else hrf h H.size j)
          rw [(p7 H.size (by omega)).2 j, p1]
          simp
        · rw [e1 b (by omega) c2]
          refine ⟨by omega, hk, Or.inr (Or.inl ⟨rfl, ?_⟩)⟩
          have h9 := hr (b - hnx h - 1) (by omega)
          rw [show H.size + 1 + (b - hnx h - 1) = b by omega] at h9
          rw [h9]
          congr 2
          funext j
          show Value.int 0 = Value.int (Int32.ofInt (hiv h b j))
          rw [(p7 b c1).1 j]
          rfl
  · rw [en] at hb
    exact ⟨(p7 b (by omega)).1, fun j => by rw [g1 b j (by omega)]; exact (p7 b (by omega)).2 j⟩
theorem as_nm {ix d : Nat} (F : SF Γ) (C : CX Γ μ p R s m args meth c) (hP : HP Γ h H) (hC : LC Γ locs) (hL : LH ls (am_mx μ) L) (hV : ∀ v ∈ S, okv v) (hd : decode (am_cc μ) pc = .ok (.multianewarray ix d, 4))
    (hi : am_nm (am_own μ) pc L S h ix d = some q) : AG Γ μ p l e R s m args below meth c H locs cells slots Q pc ls S h q := by
  have ha := C.2.2.2.2.2.2.2.2.2.2.1.alike
  unfold am_nm at hi
  split at hi
  · rename_i k n S'
    split at hi
    · rename_i hn
      cases hi
      obtain ⟨ho, rfl, rfl, n0, n1, k0, k1⟩ := hn
      obtain ⟨v1, v2⟩ := okc hV
      obtain ⟨v2, v3⟩ := okc v2
      have w1 : inr32 k := v1
      have w2 : inr32 n := v2
      obtain ⟨-, -, -, gi, -, gm⟩ := tw_g
      intro r1 r2 kk
      have e1 : hnx (hml h n.toNat k.toNat) = hnx h + 1 + n.toNat := rfl
      have e2 : hks (hml h n.toNat k.toNat) = hks h + n.toNat + n.toNat * k.toNat := rfl
      dsimp only at r1 r2 kk
      rw [e1] at r1
      rw [e2] at r2
      have hlink : (Cond.classLink RX1 17 ("[" ++ (FieldType.array .int).toString)).before args s = true := F.tb C gm rfl
      have hown : s.vm.findClass RX1 = some m.cls := by have h9 := C.2.2.2.2.1; rw [ho] at h9; exact h9
      have z1 := i32_nat w1
      have z2 := i32_nat w2
      intro T hT Xs
      obtain ⟨vm₁, cA, comp, -, fA, fC, hO, -, X', step⟩ := Xs.multianewarray2F C.1 hown hlink (va_AOA.use (va_AOA.moved ha F.2.2.2.2.2.2.1)) (F.tb C gi rfl) (g := F0 m pc ls (.int (Int32.ofInt k) :: .int (Int32.ofInt n) :: S'.map rv)) rfl (by rw [C.2.1]; exact hd) rfl
        (by rw [show (0 : Int32) = Int32.ofInt 0 from rfl, i32_lt w2 i32_0]; omega) (by rw [show (0 : Int32) = Int32.ofInt 0 from rfl, i32_lt w1 i32_0]; omega) (by rw [z2]; omega) (by rw [z1]; show k.toNat * 4 ≤ _; omega) (by rw [z1]; omega) rfl rfl (by rw [z2]; omega) (by rw [z1, z2]; omega)
      rw [z1, z2] at X' step
      have ec : comp = Γ.2.2.1.1 := by
        have h9 : s.vm.findClass ("[" ++ (FieldType.int).toString) = some Γ.2.2.1.1 := va_RA.moved ha F.2.2.1.2
        exact Option.some.inj (fC.symm.trans h9)
      have eA : cA = Γ.2.2.1.2.2 := by
        have h9 : s.vm.findClass ("[" ++ (FieldType.array .int).toString) = some Γ.2.2.1.2.2 := va_RA.moved ha F.2.2.2.2.1.2
        exact Option.some.inj (fA.symm.trans h9)
      subst ec
      subst eA
      generalize hF : Jvm.Free.Multi.fill (T.setVm vm₁) Γ.2.2.1.2.2 Γ.2.2.1.1 n.toNat k.toNat (defaultValue .int) n.toNat = G at X' step
      have hTh : (T.setVm vm₁).heap = H := hT
      obtain ⟨f1, f2, -, -⟩ := Jvm.Free.Multi.fill_facts (T.setVm vm₁) Γ.2.2.1.2.2 Γ.2.2.1.1 n.toNat k.toNat (defaultValue .int) n.toNat
      rw [hF, hTh] at f1 f2
      have hold : ∀ x : Nat, x < H.size → G.heap[x]? = H[x]? := fun x hx => by
        have := Jvm.Free.Multi.fill_old (T.setVm vm₁) Γ.2.2.1.2.2 Γ.2.2.1.1 n.toNat k.toNat (defaultValue .int) (a := x) (by rw [hTh]; exact hx) n.toNat
        rw [hF, hTh] at this
        exact this
      have hrow : ∀ j : Nat, j < n.toNat → G.heap[H.size + 1 + j]? = some (arrV Γ.2.2.1.1 k.toNat (fun _ => .int 0)) := fun j hj => by
        have := Jvm.Free.Multi.fill_inner (T.setVm vm₁) Γ.2.2.1.2.2 Γ.2.2.1.1 n.toNat k.toNat (defaultValue .int) n.toNat j hj
        rw [hF, hTh] at this
        rw [this, ← arrV_new]
        rfl
      have k9 := kk G.heap locs ls (hP.multi (by omega) (by omega) f1 hold (by rw [f2, vr_outer]) hrow) hL (okn (show okv (.inr (.inr (hnx h))) from trivial) v3) hC (by rw [e1]; omega) (by rw [e2]; omega)
      rw [e1, e2, show cells + (hnx h + 1 + n.toNat - hnx h) = cells + 1 + n.toNat by omega, show slots + (hks h + n.toNat + n.toNat * k.toNat - hks h) = slots + n.toNat + n.toNat * k.toNat by omega] at k9
      obtain ⟨t, a1, b1⟩ := k9 G rfl X'
      refine ⟨t, step t ?_, b1⟩
      have e9 : T.heap.size = hnx h := by rw [hT]; exact hP.size
      rw [e9]
      exact a1
    · cases hi
  · cases hi
set_option maxHeartbeats 4000000 in
theorem am_step {i : Instr} (F : SF Γ) (hc1 : cells ≤ R.cells) (hs1 : slots ≤ R.slots) (C : CX Γ μ p R s m args meth c) (hP : HP Γ h H) (hC : LC Γ locs) (hL : LH ls (am_mx μ) L) (hV : ∀ v ∈ S, okv v) (hd : decode (am_cc μ) pc = .ok (i, len)) (hlo : am_lo i len = true)
    (hi : amI μ pc L S h i = some q) : AG Γ μ p l e R s m args below meth c H locs cells slots Q pc ls S h q := by
  cases i <;> (try (simp only [amI, reduceCtorEq] at hi; done)) <;> (try (have hlen := of_decide_eq_true hlo; subst hlen)) <;> unfold amI at hi
  case iconst n =>
    replace hi : (if inr32 n then some (pc + 1, L, (Sum.inl n : aV) :: S, h) else none) = some q := hi
    by_cases hn : inr32 n
    · rw [if_pos hn] at hi
      cases hi
      exact as_iconst C hP hC hL hV hd hn
    · rw [if_neg hn] at hi
      cases hi
  case bipush n =>
    replace hi : (if -128 ≤ n ∧ n ≤ 127 then some (pc + 2, L, (Sum.inl n : aV) :: S, h) else none) = some q := hi
    by_cases hn : -128 ≤ n ∧ n ≤ 127
    · rw [if_pos hn] at hi
      cases hi
      exact as_bipush C hP hC hL hV hd hn
    · rw [if_neg hn] at hi
      cases hi
  case sipush n =>
    replace hi : (if -32768 ≤ n ∧ n ≤ 32767 then some (pc + 3, L, (Sum.inl n : aV) :: S, h) else none) = some q := hi
    by_cases hn : -32768 ≤ n ∧ n ≤ 32767
    · rw [if_pos hn] at hi
      cases hi
      exact as_sipush C hP hC hL hV hd hn
    · rw [if_neg hn] at hi
      cases hi
  case lconst n => cases hi; exact as_lconst C hP hC hL hV hd
  case ldc ix => exact as_ldc F C hP hC hL hV hd hi
  case iload_n k => exact as_ld C hP hC hL hV (Or.inl ⟨rfl, rfl, k, rfl, hd⟩) hi
  case iload k => exact as_ld C hP hC hL hV (Or.inr (Or.inl ⟨rfl, rfl, hd⟩)) hi
  case aload_n k => exact as_ld C hP hC hL hV (Or.inr (Or.inr (Or.inl ⟨rfl, rfl, k, rfl, hd⟩))) hi
  case aload k => exact as_ld C hP hC hL hV (Or.inr (Or.inr (Or.inr ⟨rfl, rfl, hd⟩))) hi
  case istore_n k => exact as_sv C hP hC hL hV (Or.inl ⟨rfl, rfl, k, rfl, hd⟩) hi
  case istore k => exact as_sv C hP hC hL hV (Or.inr (Or.inl ⟨rfl, rfl, hd⟩)) hi
  case astore_n k => exact as_sv C hP hC hL hV (Or.inr (Or.inr (Or.inl ⟨rfl, rfl, k, rfl, hd⟩))) hi
  case astore k => exact as_sv C hP hC hL hV (Or.inr (Or.inr (Or.inr ⟨rfl, rfl, hd⟩))) hi
  case iinc k n => exact as_ic C hP hC hL hV hd hi
  case iadd => exact as_ar C hP hC hL hV (Or.inl ⟨hd, rfl⟩) hi
  case isub => exact as_ar C hP hC hL hV (Or.inr (Or.inl ⟨hd, rfl⟩)) hi
  case imul => exact as_ar C hP hC hL hV (Or.inr (Or.inr ⟨hd, rfl⟩)) hi
  case irem => exact as_rm C hP hC hL hV hd hi
  case iand => exact as_bo C hP hC hL hV (Or.inl ⟨rfl, hd⟩) hi
  case ior => exact as_bo C hP hC hL hV (Or.inr (Or.inl ⟨rfl, hd⟩)) hi
  case ixor => exact as_bo C hP hC hL hV (Or.inr (Or.inr (Or.inl ⟨rfl, hd⟩))) hi
  case ishl => exact as_bo C hP hC hL hV (Or.inr (Or.inr (Or.inr (Or.inl ⟨rfl, hd⟩)))) hi
  case ishr => exact as_bo C hP hC hL hV (Or.inr (Or.inr (Or.inr (Or.inr ⟨rfl, hd⟩)))) hi
  case i2l => exact as_i2l C hP hC hL hV hd hi
  case lcmp => exact as_lc C hP hC hL hV hd hi
  case dup => exact as_d1 C hP hC hL hV hd hi
  case dup2 => exact as_d2 C hP hC hL hV hd hi
  case goto off =>
    rw [Option.map_eq_some_iff] at hi
    obtain ⟨t, ht, rfl⟩ := hi
    exact as_go C hP hC hL hV hd ht
  case ifCond cd off => exact as_if1 C hP hC hL hV hd hi
  case if_icmp cd off => exact as_if2 C hP hC hL hV hd hi
  case tableswitch d lo h9 offs => exact as_sw C hP hC hL hV hd hi
  case getfield ix => exact as_gf F C hP hC hL hV hd hi
  case putfield ix => exact as_pf F C hP hC hL hV hd hi
  case new ix => exact as_nw F C hP hC hL hV hd hi
  case newarray t => exact as_na1 F C hP hC hL hV hd hi
  case anewarray ix => exact as_na2 F C hP hC hL hV hd hi
  case multianewarray ix d => exact as_nm F C hP hC hL hV hd hi
  case arraylength => exact as_al F C hP hC hL hV hd hi
  case iaload => exact as_il F C hP hC hL hV hd hi
  case iastore => exact as_is F C hP hC hL hV hd hi
  case laload => exact as_ll F C hP hC hL hV hd hi
  case lastore => exact as_ls F C hP hC hL hV hd hi
  case aaload => exact as_rl F C hP hC hL hV hd hi
  case aastore => exact as_rs F C hP hC hL hV hd hi
  case invokestatic ix => exact as_mn F C hP hC hL hV hc1 hs1 hd hi
  case invokespecial ix => exact as_ob F C hP hC hL hV hd hi
end AS4
end
section
/-! THE METHODS of the abstract machine against the tables' words -/
def am_cw (ν : aM) : Cond := if am_hh ν = [] then .code (am_y ν) (am_cc ν) (am_mx ν) (am_rt ν) else .codeWith (am_y ν) (am_cc ν) (am_mx ν) (am_rt ν) (am_hh ν)
/-- what holds of a method by itself -/
abbrev am_m1 (ν : aM) : Prop := am_cw ν ∈ lw_tbl ∧ goodWord (am_cw ν) = true ∧ Cond.initialized (am_y ν).cls ∈ lw_tbl ∧ (am_y ν).cls = am_cn (am_own ν) ∧ plainName (am_y ν).cls = true ∧ (am_y ν).cls ≠ "java/lang/invoke/MethodHandle" ∧ (am_y ν).cls ≠ "java/lang/invoke/VarHandle" ∧ am_na ν ≤ am_mx ν ∧ (am_ini ν = true → (am_y ν).name = "<init>")
/-- .. and of a call of it: static, virtual, a constructor, a private constructor of a nest mate -/
abbrev am_p0 (o ix : Nat) (ν : aM) : Prop := Cond.methodLink (am_cn o) ix (am_y ν) ∈ lw_tbl ∧ Cond.static (am_y ν) ∈ lw_tbl ∧ (parseMethodDescriptor (am_y ν).desc).map (fun d => d.parameters.length) = some (am_na ν)
abbrev am_p1 (o ix : Nat) (ν : aM) : Prop := Cond.methodLink (am_cn o) ix (am_y ν) ∈ lw_tbl ∧ Cond.instanceMethod (am_y ν) ∈ lw_tbl ∧ Cond.selects (am_y ν).cls (am_y ν) (am_y ν) ∈ lw_tbl ∧ am_hh ν = [] ∧ (parseMethodDescriptor (am_y ν).desc).map (fun d => d.parameters.length + 1) = some (am_na ν) ∧ am_own ν ≤ 8
abbrev am_p2 (o ix : Nat) (ν : aM) : Prop := Cond.methodLink (am_cn o) ix (am_y ν) ∈ lw_tbl ∧ Cond.instanceMethod (am_y ν) ∈ lw_tbl ∧ (am_y ν).name = "<init>" ∧ am_rt ν = none ∧ am_hh ν = [] ∧ (parseMethodDescriptor (am_y ν).desc).map (fun d => d.parameters.length + 1) = some (am_na ν)
abbrev am_p3 (ν : aM) : Prop := Cond.instanceMethod (am_y ν) ∈ lw_tbl ∧ (am_y ν).name = "<init>" ∧ am_rt ν = none ∧ am_hh ν = [] ∧ (parseMethodDescriptor (am_y ν).desc).map (fun d => d.parameters.length + 1) = some (am_na ν)
def am_m2 (o : Nat) (e : Nat × Nat × aM) : Prop := (e.2.1 = 0 → am_p0 o e.1 e.2.2) ∧ (e.2.1 = 1 → am_p1 o e.1 e.2.2) ∧ (e.2.1 = 2 → am_p2 o e.1 e.2.2) ∧ (e.2.1 = 3 → am_p3 e.2.2)
theorem m2_0 {o ix : Nat} {ν : aM} (h : am_p0 o ix ν) : am_m2 o (ix, 0, ν) := ⟨fun _ => h, (fun z => by cases z), (fun z => by cases z), (fun z => by cases z)⟩
theorem m2_1 {o ix : Nat} {ν : aM} (h : am_p1 o ix ν) : am_m2 o (ix, 1, ν) := ⟨(fun z => by cases z), fun _ => h, (fun z => by cases z), (fun z => by cases z)⟩
theorem m2_2 {o ix : Nat} {ν : aM} (h : am_p2 o ix ν) : am_m2 o (ix, 2, ν) := ⟨(fun z => by cases z), (fun z => by cases z), fun _ => h, (fun z => by cases z)⟩
theorem m2_3 {o ix : Nat} {ν : aM} (h : am_p3 ν) : am_m2 o (ix, 3, ν) := ⟨(fun z => by cases z), (fun z => by cases z), (fun z => by cases z), fun _ => h⟩
theorem w1_X3_init : am_m1 mX3_init := ⟨List.mem_of_getElem? (i := 76) (by decide +kernel), by decide +kernel, List.mem_of_getElem? (i := 43) (by decide +kernel), rfl, by decide +kernel, by decide +kernel, by decide +kernel, by decide +kernel, (fun _ => rfl)⟩
theorem w1_X1_init : am_m1 mX1_init := ⟨List.mem_of_getElem? (i := 165) (by decide +kernel), by decide +kernel, List.mem_of_getElem? (i := 47) (by decide +kernel), rfl, by decide +kernel, by decide +kernel, by decide +kernel, by decide +kernel, (fun _ => rfl)⟩
theorem w1_X4_init : am_m1 mX4_init := ⟨List.mem_of_getElem? (i := 91) (by decide +kernel), by decide +kernel, List.mem_of_getElem? (i := 45) (by decide +kernel), rfl, by decide +kernel, by decide +kernel, by decide +kernel, by decide +kernel, (fun _ => rfl)⟩
theorem w1_X0_init : am_m1 mX0_init := ⟨List.mem_of_getElem? (i := 191) (by decide +kernel), by decide +kernel, List.mem_of_getElem? (i := 48) (by decide +kernel), rfl, by decide +kernel, by decide +kernel, by decide +kernel, by decide +kernel, (fun _ => rfl)⟩
theorem w1_X5_init : am_m1 mX5_init := ⟨List.mem_of_getElem? (i := 209) (by decide +kernel), by decide +kernel, List.mem_of_getElem? (i := 49) (by decide +kernel), rfl, by decide +kernel, by decide +kernel, by decide +kernel, by decide +kernel, (fun _ => rfl)⟩
theorem w1_X7_needIndex : am_m1 mX7_needIndex := ⟨List.mem_of_getElem? (i := 277) (by decide +kernel), by decide +kernel, List.mem_of_getElem? (i := 42) (by decide +kernel), rfl, by decide +kernel, by decide +kernel, by decide +kernel, by decide +kernel, (fun z => by cases z)⟩
theorem w1_X1_copyFrom : am_m1 mX1_copyFrom := ⟨List.mem_of_getElem? (i := 349) (by decide +kernel), by decide +kernel, List.mem_of_getElem? (i := 47) (by decide +kernel), rfl, by decide +kernel, by decide +kernel, by decide +kernel, by decide +kernel, (fun z => by cases z)⟩
theorem w1_X7_needEntryName : am_m1 mX7_needEntryName := ⟨List.mem_of_getElem? (i := 369) (by decide +kernel), by decide +kernel, List.mem_of_getElem? (i := 42) (by decide +kernel), rfl, by decide +kernel, by decide +kernel, by decide +kernel, by decide +kernel, (fun z => by cases z)⟩
theorem w1_X7_openConfiguration : am_m1 mX7_openConfiguration := ⟨List.mem_of_getElem? (i := 373) (by decide +kernel), by decide +kernel, List.mem_of_getElem? (i := 42) (by decide +kernel), rfl, by decide +kernel, by decide +kernel, by decide +kernel, by decide +kernel, (fun z => by cases z)⟩
theorem w1_X6_placeOf : am_m1 mX6_placeOf := ⟨List.mem_of_getElem? (i := 393) (by decide +kernel), by decide +kernel, List.mem_of_getElem? (i := 44) (by decide +kernel), rfl, by decide +kernel, by decide +kernel, by decide +kernel, by decide +kernel, (fun z => by cases z)⟩
theorem w1_X7_needArgument : am_m1 mX7_needArgument := ⟨List.mem_of_getElem? (i := 397) (by decide +kernel), by decide +kernel, List.mem_of_getElem? (i := 42) (by decide +kernel), rfl, by decide +kernel, by decide +kernel, by decide +kernel, by decide +kernel, (fun z => by cases z)⟩
theorem w1_X4_clear : am_m1 mX4_clear := ⟨List.mem_of_getElem? (i := 417) (by decide +kernel), by decide +kernel, List.mem_of_getElem? (i := 45) (by decide +kernel), rfl, by decide +kernel, by decide +kernel, by decide +kernel, by decide +kernel, (fun z => by cases z)⟩
theorem w1_X6_insert : am_m1 mX6_insert := ⟨List.mem_of_getElem? (i := 421) (by decide +kernel), by decide +kernel, List.mem_of_getElem? (i := 44) (by decide +kernel), rfl, by decide +kernel, by decide +kernel, by decide +kernel, by decide +kernel, (fun z => by cases z)⟩
theorem w1_X7_placeOfEntry : am_m1 mX7_placeOfEntry := ⟨List.mem_of_getElem? (i := 439) (by decide +kernel), by decide +kernel, List.mem_of_getElem? (i := 42) (by decide +kernel), rfl, by decide +kernel, by decide +kernel, by decide +kernel, by decide +kernel, (fun z => by cases z)⟩
theorem w1_X6_takeOut : am_m1 mX6_takeOut := ⟨List.mem_of_getElem? (i := 444) (by decide +kernel), by decide +kernel, List.mem_of_getElem? (i := 44) (by decide +kernel), rfl, by decide +kernel, by decide +kernel, by decide +kernel, by decide +kernel, (fun z => by cases z)⟩
theorem w1_X6_shift : am_m1 mX6_shift := ⟨List.mem_of_getElem? (i := 425) (by decide +kernel), by decide +kernel, List.mem_of_getElem? (i := 44) (by decide +kernel), rfl, by decide +kernel, by decide +kernel, by decide +kernel, by decide +kernel, (fun z => by cases z)⟩
theorem w1_X7_exchange : am_m1 mX7_exchange := ⟨List.mem_of_getElem? (i := 463) (by decide +kernel), by decide +kernel, List.mem_of_getElem? (i := 42) (by decide +kernel), rfl, by decide +kernel, by decide +kernel, by decide +kernel, by decide +kernel, (fun z => by cases z)⟩
theorem w1_X7_configurationOf : am_m1 mX7_configurationOf := ⟨List.mem_of_getElem? (i := 495) (by decide +kernel), by decide +kernel, List.mem_of_getElem? (i := 42) (by decide +kernel), rfl, by decide +kernel, by decide +kernel, by decide +kernel, by decide +kernel, (fun z => by cases z)⟩
theorem w1_X3_fill : am_m1 mX3_fill := ⟨List.mem_of_getElem? (i := 499) (by decide +kernel), by decide +kernel, List.mem_of_getElem? (i := 43) (by decide +kernel), rfl, by decide +kernel, by decide +kernel, by decide +kernel, by decide +kernel, (fun z => by cases z)⟩
theorem w1_X3_invert : am_m1 mX3_invert := ⟨List.mem_of_getElem? (i := 537) (by decide +kernel), by decide +kernel, List.mem_of_getElem? (i := 43) (by decide +kernel), rfl, by decide +kernel, by decide +kernel, by decide +kernel, by decide +kernel, (fun z => by cases z)⟩
theorem w1_X3_applyTo : am_m1 mX3_applyTo := ⟨List.mem_of_getElem? (i := 545) (by decide +kernel), by decide +kernel, List.mem_of_getElem? (i := 43) (by decide +kernel), rfl, by decide +kernel, by decide +kernel, by decide +kernel, by decide +kernel, (fun z => by cases z)⟩
theorem w1_X7_brokenRules : am_m1 mX7_brokenRules := ⟨List.mem_of_getElem? (i := 596) (by decide +kernel), by decide +kernel, List.mem_of_getElem? (i := 42) (by decide +kernel), rfl, by decide +kernel, by decide +kernel, by decide +kernel, by decide +kernel, (fun z => by cases z)⟩
theorem w1_X7_addVersion : am_m1 mX7_addVersion := ⟨List.mem_of_getElem? (i := 631) (by decide +kernel), by decide +kernel, List.mem_of_getElem? (i := 42) (by decide +kernel), rfl, by decide +kernel, by decide +kernel, by decide +kernel, by decide +kernel, (fun z => by cases z)⟩
theorem w1_X7_sectionOf : am_m1 mX7_sectionOf := ⟨List.mem_of_getElem? (i := 657) (by decide +kernel), by decide +kernel, List.mem_of_getElem? (i := 42) (by decide +kernel), rfl, by decide +kernel, by decide +kernel, by decide +kernel, by decide +kernel, (fun z => by cases z)⟩
theorem w1_X7_entryOf : am_m1 mX7_entryOf := ⟨List.mem_of_getElem? (i := 668) (by decide +kernel), by decide +kernel, List.mem_of_getElem? (i := 42) (by decide +kernel), rfl, by decide +kernel, by decide +kernel, by decide +kernel, by decide +kernel, (fun z => by cases z)⟩
theorem w1_X1_valueShown : am_m1 mX1_valueShown := ⟨List.mem_of_getElem? (i := 612) (by decide +kernel), by decide +kernel, List.mem_of_getElem? (i := 47) (by decide +kernel), rfl, by decide +kernel, by decide +kernel, by decide +kernel, by decide +kernel, (fun z => by cases z)⟩
theorem w1_X1_isLike : am_m1 mX1_isLike := ⟨List.mem_of_getElem? (i := 694) (by decide +kernel), by decide +kernel, List.mem_of_getElem? (i := 47) (by decide +kernel), rfl, by decide +kernel, by decide +kernel, by decide +kernel, by decide +kernel, (fun z => by cases z)⟩
theorem w1_X2_code : am_m1 mX2_code := ⟨List.mem_of_getElem? (i := 717) (by decide +kernel), by decide +kernel, List.mem_of_getElem? (i := 46) (by decide +kernel), rfl, by decide +kernel, by decide +kernel, by decide +kernel, by decide +kernel, (fun z => by cases z)⟩
theorem w1_X5_isKeptBy : am_m1 mX5_isKeptBy := ⟨List.mem_of_getElem? (i := 600) (by decide +kernel), by decide +kernel, List.mem_of_getElem? (i := 49) (by decide +kernel), rfl, by decide +kernel, by decide +kernel, by decide +kernel, by decide +kernel, (fun z => by cases z)⟩
theorem w1_X8_many : am_m1 mX8_many := ⟨List.mem_of_getElem? (i := 814) (by decide +kernel), by decide +kernel, List.mem_of_getElem? (i := 50) (by decide +kernel), rfl, by decide +kernel, by decide +kernel, by decide +kernel, by decide +kernel, (fun z => by cases z)⟩
theorem w1_X8_at : am_m1 mX8_at := ⟨List.mem_of_getElem? (i := 817) (by decide +kernel), by decide +kernel, List.mem_of_getElem? (i := 50) (by decide +kernel), rfl, by decide +kernel, by decide +kernel, by decide +kernel, by decide +kernel, (fun z => by cases z)⟩
theorem w1_X8_key : am_m1 mX8_key := ⟨List.mem_of_getElem? (i := 820) (by decide +kernel), by decide +kernel, List.mem_of_getElem? (i := 50) (by decide +kernel), rfl, by decide +kernel, by decide +kernel, by decide +kernel, by decide +kernel, (fun z => by cases z)⟩
theorem w1_X8_takes : am_m1 mX8_takes := ⟨List.mem_of_getElem? (i := 840) (by decide +kernel), by decide +kernel, List.mem_of_getElem? (i := 50) (by decide +kernel), rfl, by decide +kernel, by decide +kernel, by decide +kernel, by decide +kernel, (fun z => by cases z)⟩
theorem w1_X8_puts : am_m1 mX8_puts := ⟨List.mem_of_getElem? (i := 828) (by decide +kernel), by decide +kernel, List.mem_of_getElem? (i := 50) (by decide +kernel), rfl, by decide +kernel, by decide +kernel, by decide +kernel, by decide +kernel, (fun z => by cases z)⟩
theorem w1_X8_in : am_m1 mX8_in := ⟨List.mem_of_getElem? (i := 792) (by decide +kernel), by decide +kernel, List.mem_of_getElem? (i := 50) (by decide +kernel), rfl, by decide +kernel, by decide +kernel, by decide +kernel, by decide +kernel, (fun z => by cases z)⟩
theorem w1_X8_isSection : am_m1 mX8_isSection := ⟨List.mem_of_getElem? (i := 806) (by decide +kernel), by decide +kernel, List.mem_of_getElem? (i := 50) (by decide +kernel), rfl, by decide +kernel, by decide +kernel, by decide +kernel, by decide +kernel, (fun z => by cases z)⟩
theorem w1_X8_isCandidate : am_m1 mX8_isCandidate := ⟨List.mem_of_getElem? (i := 789) (by decide +kernel), by decide +kernel, List.mem_of_getElem? (i := 50) (by decide +kernel), rfl, by decide +kernel, by decide +kernel, by decide +kernel, by decide +kernel, (fun z => by cases z)⟩
theorem w1_X8_copies : am_m1 mX8_copies := ⟨List.mem_of_getElem? (i := 796) (by decide +kernel), by decide +kernel, List.mem_of_getElem? (i := 50) (by decide +kernel), rfl, by decide +kernel, by decide +kernel, by decide +kernel, by decide +kernel, (fun z => by cases z)⟩
theorem w1_X8_isKey : am_m1 mX8_isKey := ⟨List.mem_of_getElem? (i := 803) (by decide +kernel), by decide +kernel, List.mem_of_getElem? (i := 50) (by decide +kernel), rfl, by decide +kernel, by decide +kernel, by decide +kernel, by decide +kernel, (fun z => by cases z)⟩
theorem w1_X8_find : am_m1 mX8_find := ⟨List.mem_of_getElem? (i := 810) (by decide +kernel), by decide +kernel, List.mem_of_getElem? (i := 50) (by decide +kernel), rfl, by decide +kernel, by decide +kernel, by decide +kernel, by decide +kernel, (fun z => by cases z)⟩
theorem w1_X8_fails : am_m1 mX8_fails := ⟨List.mem_of_getElem? (i := 824) (by decide +kernel), by decide +kernel, List.mem_of_getElem? (i := 50) (by decide +kernel), rfl, by decide +kernel, by decide +kernel, by decide +kernel, by decide +kernel, (fun z => by cases z)⟩
theorem w1_X8_entry : am_m1 mX8_entry := ⟨List.mem_of_getElem? (i := 836) (by decide +kernel), by decide +kernel, List.mem_of_getElem? (i := 50) (by decide +kernel), rfl, by decide +kernel, by decide +kernel, by decide +kernel, by decide +kernel, (fun z => by cases z)⟩
theorem w1_X8_shifts : am_m1 mX8_shifts := ⟨List.mem_of_getElem? (i := 848) (by decide +kernel), by decide +kernel, List.mem_of_getElem? (i := 50) (by decide +kernel), rfl, by decide +kernel, by decide +kernel, by decide +kernel, by decide +kernel, (fun z => by cases z)⟩
theorem w1_X8_isField : am_m1 mX8_isField := ⟨List.mem_of_getElem? (i := 855) (by decide +kernel), by decide +kernel, List.mem_of_getElem? (i := 50) (by decide +kernel), rfl, by decide +kernel, by decide +kernel, by decide +kernel, by decide +kernel, (fun z => by cases z)⟩
theorem w1_X8_field : am_m1 mX8_field := ⟨List.mem_of_getElem? (i := 858) (by decide +kernel), by decide +kernel, List.mem_of_getElem? (i := 50) (by decide +kernel), rfl, by decide +kernel, by decide +kernel, by decide +kernel, by decide +kernel, (fun z => by cases z)⟩
theorem w1_X8_withField : am_m1 mX8_withField := ⟨List.mem_of_getElem? (i := 861) (by decide +kernel), by decide +kernel, List.mem_of_getElem? (i := 50) (by decide +kernel), rfl, by decide +kernel, by decide +kernel, by decide +kernel, by decide +kernel, (fun z => by cases z)⟩
theorem w1_X8_group : am_m1 mX8_group := ⟨List.mem_of_getElem? (i := 868) (by decide +kernel), by decide +kernel, List.mem_of_getElem? (i := 50) (by decide +kernel), rfl, by decide +kernel, by decide +kernel, by decide +kernel, by decide +kernel, (fun z => by cases z)⟩
theorem w1_X8_withGroup : am_m1 mX8_withGroup := ⟨List.mem_of_getElem? (i := 871) (by decide +kernel), by decide +kernel, List.mem_of_getElem? (i := 50) (by decide +kernel), rfl, by decide +kernel, by decide +kernel, by decide +kernel, by decide +kernel, (fun z => by cases z)⟩
theorem w1_X8_groupAt : am_m1 mX8_groupAt := ⟨List.mem_of_getElem? (i := 879) (by decide +kernel), by decide +kernel, List.mem_of_getElem? (i := 50) (by decide +kernel), rfl, by decide +kernel, by decide +kernel, by decide +kernel, by decide +kernel, (fun z => by cases z)⟩
theorem w1_X8_notes : am_m1 mX8_notes := ⟨List.mem_of_getElem? (i := 899) (by decide +kernel), by decide +kernel, List.mem_of_getElem? (i := 50) (by decide +kernel), rfl, by decide +kernel, by decide +kernel, by decide +kernel, by decide +kernel, (fun z => by cases z)⟩
theorem w1_X8_settles : am_m1 mX8_settles := ⟨List.mem_of_getElem? (i := 903) (by decide +kernel), by decide +kernel, List.mem_of_getElem? (i := 50) (by decide +kernel), rfl, by decide +kernel, by decide +kernel, by decide +kernel, by decide +kernel, (fun z => by cases z)⟩
theorem w1_X8_does : am_m1 mX8_does := ⟨List.mem_of_getElem? (i := 911) (by decide +kernel), by decide +kernel, List.mem_of_getElem? (i := 50) (by decide +kernel), rfl, by decide +kernel, by decide +kernel, by decide +kernel, by decide +kernel, (fun z => by cases z)⟩
theorem w1_X8_slot : am_m1 mX8_slot := ⟨List.mem_of_getElem? (i := 891) (by decide +kernel), by decide +kernel, List.mem_of_getElem? (i := 50) (by decide +kernel), rfl, by decide +kernel, by decide +kernel, by decide +kernel, by decide +kernel, (fun z => by cases z)⟩
theorem w1_X8_lists : am_m1 mX8_lists := ⟨List.mem_of_getElem? (i := 895) (by decide +kernel), by decide +kernel, List.mem_of_getElem? (i := 50) (by decide +kernel), rfl, by decide +kernel, by decide +kernel, by decide +kernel, by decide +kernel, (fun z => by cases z)⟩
theorem w1_X8_doesAll : am_m1 mX8_doesAll := ⟨List.mem_of_getElem? (i := 907) (by decide +kernel), by decide +kernel, List.mem_of_getElem? (i := 50) (by decide +kernel), rfl, by decide +kernel, by decide +kernel, by decide +kernel, by decide +kernel, (fun z => by cases z)⟩
theorem w1_X8_shows : am_m1 mX8_shows := ⟨List.mem_of_getElem? (i := 935) (by decide +kernel), by decide +kernel, List.mem_of_getElem? (i := 50) (by decide +kernel), rfl, by decide +kernel, by decide +kernel, by decide +kernel, by decide +kernel, (fun z => by cases z)⟩
theorem w1_X8_isKept : am_m1 mX8_isKept := ⟨List.mem_of_getElem? (i := 931) (by decide +kernel), by decide +kernel, List.mem_of_getElem? (i := 50) (by decide +kernel), rfl, by decide +kernel, by decide +kernel, by decide +kernel, by decide +kernel, (fun z => by cases z)⟩
theorem w1_X8_isThere : am_m1 mX8_isThere := ⟨List.mem_of_getElem? (i := 923) (by decide +kernel), by decide +kernel, List.mem_of_getElem? (i := 50) (by decide +kernel), rfl, by decide +kernel, by decide +kernel, by decide +kernel, by decide +kernel, (fun z => by cases z)⟩
theorem w1_X8_faultsOf : am_m1 mX8_faultsOf := ⟨List.mem_of_getElem? (i := 927) (by decide +kernel), by decide +kernel, List.mem_of_getElem? (i := 50) (by decide +kernel), rfl, by decide +kernel, by decide +kernel, by decide +kernel, by decide +kernel, (fun z => by cases z)⟩
theorem w1_X8_isEntry : am_m1 mX8_isEntry := ⟨List.mem_of_getElem? (i := 967) (by decide +kernel), by decide +kernel, List.mem_of_getElem? (i := 50) (by decide +kernel), rfl, by decide +kernel, by decide +kernel, by decide +kernel, by decide +kernel, (fun z => by cases z)⟩
theorem w1_X8_areThere : am_m1 mX8_areThere := ⟨List.mem_of_getElem? (i := 983) (by decide +kernel), by decide +kernel, List.mem_of_getElem? (i := 50) (by decide +kernel), rfl, by decide +kernel, by decide +kernel, by decide +kernel, by decide +kernel, (fun z => by cases z)⟩
theorem w1_X6_init : am_m1 mX6_init := ⟨List.mem_of_getElem? (i := 84) (by decide +kernel), by decide +kernel, List.mem_of_getElem? (i := 44) (by decide +kernel), rfl, by decide +kernel, by decide +kernel, by decide +kernel, by decide +kernel, (fun _ => rfl)⟩
theorem w1_X6_copyFrom : am_m1 mX6_copyFrom := ⟨List.mem_of_getElem? (i := 353) (by decide +kernel), by decide +kernel, List.mem_of_getElem? (i := 44) (by decide +kernel), rfl, by decide +kernel, by decide +kernel, by decide +kernel, by decide +kernel, (fun z => by cases z)⟩
theorem w1_X6_isLike : am_m1 mX6_isLike := ⟨List.mem_of_getElem? (i := 698) (by decide +kernel), by decide +kernel, List.mem_of_getElem? (i := 44) (by decide +kernel), rfl, by decide +kernel, by decide +kernel, by decide +kernel, by decide +kernel, (fun z => by cases z)⟩
theorem w1_X2_setIn : am_m1 mX2_setIn := ⟨List.mem_of_getElem? (i := 553) (by decide +kernel), by decide +kernel, List.mem_of_getElem? (i := 46) (by decide +kernel), rfl, by decide +kernel, by decide +kernel, by decide +kernel, by decide +kernel, (fun z => by cases z)⟩
theorem w1_X2_addTo : am_m1 mX2_addTo := ⟨List.mem_of_getElem? (i := 558) (by decide +kernel), by decide +kernel, List.mem_of_getElem? (i := 46) (by decide +kernel), rfl, by decide +kernel, by decide +kernel, by decide +kernel, by decide +kernel, (fun z => by cases z)⟩
theorem w1_X2_removeFrom : am_m1 mX2_removeFrom := ⟨List.mem_of_getElem? (i := 566) (by decide +kernel), by decide +kernel, List.mem_of_getElem? (i := 46) (by decide +kernel), rfl, by decide +kernel, by decide +kernel, by decide +kernel, by decide +kernel, (fun z => by cases z)⟩
theorem w1_X2_moveIn : am_m1 mX2_moveIn := ⟨List.mem_of_getElem? (i := 575) (by decide +kernel), by decide +kernel, List.mem_of_getElem? (i := 46) (by decide +kernel), rfl, by decide +kernel, by decide +kernel, by decide +kernel, by decide +kernel, (fun z => by cases z)⟩
theorem w1_X4_isLike : am_m1 mX4_isLike := ⟨List.mem_of_getElem? (i := 570) (by decide +kernel), by decide +kernel, List.mem_of_getElem? (i := 45) (by decide +kernel), rfl, by decide +kernel, by decide +kernel, by decide +kernel, by decide +kernel, (fun z => by cases z)⟩
theorem w1_X2_init : am_m1 mX2_init := ⟨List.mem_of_getElem? (i := 126) (by decide +kernel), by decide +kernel, List.mem_of_getElem? (i := 46) (by decide +kernel), rfl, by decide +kernel, by decide +kernel, by decide +kernel, by decide +kernel, (fun _ => rfl)⟩
theorem w1_X3_noteRemovals : am_m1 mX3_noteRemovals := ⟨List.mem_of_getElem? (i := 504) (by decide +kernel), by decide +kernel, List.mem_of_getElem? (i := 43) (by decide +kernel), rfl, by decide +kernel, by decide +kernel, by decide +kernel, by decide +kernel, (fun z => by cases z)⟩
theorem w1_X3_notePlaces : am_m1 mX3_notePlaces := ⟨List.mem_of_getElem? (i := 523) (by decide +kernel), by decide +kernel, List.mem_of_getElem? (i := 43) (by decide +kernel), rfl, by decide +kernel, by decide +kernel, by decide +kernel, by decide +kernel, (fun z => by cases z)⟩
theorem w1_X3_noteSettings : am_m1 mX3_noteSettings := ⟨List.mem_of_getElem? (i := 529) (by decide +kernel), by decide +kernel, List.mem_of_getElem? (i := 43) (by decide +kernel), rfl, by decide +kernel, by decide +kernel, by decide +kernel, by decide +kernel, (fun z => by cases z)⟩
theorem w1_X3_noteIfUnlike : am_m1 mX3_noteIfUnlike := ⟨List.mem_of_getElem? (i := 533) (by decide +kernel), by decide +kernel, List.mem_of_getElem? (i := 43) (by decide +kernel), rfl, by decide +kernel, by decide +kernel, by decide +kernel, by decide +kernel, (fun z => by cases z)⟩
theorem w1_X2_invert : am_m1 mX2_invert := ⟨List.mem_of_getElem? (i := 541) (by decide +kernel), by decide +kernel, List.mem_of_getElem? (i := 46) (by decide +kernel), rfl, by decide +kernel, by decide +kernel, by decide +kernel, by decide +kernel, (fun z => by cases z)⟩
theorem w1_X2_applyTo : am_m1 mX2_applyTo := ⟨List.mem_of_getElem? (i := 549) (by decide +kernel), by decide +kernel, List.mem_of_getElem? (i := 46) (by decide +kernel), rfl, by decide +kernel, by decide +kernel, by decide +kernel, by decide +kernel, (fun z => by cases z)⟩
theorem w1_X3_noteWhole : am_m1 mX3_noteWhole := ⟨List.mem_of_getElem? (i := 509) (by decide +kernel), by decide +kernel, List.mem_of_getElem? (i := 43) (by decide +kernel), rfl, by decide +kernel, by decide +kernel, by decide +kernel, by decide +kernel, (fun z => by cases z)⟩
theorem w1_X3_note : am_m1 mX3_note := ⟨List.mem_of_getElem? (i := 514) (by decide +kernel), by decide +kernel, List.mem_of_getElem? (i := 43) (by decide +kernel), rfl, by decide +kernel, by decide +kernel, by decide +kernel, by decide +kernel, (fun z => by cases z)⟩
theorem w1_X4_copyFrom : am_m1 mX4_copyFrom := ⟨List.mem_of_getElem? (i := 357) (by decide +kernel), by decide +kernel, List.mem_of_getElem? (i := 45) (by decide +kernel), rfl, by decide +kernel, by decide +kernel, by decide +kernel, by decide +kernel, (fun z => by cases z)⟩
theorem w1_X2_become : am_m1 mX2_become := ⟨List.mem_of_getElem? (i := 518) (by decide +kernel), by decide +kernel, List.mem_of_getElem? (i := 46) (by decide +kernel), rfl, by decide +kernel, by decide +kernel, by decide +kernel, by decide +kernel, (fun z => by cases z)⟩
theorem w1_X5_isKeptAt : am_m1 mX5_isKeptAt := ⟨List.mem_of_getElem? (i := 604) (by decide +kernel), by decide +kernel, List.mem_of_getElem? (i := 49) (by decide +kernel), rfl, by decide +kernel, by decide +kernel, by decide +kernel, by decide +kernel, (fun z => by cases z)⟩
theorem w1_X5_shownAt : am_m1 mX5_shownAt := ⟨List.mem_of_getElem? (i := 608) (by decide +kernel), by decide +kernel, List.mem_of_getElem? (i := 49) (by decide +kernel), rfl, by decide +kernel, by decide +kernel, by decide +kernel, by decide +kernel, (fun z => by cases z)⟩
theorem w1_X5_isShownAhead : am_m1 mX5_isShownAhead := ⟨List.mem_of_getElem? (i := 617) (by decide +kernel), by decide +kernel, List.mem_of_getElem? (i := 49) (by decide +kernel), rfl, by decide +kernel, by decide +kernel, by decide +kernel, by decide +kernel, (fun z => by cases z)⟩
theorem w1_X6_hasPlace : am_m1 mX6_hasPlace := ⟨List.mem_of_getElem? (i := 429) (by decide +kernel), by decide +kernel, List.mem_of_getElem? (i := 44) (by decide +kernel), rfl, by decide +kernel, by decide +kernel, by decide +kernel, by decide +kernel, (fun z => by cases z)⟩
theorem w1_X7_open : am_m1 mX7_open := ⟨List.mem_of_getElem? (i := 274) (by decide +kernel), by decide +kernel, List.mem_of_getElem? (i := 42) (by decide +kernel), rfl, by decide +kernel, by decide +kernel, by decide +kernel, by decide +kernel, (fun z => by cases z)⟩
theorem w1_X7_add : am_m1 mX7_add := ⟨List.mem_of_getElem? (i := 366) (by decide +kernel), by decide +kernel, List.mem_of_getElem? (i := 42) (by decide +kernel), rfl, by decide +kernel, by decide +kernel, by decide +kernel, by decide +kernel, (fun z => by cases z)⟩
theorem w1_X7_remove : am_m1 mX7_remove := ⟨List.mem_of_getElem? (i := 436) (by decide +kernel), by decide +kernel, List.mem_of_getElem? (i := 42) (by decide +kernel), rfl, by decide +kernel, by decide +kernel, by decide +kernel, by decide +kernel, (fun z => by cases z)⟩
theorem w1_X7_move : am_m1 mX7_move := ⟨List.mem_of_getElem? (i := 451) (by decide +kernel), by decide +kernel, List.mem_of_getElem? (i := 42) (by decide +kernel), rfl, by decide +kernel, by decide +kernel, by decide +kernel, by decide +kernel, (fun z => by cases z)⟩
theorem w1_X7_set : am_m1 mX7_set := ⟨List.mem_of_getElem? (i := 459) (by decide +kernel), by decide +kernel, List.mem_of_getElem? (i := 42) (by decide +kernel), rfl, by decide +kernel, by decide +kernel, by decide +kernel, by decide +kernel, (fun z => by cases z)⟩
theorem w1_X7_join : am_m1 mX7_join := ⟨List.mem_of_getElem? (i := 470) (by decide +kernel), by decide +kernel, List.mem_of_getElem? (i := 42) (by decide +kernel), rfl, by decide +kernel, by decide +kernel, by decide +kernel, by decide +kernel, (fun z => by cases z)⟩
theorem w1_X7_setGroup : am_m1 mX7_setGroup := ⟨List.mem_of_getElem? (i := 477) (by decide +kernel), by decide +kernel, List.mem_of_getElem? (i := 42) (by decide +kernel), rfl, by decide +kernel, by decide +kernel, by decide +kernel, by decide +kernel, (fun z => by cases z)⟩
theorem w1_X7_load : am_m1 mX7_load := ⟨List.mem_of_getElem? (i := 484) (by decide +kernel), by decide +kernel, List.mem_of_getElem? (i := 42) (by decide +kernel), rfl, by decide +kernel, by decide +kernel, by decide +kernel, by decide +kernel, (fun z => by cases z)⟩
theorem w1_X7_apply : am_m1 mX7_apply := ⟨List.mem_of_getElem? (i := 491) (by decide +kernel), by decide +kernel, List.mem_of_getElem? (i := 42) (by decide +kernel), rfl, by decide +kernel, by decide +kernel, by decide +kernel, by decide +kernel, (fun z => by cases z)⟩
theorem w1_X7_rule : am_m1 mX7_rule := ⟨List.mem_of_getElem? (i := 584) (by decide +kernel), by decide +kernel, List.mem_of_getElem? (i := 42) (by decide +kernel), rfl, by decide +kernel, by decide +kernel, by decide +kernel, by decide +kernel, (fun z => by cases z)⟩
theorem w1_X7_faults : am_m1 mX7_faults := ⟨List.mem_of_getElem? (i := 592) (by decide +kernel), by decide +kernel, List.mem_of_getElem? (i := 42) (by decide +kernel), rfl, by decide +kernel, by decide +kernel, by decide +kernel, by decide +kernel, (fun z => by cases z)⟩
theorem w1_X7_commit : am_m1 mX7_commit := ⟨List.mem_of_getElem? (i := 624) (by decide +kernel), by decide +kernel, List.mem_of_getElem? (i := 42) (by decide +kernel), rfl, by decide +kernel, by decide +kernel, by decide +kernel, by decide +kernel, (fun z => by cases z)⟩
theorem w1_X7_confirm : am_m1 mX7_confirm := ⟨List.mem_of_getElem? (i := 638) (by decide +kernel), by decide +kernel, List.mem_of_getElem? (i := 42) (by decide +kernel), rfl, by decide +kernel, by decide +kernel, by decide +kernel, by decide +kernel, (fun z => by cases z)⟩
theorem w1_X7_advance : am_m1 mX7_advance := ⟨List.mem_of_getElem? (i := 646) (by decide +kernel), by decide +kernel, List.mem_of_getElem? (i := 42) (by decide +kernel), rfl, by decide +kernel, by decide +kernel, by decide +kernel, by decide +kernel, (fun z => by cases z)⟩
theorem w1_X7_size : am_m1 mX7_size := ⟨List.mem_of_getElem? (i := 653) (by decide +kernel), by decide +kernel, List.mem_of_getElem? (i := 42) (by decide +kernel), rfl, by decide +kernel, by decide +kernel, by decide +kernel, by decide +kernel, (fun z => by cases z)⟩
theorem w1_X7_keyAt : am_m1 mX7_keyAt := ⟨List.mem_of_getElem? (i := 664) (by decide +kernel), by decide +kernel, List.mem_of_getElem? (i := 42) (by decide +kernel), rfl, by decide +kernel, by decide +kernel, by decide +kernel, by decide +kernel, (fun z => by cases z)⟩
theorem w1_X7_shown : am_m1 mX7_shown := ⟨List.mem_of_getElem? (i := 675) (by decide +kernel), by decide +kernel, List.mem_of_getElem? (i := 42) (by decide +kernel), rfl, by decide +kernel, by decide +kernel, by decide +kernel, by decide +kernel, (fun z => by cases z)⟩
theorem w1_X7_own : am_m1 mX7_own := ⟨List.mem_of_getElem? (i := 683) (by decide +kernel), by decide +kernel, List.mem_of_getElem? (i := 42) (by decide +kernel), rfl, by decide +kernel, by decide +kernel, by decide +kernel, by decide +kernel, (fun z => by cases z)⟩
theorem w1_X7_same : am_m1 mX7_same := ⟨List.mem_of_getElem? (i := 690) (by decide +kernel), by decide +kernel, List.mem_of_getElem? (i := 42) (by decide +kernel), rfl, by decide +kernel, by decide +kernel, by decide +kernel, by decide +kernel, (fun z => by cases z)⟩
theorem w1_X7_edits : am_m1 mX7_edits := ⟨List.mem_of_getElem? (i := 706) (by decide +kernel), by decide +kernel, List.mem_of_getElem? (i := 42) (by decide +kernel), rfl, by decide +kernel, by decide +kernel, by decide +kernel, by decide +kernel, (fun z => by cases z)⟩
theorem w1_X7_editAt : am_m1 mX7_editAt := ⟨List.mem_of_getElem? (i := 713) (by decide +kernel), by decide +kernel, List.mem_of_getElem? (i := 42) (by decide +kernel), rfl, by decide +kernel, by decide +kernel, by decide +kernel, by decide +kernel, (fun z => by cases z)⟩
theorem w1_X7_init : am_m1 mX7_init := ⟨List.mem_of_getElem? (i := 62) (by decide +kernel), by decide +kernel, List.mem_of_getElem? (i := 42) (by decide +kernel), rfl, by decide +kernel, by decide +kernel, by decide +kernel, by decide +kernel, (fun _ => rfl)⟩
theorem w1_X8_init : am_m1 mX8_init := ⟨List.mem_of_getElem? (i := 722) (by decide +kernel), by decide +kernel, List.mem_of_getElem? (i := 50) (by decide +kernel), rfl, by decide +kernel, by decide +kernel, by decide +kernel, by decide +kernel, (fun _ => rfl)⟩
theorem w1_L_open : am_m1 mL_open := ⟨List.mem_of_getElem? (i := 269) (by decide +kernel), by decide +kernel, List.mem_of_getElem? (i := 41) (by decide +kernel), rfl, by decide +kernel, by decide +kernel, by decide +kernel, by decide +kernel, (fun z => by cases z)⟩
theorem w1_X8_open : am_m1 mX8_open := ⟨List.mem_of_getElem? (i := 786) (by decide +kernel), by decide +kernel, List.mem_of_getElem? (i := 50) (by decide +kernel), rfl, by decide +kernel, by decide +kernel, by decide +kernel, by decide +kernel, (fun z => by cases z)⟩
theorem w1_X8_thrown : am_m1 mX8_thrown := ⟨List.mem_of_getElem? (i := 782) (by decide +kernel), by decide +kernel, List.mem_of_getElem? (i := 50) (by decide +kernel), rfl, by decide +kernel, by decide +kernel, by decide +kernel, by decide +kernel, (fun z => by cases z)⟩
theorem w1_L_add : am_m1 mL_add := ⟨List.mem_of_getElem? (i := 360) (by decide +kernel), by decide +kernel, List.mem_of_getElem? (i := 41) (by decide +kernel), rfl, by decide +kernel, by decide +kernel, by decide +kernel, by decide +kernel, (fun z => by cases z)⟩
theorem w1_X8_add : am_m1 mX8_add := ⟨List.mem_of_getElem? (i := 800) (by decide +kernel), by decide +kernel, List.mem_of_getElem? (i := 50) (by decide +kernel), rfl, by decide +kernel, by decide +kernel, by decide +kernel, by decide +kernel, (fun z => by cases z)⟩
theorem w1_L_remove : am_m1 mL_remove := ⟨List.mem_of_getElem? (i := 432) (by decide +kernel), by decide +kernel, List.mem_of_getElem? (i := 41) (by decide +kernel), rfl, by decide +kernel, by decide +kernel, by decide +kernel, by decide +kernel, (fun z => by cases z)⟩
theorem w1_X8_remove : am_m1 mX8_remove := ⟨List.mem_of_getElem? (i := 832) (by decide +kernel), by decide +kernel, List.mem_of_getElem? (i := 50) (by decide +kernel), rfl, by decide +kernel, by decide +kernel, by decide +kernel, by decide +kernel, (fun z => by cases z)⟩
theorem w1_L_move : am_m1 mL_move := ⟨List.mem_of_getElem? (i := 447) (by decide +kernel), by decide +kernel, List.mem_of_getElem? (i := 41) (by decide +kernel), rfl, by decide +kernel, by decide +kernel, by decide +kernel, by decide +kernel, (fun z => by cases z)⟩
theorem w1_X8_move : am_m1 mX8_move := ⟨List.mem_of_getElem? (i := 844) (by decide +kernel), by decide +kernel, List.mem_of_getElem? (i := 50) (by decide +kernel), rfl, by decide +kernel, by decide +kernel, by decide +kernel, by decide +kernel, (fun z => by cases z)⟩
theorem w1_L_set : am_m1 mL_set := ⟨List.mem_of_getElem? (i := 455) (by decide +kernel), by decide +kernel, List.mem_of_getElem? (i := 41) (by decide +kernel), rfl, by decide +kernel, by decide +kernel, by decide +kernel, by decide +kernel, (fun z => by cases z)⟩
theorem w1_X8_set : am_m1 mX8_set := ⟨List.mem_of_getElem? (i := 852) (by decide +kernel), by decide +kernel, List.mem_of_getElem? (i := 50) (by decide +kernel), rfl, by decide +kernel, by decide +kernel, by decide +kernel, by decide +kernel, (fun z => by cases z)⟩
theorem w1_L_join : am_m1 mL_join := ⟨List.mem_of_getElem? (i := 466) (by decide +kernel), by decide +kernel, List.mem_of_getElem? (i := 41) (by decide +kernel), rfl, by decide +kernel, by decide +kernel, by decide +kernel, by decide +kernel, (fun z => by cases z)⟩
theorem w1_X8_join : am_m1 mX8_join := ⟨List.mem_of_getElem? (i := 865) (by decide +kernel), by decide +kernel, List.mem_of_getElem? (i := 50) (by decide +kernel), rfl, by decide +kernel, by decide +kernel, by decide +kernel, by decide +kernel, (fun z => by cases z)⟩
theorem w1_L_setGroup : am_m1 mL_setGroup := ⟨List.mem_of_getElem? (i := 473) (by decide +kernel), by decide +kernel, List.mem_of_getElem? (i := 41) (by decide +kernel), rfl, by decide +kernel, by decide +kernel, by decide +kernel, by decide +kernel, (fun z => by cases z)⟩
theorem w1_X8_setGroup : am_m1 mX8_setGroup := ⟨List.mem_of_getElem? (i := 876) (by decide +kernel), by decide +kernel, List.mem_of_getElem? (i := 50) (by decide +kernel), rfl, by decide +kernel, by decide +kernel, by decide +kernel, by decide +kernel, (fun z => by cases z)⟩
theorem w1_L_load : am_m1 mL_load := ⟨List.mem_of_getElem? (i := 480) (by decide +kernel), by decide +kernel, List.mem_of_getElem? (i := 41) (by decide +kernel), rfl, by decide +kernel, by decide +kernel, by decide +kernel, by decide +kernel, (fun z => by cases z)⟩
theorem w1_X8_load : am_m1 mX8_load := ⟨List.mem_of_getElem? (i := 883) (by decide +kernel), by decide +kernel, List.mem_of_getElem? (i := 50) (by decide +kernel), rfl, by decide +kernel, by decide +kernel, by decide +kernel, by decide +kernel, (fun z => by cases z)⟩
theorem w1_L_apply : am_m1 mL_apply := ⟨List.mem_of_getElem? (i := 487) (by decide +kernel), by decide +kernel, List.mem_of_getElem? (i := 41) (by decide +kernel), rfl, by decide +kernel, by decide +kernel, by decide +kernel, by decide +kernel, (fun z => by cases z)⟩
theorem w1_X8_apply : am_m1 mX8_apply := ⟨List.mem_of_getElem? (i := 887) (by decide +kernel), by decide +kernel, List.mem_of_getElem? (i := 50) (by decide +kernel), rfl, by decide +kernel, by decide +kernel, by decide +kernel, by decide +kernel, (fun z => by cases z)⟩
theorem w1_L_rule : am_m1 mL_rule := ⟨List.mem_of_getElem? (i := 580) (by decide +kernel), by decide +kernel, List.mem_of_getElem? (i := 41) (by decide +kernel), rfl, by decide +kernel, by decide +kernel, by decide +kernel, by decide +kernel, (fun z => by cases z)⟩
theorem w1_X8_rule : am_m1 mX8_rule := ⟨List.mem_of_getElem? (i := 915) (by decide +kernel), by decide +kernel, List.mem_of_getElem? (i := 50) (by decide +kernel), rfl, by decide +kernel, by decide +kernel, by decide +kernel, by decide +kernel, (fun z => by cases z)⟩
theorem w1_L_faults : am_m1 mL_faults := ⟨List.mem_of_getElem? (i := 588) (by decide +kernel), by decide +kernel, List.mem_of_getElem? (i := 41) (by decide +kernel), rfl, by decide +kernel, by decide +kernel, by decide +kernel, by decide +kernel, (fun z => by cases z)⟩
theorem w1_X8_faults : am_m1 mX8_faults := ⟨List.mem_of_getElem? (i := 919) (by decide +kernel), by decide +kernel, List.mem_of_getElem? (i := 50) (by decide +kernel), rfl, by decide +kernel, by decide +kernel, by decide +kernel, by decide +kernel, (fun z => by cases z)⟩
theorem w1_L_commit : am_m1 mL_commit := ⟨List.mem_of_getElem? (i := 620) (by decide +kernel), by decide +kernel, List.mem_of_getElem? (i := 41) (by decide +kernel), rfl, by decide +kernel, by decide +kernel, by decide +kernel, by decide +kernel, (fun z => by cases z)⟩
theorem w1_X8_commit : am_m1 mX8_commit := ⟨List.mem_of_getElem? (i := 939) (by decide +kernel), by decide +kernel, List.mem_of_getElem? (i := 50) (by decide +kernel), rfl, by decide +kernel, by decide +kernel, by decide +kernel, by decide +kernel, (fun z => by cases z)⟩
theorem w1_L_confirm : am_m1 mL_confirm := ⟨List.mem_of_getElem? (i := 634) (by decide +kernel), by decide +kernel, List.mem_of_getElem? (i := 41) (by decide +kernel), rfl, by decide +kernel, by decide +kernel, by decide +kernel, by decide +kernel, (fun z => by cases z)⟩
theorem w1_X8_confirm : am_m1 mX8_confirm := ⟨List.mem_of_getElem? (i := 943) (by decide +kernel), by decide +kernel, List.mem_of_getElem? (i := 50) (by decide +kernel), rfl, by decide +kernel, by decide +kernel, by decide +kernel, by decide +kernel, (fun z => by cases z)⟩
theorem w1_L_advance : am_m1 mL_advance := ⟨List.mem_of_getElem? (i := 642) (by decide +kernel), by decide +kernel, List.mem_of_getElem? (i := 41) (by decide +kernel), rfl, by decide +kernel, by decide +kernel, by decide +kernel, by decide +kernel, (fun z => by cases z)⟩
theorem w1_X8_advance : am_m1 mX8_advance := ⟨List.mem_of_getElem? (i := 947) (by decide +kernel), by decide +kernel, List.mem_of_getElem? (i := 50) (by decide +kernel), rfl, by decide +kernel, by decide +kernel, by decide +kernel, by decide +kernel, (fun z => by cases z)⟩
theorem w1_X7_running : am_m1 mX7_running := ⟨List.mem_of_getElem? (i := 262) (by decide +kernel), by decide +kernel, List.mem_of_getElem? (i := 42) (by decide +kernel), rfl, by decide +kernel, by decide +kernel, by decide +kernel, by decide +kernel, (fun z => by cases z)⟩
theorem w1_X8_running : am_m1 mX8_running := ⟨List.mem_of_getElem? (i := 951) (by decide +kernel), by decide +kernel, List.mem_of_getElem? (i := 50) (by decide +kernel), rfl, by decide +kernel, by decide +kernel, by decide +kernel, by decide +kernel, (fun z => by cases z)⟩
theorem w1_X7_waiting : am_m1 mX7_waiting := ⟨List.mem_of_getElem? (i := 266) (by decide +kernel), by decide +kernel, List.mem_of_getElem? (i := 42) (by decide +kernel), rfl, by decide +kernel, by decide +kernel, by decide +kernel, by decide +kernel, (fun z => by cases z)⟩
theorem w1_X8_waiting : am_m1 mX8_waiting := ⟨List.mem_of_getElem? (i := 955) (by decide +kernel), by decide +kernel, List.mem_of_getElem? (i := 50) (by decide +kernel), rfl, by decide +kernel, by decide +kernel, by decide +kernel, by decide +kernel, (fun z => by cases z)⟩
theorem w1_L_size : am_m1 mL_size := ⟨List.mem_of_getElem? (i := 649) (by decide +kernel), by decide +kernel, List.mem_of_getElem? (i := 41) (by decide +kernel), rfl, by decide +kernel, by decide +kernel, by decide +kernel, by decide +kernel, (fun z => by cases z)⟩
theorem w1_X8_size : am_m1 mX8_size := ⟨List.mem_of_getElem? (i := 959) (by decide +kernel), by decide +kernel, List.mem_of_getElem? (i := 50) (by decide +kernel), rfl, by decide +kernel, by decide +kernel, by decide +kernel, by decide +kernel, (fun z => by cases z)⟩
theorem w1_L_keyAt : am_m1 mL_keyAt := ⟨List.mem_of_getElem? (i := 660) (by decide +kernel), by decide +kernel, List.mem_of_getElem? (i := 41) (by decide +kernel), rfl, by decide +kernel, by decide +kernel, by decide +kernel, by decide +kernel, (fun z => by cases z)⟩
theorem w1_X8_keyAt : am_m1 mX8_keyAt := ⟨List.mem_of_getElem? (i := 963) (by decide +kernel), by decide +kernel, List.mem_of_getElem? (i := 50) (by decide +kernel), rfl, by decide +kernel, by decide +kernel, by decide +kernel, by decide +kernel, (fun z => by cases z)⟩
theorem w1_L_shown : am_m1 mL_shown := ⟨List.mem_of_getElem? (i := 671) (by decide +kernel), by decide +kernel, List.mem_of_getElem? (i := 41) (by decide +kernel), rfl, by decide +kernel, by decide +kernel, by decide +kernel, by decide +kernel, (fun z => by cases z)⟩
theorem w1_X8_shown : am_m1 mX8_shown := ⟨List.mem_of_getElem? (i := 971) (by decide +kernel), by decide +kernel, List.mem_of_getElem? (i := 50) (by decide +kernel), rfl, by decide +kernel, by decide +kernel, by decide +kernel, by decide +kernel, (fun z => by cases z)⟩
theorem w1_L_own : am_m1 mL_own := ⟨List.mem_of_getElem? (i := 679) (by decide +kernel), by decide +kernel, List.mem_of_getElem? (i := 41) (by decide +kernel), rfl, by decide +kernel, by decide +kernel, by decide +kernel, by decide +kernel, (fun z => by cases z)⟩
theorem w1_X8_own : am_m1 mX8_own := ⟨List.mem_of_getElem? (i := 975) (by decide +kernel), by decide +kernel, List.mem_of_getElem? (i := 50) (by decide +kernel), rfl, by decide +kernel, by decide +kernel, by decide +kernel, by decide +kernel, (fun z => by cases z)⟩
theorem w1_L_same : am_m1 mL_same := ⟨List.mem_of_getElem? (i := 686) (by decide +kernel), by decide +kernel, List.mem_of_getElem? (i := 41) (by decide +kernel), rfl, by decide +kernel, by decide +kernel, by decide +kernel, by decide +kernel, (fun z => by cases z)⟩
theorem w1_X8_same : am_m1 mX8_same := ⟨List.mem_of_getElem? (i := 979) (by decide +kernel), by decide +kernel, List.mem_of_getElem? (i := 50) (by decide +kernel), rfl, by decide +kernel, by decide +kernel, by decide +kernel, by decide +kernel, (fun z => by cases z)⟩
theorem w1_L_edits : am_m1 mL_edits := ⟨List.mem_of_getElem? (i := 702) (by decide +kernel), by decide +kernel, List.mem_of_getElem? (i := 41) (by decide +kernel), rfl, by decide +kernel, by decide +kernel, by decide +kernel, by decide +kernel, (fun z => by cases z)⟩
theorem w1_X8_edits : am_m1 mX8_edits := ⟨List.mem_of_getElem? (i := 987) (by decide +kernel), by decide +kernel, List.mem_of_getElem? (i := 50) (by decide +kernel), rfl, by decide +kernel, by decide +kernel, by decide +kernel, by decide +kernel, (fun z => by cases z)⟩
theorem w1_L_editAt : am_m1 mL_editAt := ⟨List.mem_of_getElem? (i := 709) (by decide +kernel), by decide +kernel, List.mem_of_getElem? (i := 41) (by decide +kernel), rfl, by decide +kernel, by decide +kernel, by decide +kernel, by decide +kernel, (fun z => by cases z)⟩
theorem w1_X8_editAt : am_m1 mX8_editAt := ⟨List.mem_of_getElem? (i := 991) (by decide +kernel), by decide +kernel, List.mem_of_getElem? (i := 50) (by decide +kernel), rfl, by decide +kernel, by decide +kernel, by decide +kernel, by decide +kernel, (fun z => by cases z)⟩
theorem w2_0_9 : am_m2 0 (9, 2, mX1_init) := m2_2 ⟨List.mem_of_getElem? (i := 194) (by decide +kernel), List.mem_of_getElem? (i := 164) (by decide +kernel), rfl, rfl, rfl, by decide +kernel⟩
set_option maxRecDepth 20000 in
theorem tw_m1_0 : ∀ e ∈ am_mrT 0, am_m1 e.2.2 := (List.forall_mem_cons.mpr ⟨w1_X1_init, (fun _ h => absurd h List.not_mem_nil)⟩)
set_option maxRecDepth 20000 in
theorem tw_m2_0 : ∀ e ∈ am_mrT 0, am_m2 0 e := (List.forall_mem_cons.mpr ⟨w2_0_9, (fun _ h => absurd h List.not_mem_nil)⟩)
theorem w2_1_22 : am_m2 1 (22, 2, mX6_init) := m2_2 ⟨List.mem_of_getElem? (i := 171) (by decide +kernel), List.mem_of_getElem? (i := 83) (by decide +kernel), rfl, rfl, rfl, by decide +kernel⟩
theorem w2_1_29 : am_m2 1 (29, 1, mX6_copyFrom) := m2_1 ⟨List.mem_of_getElem? (i := 350) (by decide +kernel), List.mem_of_getElem? (i := 351) (by decide +kernel), List.mem_of_getElem? (i := 352) (by decide +kernel), rfl, by decide +kernel, by decide +kernel⟩
theorem w2_1_33 : am_m2 1 (33, 1, mX6_isLike) := m2_1 ⟨List.mem_of_getElem? (i := 695) (by decide +kernel), List.mem_of_getElem? (i := 696) (by decide +kernel), List.mem_of_getElem? (i := 697) (by decide +kernel), rfl, by decide +kernel, by decide +kernel⟩
set_option maxRecDepth 20000 in
theorem tw_m1_1 : ∀ e ∈ am_mrT 1, am_m1 e.2.2 := (List.forall_mem_cons.mpr ⟨w1_X6_init, (List.forall_mem_cons.mpr ⟨w1_X6_copyFrom, (List.forall_mem_cons.mpr ⟨w1_X6_isLike, (fun _ h => absurd h List.not_mem_nil)⟩)⟩)⟩)
set_option maxRecDepth 20000 in
theorem tw_m2_1 : ∀ e ∈ am_mrT 1, am_m2 1 e := (List.forall_mem_cons.mpr ⟨w2_1_22, (List.forall_mem_cons.mpr ⟨w2_1_29, (List.forall_mem_cons.mpr ⟨w2_1_33, (fun _ h => absurd h List.not_mem_nil)⟩)⟩)⟩)
theorem w2_2_11 : am_m2 2 (11, 3, mX4_init) := m2_3 ⟨List.mem_of_getElem? (i := 90) (by decide +kernel), rfl, rfl, rfl, by decide +kernel⟩
theorem w2_2_40 : am_m2 2 (40, 1, mX2_setIn) := m2_1 ⟨List.mem_of_getElem? (i := 550) (by decide +kernel), List.mem_of_getElem? (i := 552) (by decide +kernel), List.mem_of_getElem? (i := 10) (by decide +kernel), rfl, by decide +kernel, by decide +kernel⟩
theorem w2_2_48 : am_m2 2 (48, 1, mX6_placeOf) := m2_1 ⟨List.mem_of_getElem? (i := 554) (by decide +kernel), List.mem_of_getElem? (i := 391) (by decide +kernel), List.mem_of_getElem? (i := 392) (by decide +kernel), rfl, by decide +kernel, by decide +kernel⟩
theorem w2_2_54 : am_m2 2 (54, 1, mX2_addTo) := m2_1 ⟨List.mem_of_getElem? (i := 555) (by decide +kernel), List.mem_of_getElem? (i := 557) (by decide +kernel), List.mem_of_getElem? (i := 11) (by decide +kernel), rfl, by decide +kernel, by decide +kernel⟩
theorem w2_2_58 : am_m2 2 (58, 1, mX2_removeFrom) := m2_1 ⟨List.mem_of_getElem? (i := 563) (by decide +kernel), List.mem_of_getElem? (i := 565) (by decide +kernel), List.mem_of_getElem? (i := 12) (by decide +kernel), rfl, by decide +kernel, by decide +kernel⟩
theorem w2_2_62 : am_m2 2 (62, 1, mX2_moveIn) := m2_1 ⟨List.mem_of_getElem? (i := 572) (by decide +kernel), List.mem_of_getElem? (i := 574) (by decide +kernel), List.mem_of_getElem? (i := 13) (by decide +kernel), rfl, by decide +kernel, by decide +kernel⟩
theorem w2_2_82 : am_m2 2 (82, 1, mX6_insert) := m2_1 ⟨List.mem_of_getElem? (i := 562) (by decide +kernel), List.mem_of_getElem? (i := 419) (by decide +kernel), List.mem_of_getElem? (i := 420) (by decide +kernel), rfl, by decide +kernel, by decide +kernel⟩
theorem w2_2_86 : am_m2 2 (86, 1, mX4_isLike) := m2_1 ⟨List.mem_of_getElem? (i := 567) (by decide +kernel), List.mem_of_getElem? (i := 568) (by decide +kernel), List.mem_of_getElem? (i := 569) (by decide +kernel), rfl, by decide +kernel, by decide +kernel⟩
theorem w2_2_90 : am_m2 2 (90, 1, mX6_takeOut) := m2_1 ⟨List.mem_of_getElem? (i := 571) (by decide +kernel), List.mem_of_getElem? (i := 442) (by decide +kernel), List.mem_of_getElem? (i := 443) (by decide +kernel), rfl, by decide +kernel, by decide +kernel⟩
theorem w2_2_94 : am_m2 2 (94, 1, mX6_shift) := m2_1 ⟨List.mem_of_getElem? (i := 576) (by decide +kernel), List.mem_of_getElem? (i := 423) (by decide +kernel), List.mem_of_getElem? (i := 424) (by decide +kernel), rfl, by decide +kernel, by decide +kernel⟩
set_option maxRecDepth 20000 in
theorem tw_m1_2 : ∀ e ∈ am_mrT 2, am_m1 e.2.2 := (List.forall_mem_cons.mpr ⟨w1_X4_init, (List.forall_mem_cons.mpr ⟨w1_X2_setIn, (List.forall_mem_cons.mpr ⟨w1_X6_placeOf, (List.forall_mem_cons.mpr ⟨w1_X2_addTo, (List.forall_mem_cons.mpr ⟨w1_X2_removeFrom, (List.forall_mem_cons.mpr ⟨w1_X2_moveIn, (List.forall_mem_cons.mpr ⟨w1_X6_insert, (List.forall_mem_cons.mpr ⟨w1_X4_isLike, (List.forall_mem_cons.mpr ⟨w1_X6_takeOut, (List.forall_mem_cons.mpr ⟨w1_X6_shift, (fun _ h => absurd h List.not_mem_nil)⟩)⟩)⟩)⟩)⟩)⟩)⟩)⟩)⟩)⟩)
set_option maxRecDepth 20000 in
theorem tw_m2_2 : ∀ e ∈ am_mrT 2, am_m2 2 e := (List.forall_mem_cons.mpr ⟨w2_2_11, (List.forall_mem_cons.mpr ⟨w2_2_40, (List.forall_mem_cons.mpr ⟨w2_2_48, (List.forall_mem_cons.mpr ⟨w2_2_54, (List.forall_mem_cons.mpr ⟨w2_2_58, (List.forall_mem_cons.mpr ⟨w2_2_62, (List.forall_mem_cons.mpr ⟨w2_2_82, (List.forall_mem_cons.mpr ⟨w2_2_86, (List.forall_mem_cons.mpr ⟨w2_2_90, (List.forall_mem_cons.mpr ⟨w2_2_94, (fun _ h => absurd h List.not_mem_nil)⟩)⟩)⟩)⟩)⟩)⟩)⟩)⟩)⟩)⟩)
theorem w2_3_19 : am_m2 3 (19, 2, mX6_init) := m2_2 ⟨List.mem_of_getElem? (i := 82) (by decide +kernel), List.mem_of_getElem? (i := 83) (by decide +kernel), rfl, rfl, rfl, by decide +kernel⟩
theorem w2_3_24 : am_m2 3 (24, 3, mX2_init) := m2_3 ⟨List.mem_of_getElem? (i := 125) (by decide +kernel), rfl, rfl, rfl, by decide +kernel⟩
theorem w2_3_35 : am_m2 3 (35, 1, mX6_copyFrom) := m2_1 ⟨List.mem_of_getElem? (i := 500) (by decide +kernel), List.mem_of_getElem? (i := 351) (by decide +kernel), List.mem_of_getElem? (i := 352) (by decide +kernel), rfl, by decide +kernel, by decide +kernel⟩
theorem w2_3_39 : am_m2 3 (39, 1, mX3_noteRemovals) := m2_1 ⟨List.mem_of_getElem? (i := 501) (by decide +kernel), List.mem_of_getElem? (i := 503) (by decide +kernel), List.mem_of_getElem? (i := 4) (by decide +kernel), rfl, by decide +kernel, by decide +kernel⟩
theorem w2_3_43 : am_m2 3 (43, 1, mX3_notePlaces) := m2_1 ⟨List.mem_of_getElem? (i := 520) (by decide +kernel), List.mem_of_getElem? (i := 522) (by decide +kernel), List.mem_of_getElem? (i := 7) (by decide +kernel), rfl, by decide +kernel, by decide +kernel⟩
theorem w2_3_46 : am_m2 3 (46, 1, mX3_noteSettings) := m2_1 ⟨List.mem_of_getElem? (i := 526) (by decide +kernel), List.mem_of_getElem? (i := 528) (by decide +kernel), List.mem_of_getElem? (i := 8) (by decide +kernel), rfl, by decide +kernel, by decide +kernel⟩
theorem w2_3_54 : am_m2 3 (54, 1, mX3_noteIfUnlike) := m2_1 ⟨List.mem_of_getElem? (i := 530) (by decide +kernel), List.mem_of_getElem? (i := 532) (by decide +kernel), List.mem_of_getElem? (i := 9) (by decide +kernel), rfl, by decide +kernel, by decide +kernel⟩
theorem w2_3_58 : am_m2 3 (58, 1, mX2_invert) := m2_1 ⟨List.mem_of_getElem? (i := 538) (by decide +kernel), List.mem_of_getElem? (i := 539) (by decide +kernel), List.mem_of_getElem? (i := 540) (by decide +kernel), rfl, by decide +kernel, by decide +kernel⟩
theorem w2_3_61 : am_m2 3 (61, 1, mX2_applyTo) := m2_1 ⟨List.mem_of_getElem? (i := 546) (by decide +kernel), List.mem_of_getElem? (i := 547) (by decide +kernel), List.mem_of_getElem? (i := 548) (by decide +kernel), rfl, by decide +kernel, by decide +kernel⟩
theorem w2_3_75 : am_m2 3 (75, 1, mX6_placeOf) := m2_1 ⟨List.mem_of_getElem? (i := 505) (by decide +kernel), List.mem_of_getElem? (i := 391) (by decide +kernel), List.mem_of_getElem? (i := 392) (by decide +kernel), rfl, by decide +kernel, by decide +kernel⟩
theorem w2_3_79 : am_m2 3 (79, 1, mX3_noteWhole) := m2_1 ⟨List.mem_of_getElem? (i := 506) (by decide +kernel), List.mem_of_getElem? (i := 508) (by decide +kernel), List.mem_of_getElem? (i := 5) (by decide +kernel), rfl, by decide +kernel, by decide +kernel⟩
theorem w2_3_83 : am_m2 3 (83, 1, mX6_takeOut) := m2_1 ⟨List.mem_of_getElem? (i := 519) (by decide +kernel), List.mem_of_getElem? (i := 442) (by decide +kernel), List.mem_of_getElem? (i := 443) (by decide +kernel), rfl, by decide +kernel, by decide +kernel⟩
theorem w2_3_87 : am_m2 3 (87, 1, mX6_insert) := m2_1 ⟨List.mem_of_getElem? (i := 524) (by decide +kernel), List.mem_of_getElem? (i := 419) (by decide +kernel), List.mem_of_getElem? (i := 420) (by decide +kernel), rfl, by decide +kernel, by decide +kernel⟩
theorem w2_3_91 : am_m2 3 (91, 1, mX3_note) := m2_1 ⟨List.mem_of_getElem? (i := 511) (by decide +kernel), List.mem_of_getElem? (i := 513) (by decide +kernel), List.mem_of_getElem? (i := 6) (by decide +kernel), rfl, by decide +kernel, by decide +kernel⟩
theorem w2_3_94 : am_m2 3 (94, 1, mX6_shift) := m2_1 ⟨List.mem_of_getElem? (i := 525) (by decide +kernel), List.mem_of_getElem? (i := 423) (by decide +kernel), List.mem_of_getElem? (i := 424) (by decide +kernel), rfl, by decide +kernel, by decide +kernel⟩
theorem w2_3_106 : am_m2 3 (106, 1, mX4_copyFrom) := m2_1 ⟨List.mem_of_getElem? (i := 510) (by decide +kernel), List.mem_of_getElem? (i := 355) (by decide +kernel), List.mem_of_getElem? (i := 356) (by decide +kernel), rfl, by decide +kernel, by decide +kernel⟩
theorem w2_3_109 : am_m2 3 (109, 1, mX2_become) := m2_1 ⟨List.mem_of_getElem? (i := 515) (by decide +kernel), List.mem_of_getElem? (i := 516) (by decide +kernel), List.mem_of_getElem? (i := 517) (by decide +kernel), rfl, by decide +kernel, by decide +kernel⟩
set_option maxRecDepth 20000 in
theorem tw_m1_3 : ∀ e ∈ am_mrT 3, am_m1 e.2.2 := (List.forall_mem_cons.mpr ⟨w1_X6_init, (List.forall_mem_cons.mpr ⟨w1_X2_init, (List.forall_mem_cons.mpr ⟨w1_X6_copyFrom, (List.forall_mem_cons.mpr ⟨w1_X3_noteRemovals, (List.forall_mem_cons.mpr ⟨w1_X3_notePlaces, (List.forall_mem_cons.mpr ⟨w1_X3_noteSettings, (List.forall_mem_cons.mpr ⟨w1_X3_noteIfUnlike, (List.forall_mem_cons.mpr ⟨w1_X2_invert, (List.forall_mem_cons.mpr ⟨w1_X2_applyTo, (List.forall_mem_cons.mpr ⟨w1_X6_placeOf, (List.forall_mem_cons.mpr ⟨w1_X3_noteWhole, (List.forall_mem_cons.mpr ⟨w1_X6_takeOut, (List.forall_mem_cons.mpr ⟨w1_X6_insert, (List.forall_mem_cons.mpr ⟨w1_X3_note, (List.forall_mem_cons.mpr ⟨w1_X6_shift, (List.forall_mem_cons.mpr ⟨w1_X4_copyFrom, (List.forall_mem_cons.mpr ⟨w1_X2_become, (fun _ h => absurd h List.not_mem_nil)⟩)⟩)⟩)⟩)⟩)⟩)⟩)⟩)⟩)⟩)⟩)⟩)⟩)⟩)⟩)⟩)⟩)
set_option maxRecDepth 20000 in
theorem tw_m2_3 : ∀ e ∈ am_mrT 3, am_m2 3 e := (List.forall_mem_cons.mpr ⟨w2_3_19, (List.forall_mem_cons.mpr ⟨w2_3_24, (List.forall_mem_cons.mpr ⟨w2_3_35, (List.forall_mem_cons.mpr ⟨w2_3_39, (List.forall_mem_cons.mpr ⟨w2_3_43, (List.forall_mem_cons.mpr ⟨w2_3_46, (List.forall_mem_cons.mpr ⟨w2_3_54, (List.forall_mem_cons.mpr ⟨w2_3_58, (List.forall_mem_cons.mpr ⟨w2_3_61, (List.forall_mem_cons.mpr ⟨w2_3_75, (List.forall_mem_cons.mpr ⟨w2_3_79, (List.forall_mem_cons.mpr ⟨w2_3_83, (List.forall_mem_cons.mpr ⟨w2_3_87, (List.forall_mem_cons.mpr ⟨w2_3_91, (List.forall_mem_cons.mpr ⟨w2_3_94, (List.forall_mem_cons.mpr ⟨w2_3_106, (List.forall_mem_cons.mpr ⟨w2_3_109, (fun _ h => absurd h List.not_mem_nil)⟩)⟩)⟩)⟩)⟩)⟩)⟩)⟩)⟩)⟩)⟩)⟩)⟩)⟩)⟩)⟩)⟩)
theorem w2_5_26 : am_m2 5 (26, 1, mX5_isKeptAt) := m2_1 ⟨List.mem_of_getElem? (i := 601) (by decide +kernel), List.mem_of_getElem? (i := 603) (by decide +kernel), List.mem_of_getElem? (i := 15) (by decide +kernel), rfl, by decide +kernel, by decide +kernel⟩
theorem w2_5_30 : am_m2 5 (30, 1, mX5_shownAt) := m2_1 ⟨List.mem_of_getElem? (i := 605) (by decide +kernel), List.mem_of_getElem? (i := 607) (by decide +kernel), List.mem_of_getElem? (i := 16) (by decide +kernel), rfl, by decide +kernel, by decide +kernel⟩
theorem w2_5_40 : am_m2 5 (40, 1, mX6_placeOf) := m2_1 ⟨List.mem_of_getElem? (i := 613) (by decide +kernel), List.mem_of_getElem? (i := 391) (by decide +kernel), List.mem_of_getElem? (i := 392) (by decide +kernel), rfl, by decide +kernel, by decide +kernel⟩
theorem w2_5_44 : am_m2 5 (44, 1, mX5_isShownAhead) := m2_1 ⟨List.mem_of_getElem? (i := 614) (by decide +kernel), List.mem_of_getElem? (i := 616) (by decide +kernel), List.mem_of_getElem? (i := 17) (by decide +kernel), rfl, by decide +kernel, by decide +kernel⟩
theorem w2_5_55 : am_m2 5 (55, 1, mX1_valueShown) := m2_1 ⟨List.mem_of_getElem? (i := 609) (by decide +kernel), List.mem_of_getElem? (i := 610) (by decide +kernel), List.mem_of_getElem? (i := 611) (by decide +kernel), rfl, by decide +kernel, by decide +kernel⟩
set_option maxRecDepth 20000 in
theorem tw_m1_5 : ∀ e ∈ am_mrT 5, am_m1 e.2.2 := (List.forall_mem_cons.mpr ⟨w1_X5_isKeptAt, (List.forall_mem_cons.mpr ⟨w1_X5_shownAt, (List.forall_mem_cons.mpr ⟨w1_X6_placeOf, (List.forall_mem_cons.mpr ⟨w1_X5_isShownAhead, (List.forall_mem_cons.mpr ⟨w1_X1_valueShown, (fun _ h => absurd h List.not_mem_nil)⟩)⟩)⟩)⟩)⟩)
set_option maxRecDepth 20000 in
theorem tw_m2_5 : ∀ e ∈ am_mrT 5, am_m2 5 e := (List.forall_mem_cons.mpr ⟨w2_5_26, (List.forall_mem_cons.mpr ⟨w2_5_30, (List.forall_mem_cons.mpr ⟨w2_5_40, (List.forall_mem_cons.mpr ⟨w2_5_44, (List.forall_mem_cons.mpr ⟨w2_5_55, (fun _ h => absurd h List.not_mem_nil)⟩)⟩)⟩)⟩)⟩)
theorem w2_6_17 : am_m2 6 (17, 3, mX4_init) := m2_3 ⟨List.mem_of_getElem? (i := 90) (by decide +kernel), rfl, rfl, rfl, by decide +kernel⟩
theorem w2_6_25 : am_m2 6 (25, 1, mX6_shift) := m2_1 ⟨List.mem_of_getElem? (i := 422) (by decide +kernel), List.mem_of_getElem? (i := 423) (by decide +kernel), List.mem_of_getElem? (i := 424) (by decide +kernel), rfl, by decide +kernel, by decide +kernel⟩
theorem w2_6_29 : am_m2 6 (29, 1, mX4_copyFrom) := m2_1 ⟨List.mem_of_getElem? (i := 354) (by decide +kernel), List.mem_of_getElem? (i := 355) (by decide +kernel), List.mem_of_getElem? (i := 356) (by decide +kernel), rfl, by decide +kernel, by decide +kernel⟩
theorem w2_6_33 : am_m2 6 (33, 1, mX6_hasPlace) := m2_1 ⟨List.mem_of_getElem? (i := 426) (by decide +kernel), List.mem_of_getElem? (i := 427) (by decide +kernel), List.mem_of_getElem? (i := 428) (by decide +kernel), rfl, by decide +kernel, by decide +kernel⟩
theorem w2_6_37 : am_m2 6 (37, 1, mX4_isLike) := m2_1 ⟨List.mem_of_getElem? (i := 699) (by decide +kernel), List.mem_of_getElem? (i := 568) (by decide +kernel), List.mem_of_getElem? (i := 569) (by decide +kernel), rfl, by decide +kernel, by decide +kernel⟩
set_option maxRecDepth 20000 in
theorem tw_m1_6 : ∀ e ∈ am_mrT 6, am_m1 e.2.2 := (List.forall_mem_cons.mpr ⟨w1_X4_init, (List.forall_mem_cons.mpr ⟨w1_X6_shift, (List.forall_mem_cons.mpr ⟨w1_X4_copyFrom, (List.forall_mem_cons.mpr ⟨w1_X6_hasPlace, (List.forall_mem_cons.mpr ⟨w1_X4_isLike, (fun _ h => absurd h List.not_mem_nil)⟩)⟩)⟩)⟩)⟩)
set_option maxRecDepth 20000 in
theorem tw_m2_6 : ∀ e ∈ am_mrT 6, am_m2 6 e := (List.forall_mem_cons.mpr ⟨w2_6_17, (List.forall_mem_cons.mpr ⟨w2_6_25, (List.forall_mem_cons.mpr ⟨w2_6_29, (List.forall_mem_cons.mpr ⟨w2_6_33, (List.forall_mem_cons.mpr ⟨w2_6_37, (fun _ h => absurd h List.not_mem_nil)⟩)⟩)⟩)⟩)⟩)
theorem w2_7_29 : am_m2 7 (29, 2, mX3_init) := m2_2 ⟨List.mem_of_getElem? (i := 74) (by decide +kernel), List.mem_of_getElem? (i := 75) (by decide +kernel), rfl, rfl, rfl, by decide +kernel⟩
theorem w2_7_34 : am_m2 7 (34, 2, mX1_init) := m2_2 ⟨List.mem_of_getElem? (i := 163) (by decide +kernel), List.mem_of_getElem? (i := 164) (by decide +kernel), rfl, rfl, rfl, by decide +kernel⟩
theorem w2_7_41 : am_m2 7 (41, 3, mX4_init) := m2_3 ⟨List.mem_of_getElem? (i := 90) (by decide +kernel), rfl, rfl, rfl, by decide +kernel⟩
theorem w2_7_46 : am_m2 7 (46, 3, mX0_init) := m2_3 ⟨List.mem_of_getElem? (i := 190) (by decide +kernel), rfl, rfl, rfl, by decide +kernel⟩
theorem w2_7_47 : am_m2 7 (47, 3, mX5_init) := m2_3 ⟨List.mem_of_getElem? (i := 208) (by decide +kernel), rfl, rfl, rfl, by decide +kernel⟩
theorem w2_7_52 : am_m2 7 (52, 0, mX7_needIndex) := m2_0 ⟨List.mem_of_getElem? (i := 275) (by decide +kernel), List.mem_of_getElem? (i := 276) (by decide +kernel), by decide +kernel⟩
theorem w2_7_66 : am_m2 7 (66, 1, mX1_copyFrom) := m2_1 ⟨List.mem_of_getElem? (i := 346) (by decide +kernel), List.mem_of_getElem? (i := 347) (by decide +kernel), List.mem_of_getElem? (i := 348) (by decide +kernel), rfl, by decide +kernel, by decide +kernel⟩
theorem w2_7_70 : am_m2 7 (70, 0, mX7_needEntryName) := m2_0 ⟨List.mem_of_getElem? (i := 367) (by decide +kernel), List.mem_of_getElem? (i := 368) (by decide +kernel), by decide +kernel⟩
theorem w2_7_74 : am_m2 7 (74, 1, mX7_openConfiguration) := m2_1 ⟨List.mem_of_getElem? (i := 370) (by decide +kernel), List.mem_of_getElem? (i := 372) (by decide +kernel), List.mem_of_getElem? (i := 1) (by decide +kernel), rfl, by decide +kernel, by decide +kernel⟩
theorem w2_7_82 : am_m2 7 (82, 1, mX6_placeOf) := m2_1 ⟨List.mem_of_getElem? (i := 390) (by decide +kernel), List.mem_of_getElem? (i := 391) (by decide +kernel), List.mem_of_getElem? (i := 392) (by decide +kernel), rfl, by decide +kernel, by decide +kernel⟩
theorem w2_7_98 : am_m2 7 (98, 0, mX7_needArgument) := m2_0 ⟨List.mem_of_getElem? (i := 395) (by decide +kernel), List.mem_of_getElem? (i := 396) (by decide +kernel), by decide +kernel⟩
theorem w2_7_101 : am_m2 7 (101, 1, mX4_clear) := m2_1 ⟨List.mem_of_getElem? (i := 414) (by decide +kernel), List.mem_of_getElem? (i := 415) (by decide +kernel), List.mem_of_getElem? (i := 416) (by decide +kernel), rfl, by decide +kernel, by decide +kernel⟩
theorem w2_7_105 : am_m2 7 (105, 1, mX6_insert) := m2_1 ⟨List.mem_of_getElem? (i := 418) (by decide +kernel), List.mem_of_getElem? (i := 419) (by decide +kernel), List.mem_of_getElem? (i := 420) (by decide +kernel), rfl, by decide +kernel, by decide +kernel⟩
theorem w2_7_109 : am_m2 7 (109, 0, mX7_placeOfEntry) := m2_0 ⟨List.mem_of_getElem? (i := 437) (by decide +kernel), List.mem_of_getElem? (i := 438) (by decide +kernel), by decide +kernel⟩
theorem w2_7_113 : am_m2 7 (113, 1, mX6_takeOut) := m2_1 ⟨List.mem_of_getElem? (i := 441) (by decide +kernel), List.mem_of_getElem? (i := 442) (by decide +kernel), List.mem_of_getElem? (i := 443) (by decide +kernel), rfl, by decide +kernel, by decide +kernel⟩
theorem w2_7_116 : am_m2 7 (116, 1, mX6_shift) := m2_1 ⟨List.mem_of_getElem? (i := 452) (by decide +kernel), List.mem_of_getElem? (i := 423) (by decide +kernel), List.mem_of_getElem? (i := 424) (by decide +kernel), rfl, by decide +kernel, by decide +kernel⟩
theorem w2_7_119 : am_m2 7 (119, 1, mX7_exchange) := m2_1 ⟨List.mem_of_getElem? (i := 460) (by decide +kernel), List.mem_of_getElem? (i := 462) (by decide +kernel), List.mem_of_getElem? (i := 2) (by decide +kernel), rfl, by decide +kernel, by decide +kernel⟩
theorem w2_7_127 : am_m2 7 (127, 1, mX7_configurationOf) := m2_1 ⟨List.mem_of_getElem? (i := 492) (by decide +kernel), List.mem_of_getElem? (i := 494) (by decide +kernel), List.mem_of_getElem? (i := 3) (by decide +kernel), rfl, by decide +kernel, by decide +kernel⟩
theorem w2_7_130 : am_m2 7 (130, 1, mX3_fill) := m2_1 ⟨List.mem_of_getElem? (i := 496) (by decide +kernel), List.mem_of_getElem? (i := 497) (by decide +kernel), List.mem_of_getElem? (i := 498) (by decide +kernel), rfl, by decide +kernel, by decide +kernel⟩
theorem w2_7_134 : am_m2 7 (134, 1, mX3_invert) := m2_1 ⟨List.mem_of_getElem? (i := 534) (by decide +kernel), List.mem_of_getElem? (i := 535) (by decide +kernel), List.mem_of_getElem? (i := 536) (by decide +kernel), rfl, by decide +kernel, by decide +kernel⟩
theorem w2_7_137 : am_m2 7 (137, 1, mX3_applyTo) := m2_1 ⟨List.mem_of_getElem? (i := 542) (by decide +kernel), List.mem_of_getElem? (i := 543) (by decide +kernel), List.mem_of_getElem? (i := 544) (by decide +kernel), rfl, by decide +kernel, by decide +kernel⟩
theorem w2_7_161 : am_m2 7 (161, 1, mX7_brokenRules) := m2_1 ⟨List.mem_of_getElem? (i := 593) (by decide +kernel), List.mem_of_getElem? (i := 595) (by decide +kernel), List.mem_of_getElem? (i := 14) (by decide +kernel), rfl, by decide +kernel, by decide +kernel⟩
theorem w2_7_177 : am_m2 7 (177, 1, mX7_addVersion) := m2_1 ⟨List.mem_of_getElem? (i := 628) (by decide +kernel), List.mem_of_getElem? (i := 630) (by decide +kernel), List.mem_of_getElem? (i := 18) (by decide +kernel), rfl, by decide +kernel, by decide +kernel⟩
theorem w2_7_182 : am_m2 7 (182, 1, mX7_sectionOf) := m2_1 ⟨List.mem_of_getElem? (i := 654) (by decide +kernel), List.mem_of_getElem? (i := 656) (by decide +kernel), List.mem_of_getElem? (i := 19) (by decide +kernel), rfl, by decide +kernel, by decide +kernel⟩
theorem w2_7_186 : am_m2 7 (186, 1, mX7_entryOf) := m2_1 ⟨List.mem_of_getElem? (i := 665) (by decide +kernel), List.mem_of_getElem? (i := 667) (by decide +kernel), List.mem_of_getElem? (i := 20) (by decide +kernel), rfl, by decide +kernel, by decide +kernel⟩
theorem w2_7_193 : am_m2 7 (193, 1, mX1_valueShown) := m2_1 ⟨List.mem_of_getElem? (i := 676) (by decide +kernel), List.mem_of_getElem? (i := 610) (by decide +kernel), List.mem_of_getElem? (i := 611) (by decide +kernel), rfl, by decide +kernel, by decide +kernel⟩
theorem w2_7_201 : am_m2 7 (201, 1, mX1_isLike) := m2_1 ⟨List.mem_of_getElem? (i := 691) (by decide +kernel), List.mem_of_getElem? (i := 692) (by decide +kernel), List.mem_of_getElem? (i := 693) (by decide +kernel), rfl, by decide +kernel, by decide +kernel⟩
theorem w2_7_209 : am_m2 7 (209, 1, mX2_code) := m2_1 ⟨List.mem_of_getElem? (i := 714) (by decide +kernel), List.mem_of_getElem? (i := 715) (by decide +kernel), List.mem_of_getElem? (i := 716) (by decide +kernel), rfl, by decide +kernel, by decide +kernel⟩
theorem w2_7_233 : am_m2 7 (233, 1, mX5_isKeptBy) := m2_1 ⟨List.mem_of_getElem? (i := 597) (by decide +kernel), List.mem_of_getElem? (i := 598) (by decide +kernel), List.mem_of_getElem? (i := 599) (by decide +kernel), rfl, by decide +kernel, by decide +kernel⟩
set_option maxRecDepth 20000 in
theorem tw_m1_7 : ∀ e ∈ am_mrT 7, am_m1 e.2.2 := (List.forall_mem_cons.mpr ⟨w1_X3_init, (List.forall_mem_cons.mpr ⟨w1_X1_init, (List.forall_mem_cons.mpr ⟨w1_X4_init, (List.forall_mem_cons.mpr ⟨w1_X0_init, (List.forall_mem_cons.mpr ⟨w1_X5_init, (List.forall_mem_cons.mpr ⟨w1_X7_needIndex, (List.forall_mem_cons.mpr ⟨w1_X1_copyFrom, (List.forall_mem_cons.mpr ⟨w1_X7_needEntryName, (List.forall_mem_cons.mpr ⟨w1_X7_openConfiguration, (List.forall_mem_cons.mpr ⟨w1_X6_placeOf, (List.forall_mem_cons.mpr ⟨w1_X7_needArgument, (List.forall_mem_cons.mpr ⟨w1_X4_clear, (List.forall_mem_cons.mpr ⟨w1_X6_insert, (List.forall_mem_cons.mpr ⟨w1_X7_placeOfEntry, (List.forall_mem_cons.mpr ⟨w1_X6_takeOut, (List.forall_mem_cons.mpr ⟨w1_X6_shift, (List.forall_mem_cons.mpr ⟨w1_X7_exchange, (List.forall_mem_cons.mpr ⟨w1_X7_configurationOf, (List.forall_mem_cons.mpr ⟨w1_X3_fill, (List.forall_mem_cons.mpr ⟨w1_X3_invert, (List.forall_mem_cons.mpr ⟨w1_X3_applyTo, (List.forall_mem_cons.mpr ⟨w1_X7_brokenRules, (List.forall_mem_cons.mpr ⟨w1_X7_addVersion, (List.forall_mem_cons.mpr ⟨w1_X7_sectionOf, (List.forall_mem_cons.mpr ⟨w1_X7_entryOf, (List.forall_mem_cons.mpr ⟨w1_X1_valueShown, (List.forall_mem_cons.mpr ⟨w1_X1_isLike, (List.forall_mem_cons.mpr ⟨w1_X2_code, (List.forall_mem_cons.mpr ⟨w1_X5_isKeptBy, (fun _ h => absurd h List.not_mem_nil)⟩)⟩)⟩)⟩)⟩)⟩)⟩)⟩)⟩)⟩)⟩)⟩)⟩)⟩)⟩)⟩)⟩)⟩)⟩)⟩)⟩)⟩)⟩)⟩)⟩)⟩)⟩)⟩)⟩)
set_option maxRecDepth 20000 in
theorem tw_m2_7 : ∀ e ∈ am_mrT 7, am_m2 7 e := (List.forall_mem_cons.mpr ⟨w2_7_29, (List.forall_mem_cons.mpr ⟨w2_7_34, (List.forall_mem_cons.mpr ⟨w2_7_41, (List.forall_mem_cons.mpr ⟨w2_7_46, (List.forall_mem_cons.mpr ⟨w2_7_47, (List.forall_mem_cons.mpr ⟨w2_7_52, (List.forall_mem_cons.mpr ⟨w2_7_66, (List.forall_mem_cons.mpr ⟨w2_7_70, (List.forall_mem_cons.mpr ⟨w2_7_74, (List.forall_mem_cons.mpr ⟨w2_7_82, (List.forall_mem_cons.mpr ⟨w2_7_98, (List.forall_mem_cons.mpr ⟨w2_7_101, (List.forall_mem_cons.mpr ⟨w2_7_105, (List.forall_mem_cons.mpr ⟨w2_7_109, (List.forall_mem_cons.mpr ⟨w2_7_113, (List.forall_mem_cons.mpr ⟨w2_7_116, (List.forall_mem_cons.mpr ⟨w2_7_119, (List.forall_mem_cons.mpr ⟨w2_7_127, (List.forall_mem_cons.mpr ⟨w2_7_130, (List.forall_mem_cons.mpr ⟨w2_7_134, (List.forall_mem_cons.mpr ⟨w2_7_137, (List.forall_mem_cons.mpr ⟨w2_7_161, (List.forall_mem_cons.mpr ⟨w2_7_177, (List.forall_mem_cons.mpr ⟨w2_7_182, (List.forall_mem_cons.mpr ⟨w2_7_186, (List.forall_mem_cons.mpr ⟨w2_7_193, (List.forall_mem_cons.mpr ⟨w2_7_201, (List.forall_mem_cons.mpr ⟨w2_7_209, (List.forall_mem_cons.mpr ⟨w2_7_233, (fun _ h => absurd h List.not_mem_nil)⟩)⟩)⟩)⟩)⟩)⟩)⟩)⟩)⟩)⟩)⟩)⟩)⟩)⟩)⟩)⟩)⟩)⟩)⟩)⟩)⟩)⟩)⟩)⟩)⟩)⟩)⟩)⟩)⟩)
theorem w2_8_57 : am_m2 8 (57, 1, mX8_many) := m2_1 ⟨List.mem_of_getElem? (i := 811) (by decide +kernel), List.mem_of_getElem? (i := 813) (by decide +kernel), List.mem_of_getElem? (i := 23) (by decide +kernel), rfl, by decide +kernel, by decide +kernel⟩
theorem w2_8_61 : am_m2 8 (61, 0, mX8_at) := m2_0 ⟨List.mem_of_getElem? (i := 815) (by decide +kernel), List.mem_of_getElem? (i := 816) (by decide +kernel), by decide +kernel⟩
theorem w2_8_65 : am_m2 8 (65, 0, mX8_key) := m2_0 ⟨List.mem_of_getElem? (i := 818) (by decide +kernel), List.mem_of_getElem? (i := 819) (by decide +kernel), by decide +kernel⟩
theorem w2_8_69 : am_m2 8 (69, 1, mX8_takes) := m2_1 ⟨List.mem_of_getElem? (i := 837) (by decide +kernel), List.mem_of_getElem? (i := 839) (by decide +kernel), List.mem_of_getElem? (i := 27) (by decide +kernel), rfl, by decide +kernel, by decide +kernel⟩
theorem w2_8_73 : am_m2 8 (73, 1, mX8_puts) := m2_1 ⟨List.mem_of_getElem? (i := 825) (by decide +kernel), List.mem_of_getElem? (i := 827) (by decide +kernel), List.mem_of_getElem? (i := 25) (by decide +kernel), rfl, by decide +kernel, by decide +kernel⟩
theorem w2_8_77 : am_m2 8 (77, 0, mX8_in) := m2_0 ⟨List.mem_of_getElem? (i := 790) (by decide +kernel), List.mem_of_getElem? (i := 791) (by decide +kernel), by decide +kernel⟩
theorem w2_8_84 : am_m2 8 (84, 0, mX8_isSection) := m2_0 ⟨List.mem_of_getElem? (i := 804) (by decide +kernel), List.mem_of_getElem? (i := 805) (by decide +kernel), by decide +kernel⟩
theorem w2_8_88 : am_m2 8 (88, 0, mX8_isCandidate) := m2_0 ⟨List.mem_of_getElem? (i := 787) (by decide +kernel), List.mem_of_getElem? (i := 788) (by decide +kernel), by decide +kernel⟩
theorem w2_8_91 : am_m2 8 (91, 1, mX8_copies) := m2_1 ⟨List.mem_of_getElem? (i := 793) (by decide +kernel), List.mem_of_getElem? (i := 795) (by decide +kernel), List.mem_of_getElem? (i := 21) (by decide +kernel), rfl, by decide +kernel, by decide +kernel⟩
theorem w2_8_95 : am_m2 8 (95, 0, mX8_isKey) := m2_0 ⟨List.mem_of_getElem? (i := 801) (by decide +kernel), List.mem_of_getElem? (i := 802) (by decide +kernel), by decide +kernel⟩
theorem w2_8_99 : am_m2 8 (99, 1, mX8_find) := m2_1 ⟨List.mem_of_getElem? (i := 807) (by decide +kernel), List.mem_of_getElem? (i := 809) (by decide +kernel), List.mem_of_getElem? (i := 22) (by decide +kernel), rfl, by decide +kernel, by decide +kernel⟩
theorem w2_8_102 : am_m2 8 (102, 1, mX8_fails) := m2_1 ⟨List.mem_of_getElem? (i := 821) (by decide +kernel), List.mem_of_getElem? (i := 823) (by decide +kernel), List.mem_of_getElem? (i := 24) (by decide +kernel), rfl, by decide +kernel, by decide +kernel⟩
theorem w2_8_105 : am_m2 8 (105, 1, mX8_entry) := m2_1 ⟨List.mem_of_getElem? (i := 833) (by decide +kernel), List.mem_of_getElem? (i := 835) (by decide +kernel), List.mem_of_getElem? (i := 26) (by decide +kernel), rfl, by decide +kernel, by decide +kernel⟩
theorem w2_8_109 : am_m2 8 (109, 1, mX8_shifts) := m2_1 ⟨List.mem_of_getElem? (i := 845) (by decide +kernel), List.mem_of_getElem? (i := 847) (by decide +kernel), List.mem_of_getElem? (i := 28) (by decide +kernel), rfl, by decide +kernel, by decide +kernel⟩
theorem w2_8_112 : am_m2 8 (112, 0, mX8_isField) := m2_0 ⟨List.mem_of_getElem? (i := 853) (by decide +kernel), List.mem_of_getElem? (i := 854) (by decide +kernel), by decide +kernel⟩
theorem w2_8_115 : am_m2 8 (115, 0, mX8_field) := m2_0 ⟨List.mem_of_getElem? (i := 856) (by decide +kernel), List.mem_of_getElem? (i := 857) (by decide +kernel), by decide +kernel⟩
theorem w2_8_118 : am_m2 8 (118, 0, mX8_withField) := m2_0 ⟨List.mem_of_getElem? (i := 859) (by decide +kernel), List.mem_of_getElem? (i := 860) (by decide +kernel), by decide +kernel⟩
theorem w2_8_121 : am_m2 8 (121, 0, mX8_group) := m2_0 ⟨List.mem_of_getElem? (i := 866) (by decide +kernel), List.mem_of_getElem? (i := 867) (by decide +kernel), by decide +kernel⟩
theorem w2_8_124 : am_m2 8 (124, 0, mX8_withGroup) := m2_0 ⟨List.mem_of_getElem? (i := 869) (by decide +kernel), List.mem_of_getElem? (i := 870) (by decide +kernel), by decide +kernel⟩
theorem w2_8_127 : am_m2 8 (127, 0, mX8_groupAt) := m2_0 ⟨List.mem_of_getElem? (i := 877) (by decide +kernel), List.mem_of_getElem? (i := 878) (by decide +kernel), by decide +kernel⟩
theorem w2_8_132 : am_m2 8 (132, 1, mX8_notes) := m2_1 ⟨List.mem_of_getElem? (i := 896) (by decide +kernel), List.mem_of_getElem? (i := 898) (by decide +kernel), List.mem_of_getElem? (i := 31) (by decide +kernel), rfl, by decide +kernel, by decide +kernel⟩
theorem w2_8_136 : am_m2 8 (136, 1, mX8_settles) := m2_1 ⟨List.mem_of_getElem? (i := 900) (by decide +kernel), List.mem_of_getElem? (i := 902) (by decide +kernel), List.mem_of_getElem? (i := 32) (by decide +kernel), rfl, by decide +kernel, by decide +kernel⟩
theorem w2_8_139 : am_m2 8 (139, 1, mX8_does) := m2_1 ⟨List.mem_of_getElem? (i := 908) (by decide +kernel), List.mem_of_getElem? (i := 910) (by decide +kernel), List.mem_of_getElem? (i := 34) (by decide +kernel), rfl, by decide +kernel, by decide +kernel⟩
theorem w2_8_143 : am_m2 8 (143, 1, mX8_slot) := m2_1 ⟨List.mem_of_getElem? (i := 888) (by decide +kernel), List.mem_of_getElem? (i := 890) (by decide +kernel), List.mem_of_getElem? (i := 29) (by decide +kernel), rfl, by decide +kernel, by decide +kernel⟩
theorem w2_8_146 : am_m2 8 (146, 1, mX8_lists) := m2_1 ⟨List.mem_of_getElem? (i := 892) (by decide +kernel), List.mem_of_getElem? (i := 894) (by decide +kernel), List.mem_of_getElem? (i := 30) (by decide +kernel), rfl, by decide +kernel, by decide +kernel⟩
theorem w2_8_149 : am_m2 8 (149, 1, mX8_doesAll) := m2_1 ⟨List.mem_of_getElem? (i := 904) (by decide +kernel), List.mem_of_getElem? (i := 906) (by decide +kernel), List.mem_of_getElem? (i := 33) (by decide +kernel), rfl, by decide +kernel, by decide +kernel⟩
theorem w2_8_156 : am_m2 8 (156, 1, mX8_shows) := m2_1 ⟨List.mem_of_getElem? (i := 932) (by decide +kernel), List.mem_of_getElem? (i := 934) (by decide +kernel), List.mem_of_getElem? (i := 38) (by decide +kernel), rfl, by decide +kernel, by decide +kernel⟩
theorem w2_8_159 : am_m2 8 (159, 1, mX8_isKept) := m2_1 ⟨List.mem_of_getElem? (i := 928) (by decide +kernel), List.mem_of_getElem? (i := 930) (by decide +kernel), List.mem_of_getElem? (i := 37) (by decide +kernel), rfl, by decide +kernel, by decide +kernel⟩
theorem w2_8_162 : am_m2 8 (162, 1, mX8_isThere) := m2_1 ⟨List.mem_of_getElem? (i := 920) (by decide +kernel), List.mem_of_getElem? (i := 922) (by decide +kernel), List.mem_of_getElem? (i := 35) (by decide +kernel), rfl, by decide +kernel, by decide +kernel⟩
theorem w2_8_165 : am_m2 8 (165, 1, mX8_faultsOf) := m2_1 ⟨List.mem_of_getElem? (i := 924) (by decide +kernel), List.mem_of_getElem? (i := 926) (by decide +kernel), List.mem_of_getElem? (i := 36) (by decide +kernel), rfl, by decide +kernel, by decide +kernel⟩
theorem w2_8_168 : am_m2 8 (168, 1, mX8_isEntry) := m2_1 ⟨List.mem_of_getElem? (i := 964) (by decide +kernel), List.mem_of_getElem? (i := 966) (by decide +kernel), List.mem_of_getElem? (i := 39) (by decide +kernel), rfl, by decide +kernel, by decide +kernel⟩
theorem w2_8_171 : am_m2 8 (171, 1, mX8_areThere) := m2_1 ⟨List.mem_of_getElem? (i := 980) (by decide +kernel), List.mem_of_getElem? (i := 982) (by decide +kernel), List.mem_of_getElem? (i := 40) (by decide +kernel), rfl, by decide +kernel, by decide +kernel⟩
set_option maxRecDepth 20000 in
theorem tw_m1_8 : ∀ e ∈ am_mrT 8, am_m1 e.2.2 := (List.forall_mem_cons.mpr ⟨w1_X8_many, (List.forall_mem_cons.mpr ⟨w1_X8_at, (List.forall_mem_cons.mpr ⟨w1_X8_key, (List.forall_mem_cons.mpr ⟨w1_X8_takes, (List.forall_mem_cons.mpr ⟨w1_X8_puts, (List.forall_mem_cons.mpr ⟨w1_X8_in, (List.forall_mem_cons.mpr ⟨w1_X8_isSection, (List.forall_mem_cons.mpr ⟨w1_X8_isCandidate, (List.forall_mem_cons.mpr ⟨w1_X8_copies, (List.forall_mem_cons.mpr ⟨w1_X8_isKey, (List.forall_mem_cons.mpr ⟨w1_X8_find, (List.forall_mem_cons.mpr ⟨w1_X8_fails, (List.forall_mem_cons.mpr ⟨w1_X8_entry, (List.forall_mem_cons.mpr ⟨w1_X8_shifts, (List.forall_mem_cons.mpr ⟨w1_X8_isField, (List.forall_mem_cons.mpr ⟨w1_X8_field, (List.forall_mem_cons.mpr ⟨w1_X8_withField, (List.forall_mem_cons.mpr ⟨w1_X8_group, (List.forall_mem_cons.mpr ⟨w1_X8_withGroup, (List.forall_mem_cons.mpr ⟨w1_X8_groupAt, (List.forall_mem_cons.mpr ⟨w1_X8_notes, (List.forall_mem_cons.mpr ⟨w1_X8_settles, (List.forall_mem_cons.mpr ⟨w1_X8_does, (List.forall_mem_cons.mpr ⟨w1_X8_slot, (List.forall_mem_cons.mpr ⟨w1_X8_lists, (List.forall_mem_cons.mpr ⟨w1_X8_doesAll, (List.forall_mem_cons.mpr ⟨w1_X8_shows, (List.forall_mem_cons.mpr ⟨w1_X8_isKept, (List.forall_mem_cons.mpr ⟨w1_X8_isThere, (List.forall_mem_cons.mpr ⟨w1_X8_faultsOf, (List.forall_mem_cons.mpr ⟨w1_X8_isEntry, (List.forall_mem_cons.mpr ⟨w1_X8_areThere, (fun _ h => absurd h List.not_mem_nil)⟩)⟩)⟩)⟩)⟩)⟩)⟩)⟩)⟩)⟩)⟩)⟩)⟩)⟩)⟩)⟩)⟩)⟩)⟩)⟩)⟩)⟩)⟩)⟩)⟩)⟩)⟩)⟩)⟩)⟩)⟩)⟩)
set_option maxRecDepth 20000 in
theorem tw_m2_8 : ∀ e ∈ am_mrT 8, am_m2 8 e := (List.forall_mem_cons.mpr ⟨w2_8_57, (List.forall_mem_cons.mpr ⟨w2_8_61, (List.forall_mem_cons.mpr ⟨w2_8_65, (List.forall_mem_cons.mpr ⟨w2_8_69, (List.forall_mem_cons.mpr ⟨w2_8_73, (List.forall_mem_cons.mpr ⟨w2_8_77, (List.forall_mem_cons.mpr ⟨w2_8_84, (List.forall_mem_cons.mpr ⟨w2_8_88, (List.forall_mem_cons.mpr ⟨w2_8_91, (List.forall_mem_cons.mpr ⟨w2_8_95, (List.forall_mem_cons.mpr ⟨w2_8_99, (List.forall_mem_cons.mpr ⟨w2_8_102, (List.forall_mem_cons.mpr ⟨w2_8_105, (List.forall_mem_cons.mpr ⟨w2_8_109, (List.forall_mem_cons.mpr ⟨w2_8_112, (List.forall_mem_cons.mpr ⟨w2_8_115, (List.forall_mem_cons.mpr ⟨w2_8_118, (List.forall_mem_cons.mpr ⟨w2_8_121, (List.forall_mem_cons.mpr ⟨w2_8_124, (List.forall_mem_cons.mpr ⟨w2_8_127, (List.forall_mem_cons.mpr ⟨w2_8_132, (List.forall_mem_cons.mpr ⟨w2_8_136, (List.forall_mem_cons.mpr ⟨w2_8_139, (List.forall_mem_cons.mpr ⟨w2_8_143, (List.forall_mem_cons.mpr ⟨w2_8_146, (List.forall_mem_cons.mpr ⟨w2_8_149, (List.forall_mem_cons.mpr ⟨w2_8_156, (List.forall_mem_cons.mpr ⟨w2_8_159, (List.forall_mem_cons.mpr ⟨w2_8_162, (List.forall_mem_cons.mpr ⟨w2_8_165, (List.forall_mem_cons.mpr ⟨w2_8_168, (List.forall_mem_cons.mpr ⟨w2_8_171, (fun _ h => absurd h List.not_mem_nil)⟩)⟩)⟩)⟩)⟩)⟩)⟩)⟩)⟩)⟩)⟩)⟩)⟩)⟩)⟩)⟩)⟩)⟩)⟩)⟩)⟩)⟩)⟩)⟩)⟩)⟩)⟩)⟩)⟩)⟩)⟩)⟩)
theorem w2_9_7 : am_m2 9 (7, 1, mX7_open) := m2_1 ⟨List.mem_of_getElem? (i := 271) (by decide +kernel), List.mem_of_getElem? (i := 272) (by decide +kernel), List.mem_of_getElem? (i := 273) (by decide +kernel), rfl, by decide +kernel, by decide +kernel⟩
theorem w2_9_15 : am_m2 9 (15, 1, mX7_add) := m2_1 ⟨List.mem_of_getElem? (i := 363) (by decide +kernel), List.mem_of_getElem? (i := 364) (by decide +kernel), List.mem_of_getElem? (i := 365) (by decide +kernel), rfl, by decide +kernel, by decide +kernel⟩
theorem w2_9_23 : am_m2 9 (23, 1, mX7_remove) := m2_1 ⟨List.mem_of_getElem? (i := 433) (by decide +kernel), List.mem_of_getElem? (i := 434) (by decide +kernel), List.mem_of_getElem? (i := 435) (by decide +kernel), rfl, by decide +kernel, by decide +kernel⟩
theorem w2_9_27 : am_m2 9 (27, 1, mX7_move) := m2_1 ⟨List.mem_of_getElem? (i := 448) (by decide +kernel), List.mem_of_getElem? (i := 449) (by decide +kernel), List.mem_of_getElem? (i := 450) (by decide +kernel), rfl, by decide +kernel, by decide +kernel⟩
theorem w2_9_30 : am_m2 9 (30, 1, mX7_set) := m2_1 ⟨List.mem_of_getElem? (i := 456) (by decide +kernel), List.mem_of_getElem? (i := 457) (by decide +kernel), List.mem_of_getElem? (i := 458) (by decide +kernel), rfl, by decide +kernel, by decide +kernel⟩
theorem w2_9_34 : am_m2 9 (34, 1, mX7_join) := m2_1 ⟨List.mem_of_getElem? (i := 467) (by decide +kernel), List.mem_of_getElem? (i := 468) (by decide +kernel), List.mem_of_getElem? (i := 469) (by decide +kernel), rfl, by decide +kernel, by decide +kernel⟩
theorem w2_9_37 : am_m2 9 (37, 1, mX7_setGroup) := m2_1 ⟨List.mem_of_getElem? (i := 474) (by decide +kernel), List.mem_of_getElem? (i := 475) (by decide +kernel), List.mem_of_getElem? (i := 476) (by decide +kernel), rfl, by decide +kernel, by decide +kernel⟩
theorem w2_9_40 : am_m2 9 (40, 1, mX7_load) := m2_1 ⟨List.mem_of_getElem? (i := 481) (by decide +kernel), List.mem_of_getElem? (i := 482) (by decide +kernel), List.mem_of_getElem? (i := 483) (by decide +kernel), rfl, by decide +kernel, by decide +kernel⟩
theorem w2_9_44 : am_m2 9 (44, 1, mX7_apply) := m2_1 ⟨List.mem_of_getElem? (i := 488) (by decide +kernel), List.mem_of_getElem? (i := 489) (by decide +kernel), List.mem_of_getElem? (i := 490) (by decide +kernel), rfl, by decide +kernel, by decide +kernel⟩
theorem w2_9_48 : am_m2 9 (48, 1, mX7_rule) := m2_1 ⟨List.mem_of_getElem? (i := 581) (by decide +kernel), List.mem_of_getElem? (i := 582) (by decide +kernel), List.mem_of_getElem? (i := 583) (by decide +kernel), rfl, by decide +kernel, by decide +kernel⟩
theorem w2_9_51 : am_m2 9 (51, 1, mX7_faults) := m2_1 ⟨List.mem_of_getElem? (i := 589) (by decide +kernel), List.mem_of_getElem? (i := 590) (by decide +kernel), List.mem_of_getElem? (i := 591) (by decide +kernel), rfl, by decide +kernel, by decide +kernel⟩
theorem w2_9_54 : am_m2 9 (54, 1, mX7_commit) := m2_1 ⟨List.mem_of_getElem? (i := 621) (by decide +kernel), List.mem_of_getElem? (i := 622) (by decide +kernel), List.mem_of_getElem? (i := 623) (by decide +kernel), rfl, by decide +kernel, by decide +kernel⟩
theorem w2_9_58 : am_m2 9 (58, 1, mX7_confirm) := m2_1 ⟨List.mem_of_getElem? (i := 635) (by decide +kernel), List.mem_of_getElem? (i := 636) (by decide +kernel), List.mem_of_getElem? (i := 637) (by decide +kernel), rfl, by decide +kernel, by decide +kernel⟩
theorem w2_9_62 : am_m2 9 (62, 1, mX7_advance) := m2_1 ⟨List.mem_of_getElem? (i := 643) (by decide +kernel), List.mem_of_getElem? (i := 644) (by decide +kernel), List.mem_of_getElem? (i := 645) (by decide +kernel), rfl, by decide +kernel, by decide +kernel⟩
theorem w2_9_65 : am_m2 9 (65, 1, mX7_size) := m2_1 ⟨List.mem_of_getElem? (i := 650) (by decide +kernel), List.mem_of_getElem? (i := 651) (by decide +kernel), List.mem_of_getElem? (i := 652) (by decide +kernel), rfl, by decide +kernel, by decide +kernel⟩
theorem w2_9_68 : am_m2 9 (68, 1, mX7_keyAt) := m2_1 ⟨List.mem_of_getElem? (i := 661) (by decide +kernel), List.mem_of_getElem? (i := 662) (by decide +kernel), List.mem_of_getElem? (i := 663) (by decide +kernel), rfl, by decide +kernel, by decide +kernel⟩
theorem w2_9_71 : am_m2 9 (71, 1, mX7_shown) := m2_1 ⟨List.mem_of_getElem? (i := 672) (by decide +kernel), List.mem_of_getElem? (i := 673) (by decide +kernel), List.mem_of_getElem? (i := 674) (by decide +kernel), rfl, by decide +kernel, by decide +kernel⟩
theorem w2_9_74 : am_m2 9 (74, 1, mX7_own) := m2_1 ⟨List.mem_of_getElem? (i := 680) (by decide +kernel), List.mem_of_getElem? (i := 681) (by decide +kernel), List.mem_of_getElem? (i := 682) (by decide +kernel), rfl, by decide +kernel, by decide +kernel⟩
theorem w2_9_77 : am_m2 9 (77, 1, mX7_same) := m2_1 ⟨List.mem_of_getElem? (i := 687) (by decide +kernel), List.mem_of_getElem? (i := 688) (by decide +kernel), List.mem_of_getElem? (i := 689) (by decide +kernel), rfl, by decide +kernel, by decide +kernel⟩
theorem w2_9_81 : am_m2 9 (81, 1, mX7_edits) := m2_1 ⟨List.mem_of_getElem? (i := 703) (by decide +kernel), List.mem_of_getElem? (i := 704) (by decide +kernel), List.mem_of_getElem? (i := 705) (by decide +kernel), rfl, by decide +kernel, by decide +kernel⟩
theorem w2_9_84 : am_m2 9 (84, 1, mX7_editAt) := m2_1 ⟨List.mem_of_getElem? (i := 710) (by decide +kernel), List.mem_of_getElem? (i := 711) (by decide +kernel), List.mem_of_getElem? (i := 712) (by decide +kernel), rfl, by decide +kernel, by decide +kernel⟩
theorem w2_9_87 : am_m2 9 (87, 2, mX7_init) := m2_2 ⟨List.mem_of_getElem? (i := 60) (by decide +kernel), List.mem_of_getElem? (i := 61) (by decide +kernel), rfl, rfl, rfl, by decide +kernel⟩
theorem w2_9_90 : am_m2 9 (90, 2, mX8_init) := m2_2 ⟨List.mem_of_getElem? (i := 720) (by decide +kernel), List.mem_of_getElem? (i := 721) (by decide +kernel), rfl, rfl, rfl, by decide +kernel⟩
theorem w2_9_91 : am_m2 9 (91, 0, mL_open) := m2_0 ⟨List.mem_of_getElem? (i := 267) (by decide +kernel), List.mem_of_getElem? (i := 268) (by decide +kernel), by decide +kernel⟩
theorem w2_9_96 : am_m2 9 (96, 1, mX8_open) := m2_1 ⟨List.mem_of_getElem? (i := 783) (by decide +kernel), List.mem_of_getElem? (i := 784) (by decide +kernel), List.mem_of_getElem? (i := 785) (by decide +kernel), rfl, by decide +kernel, by decide +kernel⟩
theorem w2_9_97 : am_m2 9 (97, 1, mX8_thrown) := m2_1 ⟨List.mem_of_getElem? (i := 779) (by decide +kernel), List.mem_of_getElem? (i := 780) (by decide +kernel), List.mem_of_getElem? (i := 781) (by decide +kernel), rfl, by decide +kernel, by decide +kernel⟩
theorem w2_9_100 : am_m2 9 (100, 0, mL_add) := m2_0 ⟨List.mem_of_getElem? (i := 358) (by decide +kernel), List.mem_of_getElem? (i := 359) (by decide +kernel), by decide +kernel⟩
theorem w2_9_103 : am_m2 9 (103, 1, mX8_add) := m2_1 ⟨List.mem_of_getElem? (i := 797) (by decide +kernel), List.mem_of_getElem? (i := 798) (by decide +kernel), List.mem_of_getElem? (i := 799) (by decide +kernel), rfl, by decide +kernel, by decide +kernel⟩
theorem w2_9_104 : am_m2 9 (104, 0, mL_remove) := m2_0 ⟨List.mem_of_getElem? (i := 430) (by decide +kernel), List.mem_of_getElem? (i := 431) (by decide +kernel), by decide +kernel⟩
theorem w2_9_107 : am_m2 9 (107, 1, mX8_remove) := m2_1 ⟨List.mem_of_getElem? (i := 829) (by decide +kernel), List.mem_of_getElem? (i := 830) (by decide +kernel), List.mem_of_getElem? (i := 831) (by decide +kernel), rfl, by decide +kernel, by decide +kernel⟩
theorem w2_9_108 : am_m2 9 (108, 0, mL_move) := m2_0 ⟨List.mem_of_getElem? (i := 445) (by decide +kernel), List.mem_of_getElem? (i := 446) (by decide +kernel), by decide +kernel⟩
theorem w2_9_110 : am_m2 9 (110, 1, mX8_move) := m2_1 ⟨List.mem_of_getElem? (i := 841) (by decide +kernel), List.mem_of_getElem? (i := 842) (by decide +kernel), List.mem_of_getElem? (i := 843) (by decide +kernel), rfl, by decide +kernel, by decide +kernel⟩
theorem w2_9_111 : am_m2 9 (111, 0, mL_set) := m2_0 ⟨List.mem_of_getElem? (i := 453) (by decide +kernel), List.mem_of_getElem? (i := 454) (by decide +kernel), by decide +kernel⟩
theorem w2_9_114 : am_m2 9 (114, 1, mX8_set) := m2_1 ⟨List.mem_of_getElem? (i := 849) (by decide +kernel), List.mem_of_getElem? (i := 850) (by decide +kernel), List.mem_of_getElem? (i := 851) (by decide +kernel), rfl, by decide +kernel, by decide +kernel⟩
theorem w2_9_115 : am_m2 9 (115, 0, mL_join) := m2_0 ⟨List.mem_of_getElem? (i := 464) (by decide +kernel), List.mem_of_getElem? (i := 465) (by decide +kernel), by decide +kernel⟩
theorem w2_9_117 : am_m2 9 (117, 1, mX8_join) := m2_1 ⟨List.mem_of_getElem? (i := 862) (by decide +kernel), List.mem_of_getElem? (i := 863) (by decide +kernel), List.mem_of_getElem? (i := 864) (by decide +kernel), rfl, by decide +kernel, by decide +kernel⟩
theorem w2_9_118 : am_m2 9 (118, 0, mL_setGroup) := m2_0 ⟨List.mem_of_getElem? (i := 471) (by decide +kernel), List.mem_of_getElem? (i := 472) (by decide +kernel), by decide +kernel⟩
theorem w2_9_120 : am_m2 9 (120, 1, mX8_setGroup) := m2_1 ⟨List.mem_of_getElem? (i := 873) (by decide +kernel), List.mem_of_getElem? (i := 874) (by decide +kernel), List.mem_of_getElem? (i := 875) (by decide +kernel), rfl, by decide +kernel, by decide +kernel⟩
theorem w2_9_121 : am_m2 9 (121, 0, mL_load) := m2_0 ⟨List.mem_of_getElem? (i := 478) (by decide +kernel), List.mem_of_getElem? (i := 479) (by decide +kernel), by decide +kernel⟩
theorem w2_9_124 : am_m2 9 (124, 1, mX8_load) := m2_1 ⟨List.mem_of_getElem? (i := 880) (by decide +kernel), List.mem_of_getElem? (i := 881) (by decide +kernel), List.mem_of_getElem? (i := 882) (by decide +kernel), rfl, by decide +kernel, by decide +kernel⟩
theorem w2_9_125 : am_m2 9 (125, 0, mL_apply) := m2_0 ⟨List.mem_of_getElem? (i := 485) (by decide +kernel), List.mem_of_getElem? (i := 486) (by decide +kernel), by decide +kernel⟩
theorem w2_9_128 : am_m2 9 (128, 1, mX8_apply) := m2_1 ⟨List.mem_of_getElem? (i := 884) (by decide +kernel), List.mem_of_getElem? (i := 885) (by decide +kernel), List.mem_of_getElem? (i := 886) (by decide +kernel), rfl, by decide +kernel, by decide +kernel⟩
theorem w2_9_129 : am_m2 9 (129, 0, mL_rule) := m2_0 ⟨List.mem_of_getElem? (i := 578) (by decide +kernel), List.mem_of_getElem? (i := 579) (by decide +kernel), by decide +kernel⟩
theorem w2_9_131 : am_m2 9 (131, 1, mX8_rule) := m2_1 ⟨List.mem_of_getElem? (i := 912) (by decide +kernel), List.mem_of_getElem? (i := 913) (by decide +kernel), List.mem_of_getElem? (i := 914) (by decide +kernel), rfl, by decide +kernel, by decide +kernel⟩
theorem w2_9_132 : am_m2 9 (132, 0, mL_faults) := m2_0 ⟨List.mem_of_getElem? (i := 586) (by decide +kernel), List.mem_of_getElem? (i := 587) (by decide +kernel), by decide +kernel⟩
theorem w2_9_134 : am_m2 9 (134, 1, mX8_faults) := m2_1 ⟨List.mem_of_getElem? (i := 916) (by decide +kernel), List.mem_of_getElem? (i := 917) (by decide +kernel), List.mem_of_getElem? (i := 918) (by decide +kernel), rfl, by decide +kernel, by decide +kernel⟩
theorem w2_9_135 : am_m2 9 (135, 0, mL_commit) := m2_0 ⟨List.mem_of_getElem? (i := 618) (by decide +kernel), List.mem_of_getElem? (i := 619) (by decide +kernel), by decide +kernel⟩
theorem w2_9_138 : am_m2 9 (138, 1, mX8_commit) := m2_1 ⟨List.mem_of_getElem? (i := 936) (by decide +kernel), List.mem_of_getElem? (i := 937) (by decide +kernel), List.mem_of_getElem? (i := 938) (by decide +kernel), rfl, by decide +kernel, by decide +kernel⟩
theorem w2_9_139 : am_m2 9 (139, 0, mL_confirm) := m2_0 ⟨List.mem_of_getElem? (i := 632) (by decide +kernel), List.mem_of_getElem? (i := 633) (by decide +kernel), by decide +kernel⟩
theorem w2_9_142 : am_m2 9 (142, 1, mX8_confirm) := m2_1 ⟨List.mem_of_getElem? (i := 940) (by decide +kernel), List.mem_of_getElem? (i := 941) (by decide +kernel), List.mem_of_getElem? (i := 942) (by decide +kernel), rfl, by decide +kernel, by decide +kernel⟩
theorem w2_9_143 : am_m2 9 (143, 0, mL_advance) := m2_0 ⟨List.mem_of_getElem? (i := 640) (by decide +kernel), List.mem_of_getElem? (i := 641) (by decide +kernel), by decide +kernel⟩
theorem w2_9_145 : am_m2 9 (145, 1, mX8_advance) := m2_1 ⟨List.mem_of_getElem? (i := 944) (by decide +kernel), List.mem_of_getElem? (i := 945) (by decide +kernel), List.mem_of_getElem? (i := 946) (by decide +kernel), rfl, by decide +kernel, by decide +kernel⟩
theorem w2_9_146 : am_m2 9 (146, 1, mX7_running) := m2_1 ⟨List.mem_of_getElem? (i := 259) (by decide +kernel), List.mem_of_getElem? (i := 260) (by decide +kernel), List.mem_of_getElem? (i := 261) (by decide +kernel), rfl, by decide +kernel, by decide +kernel⟩
theorem w2_9_149 : am_m2 9 (149, 1, mX8_running) := m2_1 ⟨List.mem_of_getElem? (i := 948) (by decide +kernel), List.mem_of_getElem? (i := 949) (by decide +kernel), List.mem_of_getElem? (i := 950) (by decide +kernel), rfl, by decide +kernel, by decide +kernel⟩
theorem w2_9_150 : am_m2 9 (150, 1, mX7_waiting) := m2_1 ⟨List.mem_of_getElem? (i := 263) (by decide +kernel), List.mem_of_getElem? (i := 264) (by decide +kernel), List.mem_of_getElem? (i := 265) (by decide +kernel), rfl, by decide +kernel, by decide +kernel⟩
theorem w2_9_153 : am_m2 9 (153, 1, mX8_waiting) := m2_1 ⟨List.mem_of_getElem? (i := 952) (by decide +kernel), List.mem_of_getElem? (i := 953) (by decide +kernel), List.mem_of_getElem? (i := 954) (by decide +kernel), rfl, by decide +kernel, by decide +kernel⟩
theorem w2_9_154 : am_m2 9 (154, 0, mL_size) := m2_0 ⟨List.mem_of_getElem? (i := 647) (by decide +kernel), List.mem_of_getElem? (i := 648) (by decide +kernel), by decide +kernel⟩
theorem w2_9_156 : am_m2 9 (156, 1, mX8_size) := m2_1 ⟨List.mem_of_getElem? (i := 956) (by decide +kernel), List.mem_of_getElem? (i := 957) (by decide +kernel), List.mem_of_getElem? (i := 958) (by decide +kernel), rfl, by decide +kernel, by decide +kernel⟩
theorem w2_9_157 : am_m2 9 (157, 0, mL_keyAt) := m2_0 ⟨List.mem_of_getElem? (i := 658) (by decide +kernel), List.mem_of_getElem? (i := 659) (by decide +kernel), by decide +kernel⟩
theorem w2_9_159 : am_m2 9 (159, 1, mX8_keyAt) := m2_1 ⟨List.mem_of_getElem? (i := 960) (by decide +kernel), List.mem_of_getElem? (i := 961) (by decide +kernel), List.mem_of_getElem? (i := 962) (by decide +kernel), rfl, by decide +kernel, by decide +kernel⟩
theorem w2_9_160 : am_m2 9 (160, 0, mL_shown) := m2_0 ⟨List.mem_of_getElem? (i := 669) (by decide +kernel), List.mem_of_getElem? (i := 670) (by decide +kernel), by decide +kernel⟩
theorem w2_9_162 : am_m2 9 (162, 1, mX8_shown) := m2_1 ⟨List.mem_of_getElem? (i := 968) (by decide +kernel), List.mem_of_getElem? (i := 969) (by decide +kernel), List.mem_of_getElem? (i := 970) (by decide +kernel), rfl, by decide +kernel, by decide +kernel⟩
theorem w2_9_163 : am_m2 9 (163, 0, mL_own) := m2_0 ⟨List.mem_of_getElem? (i := 677) (by decide +kernel), List.mem_of_getElem? (i := 678) (by decide +kernel), by decide +kernel⟩
theorem w2_9_165 : am_m2 9 (165, 1, mX8_own) := m2_1 ⟨List.mem_of_getElem? (i := 972) (by decide +kernel), List.mem_of_getElem? (i := 973) (by decide +kernel), List.mem_of_getElem? (i := 974) (by decide +kernel), rfl, by decide +kernel, by decide +kernel⟩
theorem w2_9_166 : am_m2 9 (166, 0, mL_same) := m2_0 ⟨List.mem_of_getElem? (i := 684) (by decide +kernel), List.mem_of_getElem? (i := 685) (by decide +kernel), by decide +kernel⟩
theorem w2_9_168 : am_m2 9 (168, 1, mX8_same) := m2_1 ⟨List.mem_of_getElem? (i := 976) (by decide +kernel), List.mem_of_getElem? (i := 977) (by decide +kernel), List.mem_of_getElem? (i := 978) (by decide +kernel), rfl, by decide +kernel, by decide +kernel⟩
theorem w2_9_169 : am_m2 9 (169, 0, mL_edits) := m2_0 ⟨List.mem_of_getElem? (i := 700) (by decide +kernel), List.mem_of_getElem? (i := 701) (by decide +kernel), by decide +kernel⟩
theorem w2_9_171 : am_m2 9 (171, 1, mX8_edits) := m2_1 ⟨List.mem_of_getElem? (i := 984) (by decide +kernel), List.mem_of_getElem? (i := 985) (by decide +kernel), List.mem_of_getElem? (i := 986) (by decide +kernel), rfl, by decide +kernel, by decide +kernel⟩
theorem w2_9_172 : am_m2 9 (172, 0, mL_editAt) := m2_0 ⟨List.mem_of_getElem? (i := 707) (by decide +kernel), List.mem_of_getElem? (i := 708) (by decide +kernel), by decide +kernel⟩
theorem w2_9_174 : am_m2 9 (174, 1, mX8_editAt) := m2_1 ⟨List.mem_of_getElem? (i := 988) (by decide +kernel), List.mem_of_getElem? (i := 989) (by decide +kernel), List.mem_of_getElem? (i := 990) (by decide +kernel), rfl, by decide +kernel, by decide +kernel⟩
set_option maxRecDepth 20000 in
theorem tw_m1_9 : ∀ e ∈ am_mrT 9, am_m1 e.2.2 := (List.forall_mem_cons.mpr ⟨w1_X7_open, (List.forall_mem_cons.mpr ⟨w1_X7_add, (List.forall_mem_cons.mpr ⟨w1_X7_remove, (List.forall_mem_cons.mpr ⟨w1_X7_move, (List.forall_mem_cons.mpr ⟨w1_X7_set, (List.forall_mem_cons.mpr ⟨w1_X7_join, (List.forall_mem_cons.mpr ⟨w1_X7_setGroup, (List.forall_mem_cons.mpr ⟨w1_X7_load, (List.forall_mem_cons.mpr ⟨w1_X7_apply, (List.forall_mem_cons.mpr ⟨w1_X7_rule, (List.forall_mem_cons.mpr ⟨w1_X7_faults, (List.forall_mem_cons.mpr ⟨w1_X7_commit, (List.forall_mem_cons.mpr ⟨w1_X7_confirm, (List.forall_mem_cons.mpr ⟨w1_X7_advance, (List.forall_mem_cons.mpr ⟨w1_X7_size, (List.forall_mem_cons.mpr ⟨w1_X7_keyAt, (List.forall_mem_cons.mpr ⟨w1_X7_shown, (List.forall_mem_cons.mpr ⟨w1_X7_own, (List.forall_mem_cons.mpr ⟨w1_X7_same, (List.forall_mem_cons.mpr ⟨w1_X7_edits, (List.forall_mem_cons.mpr ⟨w1_X7_editAt, (List.forall_mem_cons.mpr ⟨w1_X7_init, (List.forall_mem_cons.mpr ⟨w1_X8_init, (List.forall_mem_cons.mpr ⟨w1_L_open, (List.forall_mem_cons.mpr ⟨w1_X8_open, (List.forall_mem_cons.mpr ⟨w1_X8_thrown, (List.forall_mem_cons.mpr ⟨w1_L_add, (List.forall_mem_cons.mpr ⟨w1_X8_add, (List.forall_mem_cons.mpr ⟨w1_L_remove, (List.forall_mem_cons.mpr ⟨w1_X8_remove, (List.forall_mem_cons.mpr ⟨w1_L_move, (List.forall_mem_cons.mpr ⟨w1_X8_move, (List.forall_mem_cons.mpr ⟨w1_L_set, (List.forall_mem_cons.mpr ⟨w1_X8_set, (List.forall_mem_cons.mpr ⟨w1_L_join, (List.forall_mem_cons.mpr ⟨w1_X8_join, (List.forall_mem_cons.mpr ⟨w1_L_setGroup, (List.forall_mem_cons.mpr ⟨w1_X8_setGroup, (List.forall_mem_cons.mpr ⟨w1_L_load, (List.forall_mem_cons.mpr ⟨w1_X8_load, (List.forall_mem_cons.mpr ⟨w1_L_apply, (List.forall_mem_cons.mpr ⟨w1_X8_apply, (List.forall_mem_cons.mpr ⟨w1_L_rule, (List.forall_mem_cons.mpr ⟨w1_X8_rule, (List.forall_mem_cons.mpr ⟨w1_L_faults, (List.forall_mem_cons.mpr ⟨w1_X8_faults, (List.forall_mem_cons.mpr ⟨w1_L_commit, (List.forall_mem_cons.mpr ⟨w1_X8_commit, (List.forall_mem_cons.mpr ⟨w1_L_confirm, (List.forall_mem_cons.mpr ⟨w1_X8_confirm, (List.forall_mem_cons.mpr ⟨w1_L_advance, (List.forall_mem_cons.mpr ⟨w1_X8_advance, (List.forall_mem_cons.mpr ⟨w1_X7_running, (List.forall_mem_cons.mpr ⟨w1_X8_running, (List.forall_mem_cons.mpr ⟨w1_X7_waiting, (List.forall_mem_cons.mpr ⟨w1_X8_waiting, (List.forall_mem_cons.mpr ⟨w1_L_size, (List.forall_mem_cons.mpr ⟨w1_X8_size, (List.forall_mem_cons.mpr ⟨w1_L_keyAt, (List.forall_mem_cons.mpr ⟨w1_X8_keyAt, (List.forall_mem_cons.mpr ⟨w1_L_shown, (List.forall_mem_cons.mpr ⟨w1_X8_shown, (List.forall_mem_cons.mpr ⟨w1_L_own, (List.forall_mem_cons.mpr ⟨w1_X8_own, (List.forall_mem_cons.mpr ⟨w1_L_same, (List.forall_mem_cons.mpr ⟨w1_X8_same, (List.forall_mem_cons.mpr ⟨w1_L_edits, (List.forall_mem_cons.mpr ⟨w1_X8_edits, (List.forall_mem_cons.mpr ⟨w1_L_editAt, (List.forall_mem_cons.mpr ⟨w1_X8_editAt, (fun _ h => absurd h List.not_mem_nil)⟩)⟩)⟩)⟩)⟩)⟩)⟩)⟩)⟩)⟩)⟩)⟩)⟩)⟩)⟩)⟩)⟩)⟩)⟩)⟩)⟩)⟩)⟩)⟩)⟩)⟩)⟩)⟩)⟩)⟩)⟩)⟩)⟩)⟩)⟩)⟩)⟩)⟩)⟩)⟩)⟩)⟩)⟩)⟩)⟩)⟩)⟩)⟩)⟩)⟩)⟩)⟩)⟩)⟩)⟩)⟩)⟩)⟩)⟩)⟩)⟩)⟩)⟩)⟩)⟩)⟩)⟩)⟩)⟩)⟩)
set_option maxRecDepth 20000 in
theorem tw_m2_9 : ∀ e ∈ am_mrT 9, am_m2 9 e := (List.forall_mem_cons.mpr ⟨w2_9_7, (List.forall_mem_cons.mpr ⟨w2_9_15, (List.forall_mem_cons.mpr ⟨w2_9_23, (List.forall_mem_cons.mpr ⟨w2_9_27, (List.forall_mem_cons.mpr ⟨w2_9_30, (List.forall_mem_cons.mpr ⟨w2_9_34, (List.forall_mem_cons.mpr ⟨w2_9_37, (List.forall_mem_cons.mpr ⟨w2_9_40, (List.forall_mem_cons.mpr ⟨w2_9_44, (List.forall_mem_cons.mpr ⟨w2_9_48, (List.forall_mem_cons.mpr ⟨w2_9_51, (List.forall_mem_cons.mpr ⟨w2_9_54, (List.forall_mem_cons.mpr ⟨w2_9_58, (List.forall_mem_cons.mpr ⟨w2_9_62, (List.forall_mem_cons.mpr ⟨w2_9_65, (List.forall_mem_cons.mpr ⟨w2_9_68, (List.forall_mem_cons.mpr ⟨w2_9_71, (List.forall_mem_cons.mpr ⟨w2_9_74, (List.forall_mem_cons.mpr ⟨w2_9_77, (List.forall_mem_cons.mpr ⟨w2_9_81, (List.forall_mem_cons.mpr ⟨w2_9_84, (List.forall_mem_cons.mpr ⟨w2_9_87, (List.forall_mem_cons.mpr ⟨w2_9_90, (List.forall_mem_cons.mpr ⟨w2_9_91, (List.forall_mem_cons.mpr ⟨w2_9_96, (List.forall_mem_cons.mpr ⟨w2_9_97, (List.forall_mem_cons.mpr ⟨w2_9_100, (List.forall_mem_cons.mpr ⟨w2_9_103, (List.forall_mem_cons.mpr ⟨w2_9_104, (List.forall_mem_cons.mpr ⟨w2_9_107, (List.forall_mem_cons.mpr ⟨w2_9_108, (List.forall_mem_cons.mpr ⟨w2_9_110, (List.forall_mem_cons.mpr ⟨w2_9_111, (List.forall_mem_cons.mpr ⟨w2_9_114, (List.forall_mem_cons.mpr ⟨w2_9_115, (List.forall_mem_cons.mpr ⟨w2_9_117, (List.forall_mem_cons.mpr ⟨w2_9_118, (List.forall_mem_cons.mpr ⟨w2_9_120, (List.forall_mem_cons.mpr ⟨w2_9_121, (List.forall_mem_cons.mpr ⟨w2_9_124, (List.forall_mem_cons.mpr ⟨w2_9_125, (List.forall_mem_cons.mpr ⟨w2_9_128, (List.forall_mem_cons.mpr ⟨w2_9_129, (List.forall_mem_cons.mpr ⟨w2_9_131, (List.forall_mem_cons.mpr ⟨w2_9_132, (List.forall_mem_cons.mpr ⟨w2_9_134, (List.forall_mem_cons.mpr ⟨w2_9_135, (List.forall_mem_cons.mpr ⟨w2_9_138, (List.forall_mem_cons.mpr ⟨w2_9_139, (List.forall_mem_cons.mpr ⟨w2_9_142, (List.forall_mem_cons.mpr ⟨w2_9_143, (List.forall_mem_cons.mpr ⟨w2_9_145, (List.forall_mem_cons.mpr ⟨w2_9_146, (List.forall_mem_cons.mpr ⟨w2_9_149, (List.forall_mem_cons.mpr ⟨w2_9_150, (List.forall_mem_cons.mpr ⟨w2_9_153, (List.forall_mem_cons.mpr ⟨w2_9_154, (List.forall_mem_cons.mpr ⟨w2_9_156, (List.forall_mem_cons.mpr ⟨w2_9_157, (List.forall_mem_cons.mpr ⟨w2_9_159, (List.forall_mem_cons.mpr ⟨w2_9_160, (List.forall_mem_cons.mpr ⟨w2_9_162, (List.forall_mem_cons.mpr ⟨w2_9_163, (List.forall_mem_cons.mpr ⟨w2_9_165, (List.forall_mem_cons.mpr ⟨w2_9_166, (List.forall_mem_cons.mpr ⟨w2_9_168, (List.forall_mem_cons.mpr ⟨w2_9_169, (List.forall_mem_cons.mpr ⟨w2_9_171, (List.forall_mem_cons.mpr ⟨w2_9_172, (List.forall_mem_cons.mpr ⟨w2_9_174, (fun _ h => absurd h List.not_mem_nil)⟩)⟩)⟩)⟩)⟩)⟩)⟩)⟩)⟩)⟩)⟩)⟩)⟩)⟩)⟩)⟩)⟩)⟩)⟩)⟩)⟩)⟩)⟩)⟩)⟩)⟩)⟩)⟩)⟩)⟩)⟩)⟩)⟩)⟩)⟩)⟩)⟩)⟩)⟩)⟩)⟩)⟩)⟩)⟩)⟩)⟩)⟩)⟩)⟩)⟩)⟩)⟩)⟩)⟩)⟩)⟩)⟩)⟩)⟩)⟩)⟩)⟩)⟩)⟩)⟩)⟩)⟩)⟩)⟩)⟩)
theorem tw_m1 : ∀ o, ∀ e ∈ am_mrT o, am_m1 e.2.2 := c9 (c8 tw_m1_0 tw_m1_1 tw_m1_2 tw_m1_3 (fun e he => by cases he) tw_m1_5 tw_m1_6 tw_m1_7 tw_m1_8) tw_m1_9 (fun c e he => by cases he)
theorem tw_m2 : ∀ o, ∀ e ∈ am_mrT o, am_m2 o e := c9 (c8 tw_m2_0 tw_m2_1 tw_m2_2 tw_m2_3 (fun e he => by cases he) tw_m2_5 tw_m2_6 tw_m2_7 tw_m2_8) tw_m2_9 (fun c e he => by cases he)
theorem tw_h : ∀ k, 1 ≤ am_ct k → Cond.classLink RL k (am_xn (am_ct k)) ∈ lw_tbl ∧ am_ct k ≤ 3 ∧ k ≠ 0 := by
  intro k hk
  by_cases h13 : k = 13
  · subst h13; decide +kernel
  · by_cases h19 : k = 19
    · subst h19; decide +kernel
    · by_cases h21 : k = 21
      · subst h21; decide +kernel
      · exfalso
        unfold am_ct at hk
        split at hk <;> first | omega | contradiction
theorem tw_x1 : Cond.classLink RX7 215 (am_xn 1) ∈ lw_tbl ∧ Cond.initialized (am_xn 1) ∈ lw_tbl ∧ ∀ w ∈ vx_atS RX7 219 (am_xn 1) ["java/lang/RuntimeException", "java/lang/Exception"], w ∈ lw_tbl ∧ vx_ot w = true ∧ (goodWord w || am_dc w) = true := by decide +kernel
theorem tw_x2 : Cond.classLink RX7 91 (am_xn 2) ∈ lw_tbl ∧ Cond.initialized (am_xn 2) ∈ lw_tbl ∧ ∀ w ∈ vx_atS RX7 95 (am_xn 2) ["java/lang/RuntimeException", "java/lang/Exception"], w ∈ lw_tbl ∧ vx_ot w = true ∧ (goodWord w || am_dc w) = true := by decide +kernel
theorem tw_x3 : Cond.classLink RX7 220 (am_xn 3) ∈ lw_tbl ∧ Cond.initialized (am_xn 3) ∈ lw_tbl ∧ ∀ w ∈ vx_atS RX7 224 (am_xn 3) ["java/lang/RuntimeException", "java/lang/Exception"], w ∈ lw_tbl ∧ vx_ot w = true ∧ (goodWord w || am_dc w) = true := by decide +kernel
theorem tw_ca : ∀ E : Nat, E ≤ 3 → 1 ≤ E → Cond.castable (am_xn E) (am_xn E) ∈ lw_tbl := fun E h h1 => match E, h, h1 with
  | 1, _, _ => by decide +kernel
  | 2, _, _ => by decide +kernel
  | 3, _, _ => by decide +kernel
theorem tw_xe : ∀ o, ∀ e ∈ am_xrT o, o = 7 ∧ (e.1.1 = 215 ∧ e.1.2.2 = 219 ∧ e.2 = 1 ∨ e.1.1 = 91 ∧ e.1.2.2 = 95 ∧ e.2 = 2 ∨ e.1.1 = 220 ∧ e.1.2.2 = 224 ∧ e.2 = 3) :=
  c9 (c8 (fun e he => by cases he) (fun e he => by cases he) (fun e he => by cases he) (fun e he => by cases he) (fun e he => by cases he) (fun e he => by cases he) (fun e he => by cases he) (by decide +kernel) (fun e he => by cases he)) (fun e he => by cases he) (fun c e he => by cases he)
end
section
/-! A THROW, with the size of the heap behind it (the kit's vx_throwS with one fact more) -/
section VT
variable {p : Program} {l : Launch} {e : Env} {R : Room} {s : State} {m : MethodId} {args : Array Value} {below : List Frame} {meth : Method} {c : Code} {H : Heap} {locs : List Loc} {cells slots : Nat} {Q : State → Prop}
variable {mc ms : Nat} {free : Addr → Prop} {A0 A1 : Nat → Prop} {H0 : Heap} {a : Array Value} {ls : Array Slot} {st0 rest : List Value}
variable {Qc : Array Value → State → Outcome → State → Prop} {XC : String → State → State → Prop}
/-- 'throw new E("text")': new; dup; ldc; invokespecial; athrow -/
theorem vt_throwS {cc : ByteArray} {pc : Nat} (hexec : p.tables.exec = Jvm.exec) (hb : c.code = cc) (hl : l.stackTraces = false) {own cls text : String} {names : List String} {ik is ic mc ms sa : Nat} {A : Nat → Prop}
    (hown : s.vm.findClass own = some m.cls) (hcls : Bundle.fit cls = true) (hnames : ∀ n ∈ names, Bundle.fit n = true)
    (hk : (Cond.classLink own ik cls).before args s = true) (hini : (Cond.initialized cls).before args s = true) (hstr : vk_R own is text sa s) (hat : ∀ w ∈ vx_atS own ic cls names, w.before args s = true)
    (hgood : ∀ w ∈ Cond.classLink own ik cls :: Cond.initialized cls :: vx_atS own ic cls names, vx_ot w = true)
    (hU : vx_Zq Bundle.tN "UNASSIGNED_STACK" Bundle.steD A s s.heap) (hN : vx_Zq Bundle.tN "SUPPRESSED_SENTINEL" Bundle.listD A s s.heap) (hS : va_S A s.heap H locs) (hsize : ls.size = c.maxLocals)
    (d0 : decode cc pc = .ok (.new ik, 3)) (d3 : decode cc (pc + 3) = .ok (.dup, 1)) (d4 : decode cc (pc + 4) = .ok (.ldc is, 2)) (d6 : decode cc (pc + 6) = .ok (.invokespecial ic, 3)) (d9 : decode cc (pc + 9) = .ok (.athrow, 1))
    (hout : ∀ x ∈ c.exceptionTable.toList, covers x (pc + 9) = false)
    (hRframes : names.length + 3 < R.frames) (hRlocals : (rest.map fun v => v.category).sum + (13 * (names.length + 1) + 43) ≤ R.locals) (hRcells : cells + 1 ≤ R.cells) (hRslots : slots + 6 ≤ R.slots) (hlocks : meth.locks = false)
    (hx : ∀ t : State, s.vm.Alike t.vm → t.heap.size = H.size + 1 → (∀ q : Nat, q < H.size → t.heap[q]? = H[q]?) → XC cls s t)
    (hf : ∀ z ∈ locs, free z.base) (hc : cells + 1 ≤ mc) (hs : slots + 6 ≤ ms) :
    W p l e R s m args below meth c H locs cells slots (vx_MQ below Qc XC args s mc ms free) (F0 m pc ls rest) := by
  intro T hT X
  have htr : e.platform.stackTraces = false := (show e.platform.stackTraces = l.stackTraces by rw [X.admits.platform]).trans hl
  have Y := vx_rebase X (R' := { frames := R.frames, locals := R.locals, cells := 1, slots := 6 }) (Nat.le_refl _) (Nat.le_refl _) hRcells hRslots
  obtain ⟨s', hA⟩ : ∃ z, z = (T.setVm s.vm).setFrames (.invoking m args :: below) := ⟨_, rfl⟩
  rw [← hA] at Y
  have hvm : s'.vm = s.vm := by rw [hA]; rfl
  have hhp : s'.heap = H := by rw [hA]; exact hT
  have hW0 : s.WarmedH s'.vm := by rw [hvm]; exact State.WarmedH.refl s
  have hat' : ∀ w ∈ vx_atS own ic cls names, w.before args s' = true := fun w hw => vx_ot_at hW0 hvm.symm (hgood w (List.mem_cons_of_mem _ (List.mem_cons_of_mem _ hw))) (hat w hw)
  have hk' : (Cond.classLink own ik cls).before args s' = true := vx_ot_at hW0 hvm.symm (hgood _ List.mem_cons_self) hk
  have hini' : (Cond.initialized cls).before args s' = true := vx_ot_at hW0 hvm.symm (hgood _ (List.mem_cons_of_mem _ List.mem_cons_self)) hini
  have hU' : vx_Zq Bundle.tN "UNASSIGNED_STACK" Bundle.steD A s' s'.heap := by rw [hhp]; exact vx_Zq.moved hW0.alike (hU.kept hS.2.1)
  have hN' : vx_Zq Bundle.tN "SUPPRESSED_SENTINEL" Bundle.listD A s' s'.heap := by rw [hhp]; exact vx_Zq.moved hW0.alike (hN.kept hS.2.1)
  have h : ∀ w ∈ Bundle.ownAtoms own ic cls names, w.before args s' = true := vx_own hat' (vx_isRefq hU'.1) (vx_isRefq hN'.1) hU'.2.word hN'.2.word
  have hown' : s'.vm.findClass own = some m.cls := by rw [hvm]; exact hown
  have hins : (Cond.instantiable cls 6).before args s' = true := h _ (by simp [Bundle.ownAtoms])
  obtain ⟨vm₁, cX, kX, hfX, hkX, -, -, X₁, st1⟩ := Y.newCold hexec (own := own) (C := cls) (index := ik) (n := 6) hown' hk' hins hini'
    (g := F0 m pc ls rest) rfl (by rw [hb]; exact d0) (Nat.le_refl _) (Nat.le_refl _)
  generalize hT1 : (T.setVm vm₁).pushCell { cls := cX, slots := kX.instanceTypes.map defaultValue, vm := .none } = T1 at X₁ st1
  have hcat : (Value.ref T.heap.size).category = 1 := rfl
  have hcellA : T1.heap[T.heap.size]? = some (freshCell cX kX) := by rw [← hT1]; exact State.heap_pushCell_size _ _
  have d3' : decode c.code (pc + 3) = .ok (.dup, 1) := by rw [hb]; exact d3
  have d4' : decode c.code (pc + 4) = .ok (.ldc is, 2) := by rw [hb]; exact d4
  have hstr' : vk_R own is text sa s' := vk_R.warm hW0 hstr
  obtain ⟨U, hsteps, hrun, hend, hW, hsame, ce, hce, hO⟩ := X₁.ctorThrowS hexec htr (own := own) (cls := cls) (names := names) (ic := ic) hown' hcls hnames h (fun x hx => nomatch hx) hfX hkX hcellA (by rw [hhp, hT]; exact Nat.le_refl _) (msg := .ref sa) rfl
    (g := { method := m, pc := pc + 6, locals := ls, stack := .ref sa :: .ref T.heap.size :: .ref T.heap.size :: rest, locked := none }) rfl hsize rfl rfl (rest := rest) rfl
    (by rw [hb]; exact d6) (by rw [hb]; exact d9) hout hRframes (by simp only [List.map_cons, List.sum_cons, hcat]; omega) hlocks
  obtain ⟨f1, f2⟩ := vx_frame hsame
  rw [hhp] at f1 f2
  have f3 : U.heap.size = H.size + 1 := by
    have g1 : U.heap.size ≤ s'.heap.size + 1 := hsame.2.2.1
    have g2 : T.heap.size < U.heap.size := (Array.getElem?_eq_some_iff.mp hce).1
    rw [hhp] at g1
    rw [hT] at g2
    omega
  have hWs : s.WarmedH U.vm := State.WarmedH.trans hW0 hW
  have hcl : s.vm.findClass cls = some ce.cls := by
    have h9 := hO.cls
    rw [hvm] at h9
    exact h9
  have hall : s.sameButNew ({ U with vm := s.vm } : State) locs mc ms := by
    subst hA
    obtain ⟨e1, e2⟩ := hsame
    rw [State.setFrames_setFrames] at e1
    have h2 : (T.setVm s.vm).sameButNew ({ U with vm := s.vm } : State) [] (0 + 1) (0 + 6) := ⟨e1, e2⟩
    have h3 := X.same.trans h2
    rw [List.append_nil] at h3
    exact h3.mono hc hs
  refine ⟨U, ?_, .threw T.heap.size, hrun, hend, Or.inr ⟨T.heap.size, rfl, cls, ce, locs, hx U hWs.alike f3 (fun q hq => f2 q hq (fun z hz => nomatch hz)), hce, hO.vm, hcl, hWs, hall, hf⟩⟩
  refine st1 _ ?_
  show Steps p.tables e below (T1.setTop { method := m, pc := pc + 3, locals := ls, stack := .ref T.heap.size :: rest, locked := none }) _
  jvm_step X₁.here [X₁.here.top, hexec, d3', Value.category]
  exact X₁.ldcString hexec (own := own) (text := text) (index := is) (a := sa) hown' hstr'.1 hstr'.2
    (g := { method := m, pc := pc + 4, locals := ls, stack := .ref T.heap.size :: .ref T.heap.size :: rest, locked := none }) rfl d4' _ hsteps
end VT
/-! RUNS of the abstract machine are runs of the machine -/
theorem amI_mono {μ : aM} {pc : Nat} {L S : List aV} {h : aH} {i : Instr} {q : aC} (hi : amI μ pc L S h i = some q) : hnx h ≤ hnx q.2.2.2 ∧ hks h ≤ hks q.2.2.2 := by
  have k1 : ∀ (q : aC), q.2.2.2 = h → hnx h ≤ hnx q.2.2.2 ∧ hks h ≤ hks q.2.2.2 := fun q e => by rw [e]; exact ⟨Nat.le_refl _, Nat.le_refl _⟩
  cases i <;> (try (simp only [amI, reduceCtorEq] at hi; done)) <;> unfold amI at hi <;>
    simp only [am_ld, am_sv, am_st, am_ar, am_rm, am_bo, am_if1, am_if2, am_sw, am_gf, am_pf, am_nw, am_na1, am_na2, am_nm, am_al, am_il, am_is, am_ll, am_ls, am_rl, am_rs, am_i2l, am_lc, am_d1, am_d2, am_ic, am_ob, am_lc2, am_mn, Option.map_eq_some_iff] at hi <;>
    (repeat' split at hi) <;>
    first
    | (cases hi; done)
    | (cases hi; exact ⟨Nat.le_refl _, Nat.le_refl _⟩)
    | (cases hi; exact ⟨Nat.le_succ _, Nat.le_add_right _ _⟩)
    | (cases hi; constructor <;> simp only [hnx, hks, hml] <;> omega)
    | (rw [Option.map_eq_some_iff] at hi; obtain ⟨t, -, rfl⟩ := hi; exact ⟨Nat.le_refl _, Nat.le_refl _⟩)
    | (obtain ⟨t, -, rfl⟩ := hi; exact ⟨Nat.le_refl _, Nat.le_refl _⟩)
    | skip
theorem amX_mono : ∀ (n : Nat) (μ : aM) (pc : Nat) (L S : List aV) (h : aH) (r : aR), amX n μ pc L S h = some r → hnx h ≤ hnx r.2 ∧ hks h ≤ hks r.2
  | 0, μ, pc, L, S, h, r, hr => by cases hr
  | n + 1, μ, pc, L, S, h, r, hr => by
    unfold amX at hr
    split at hr
    · cases hr
    · rename_i i len hd
      split at hr
      · split at hr
        · split at hr
          · cases hr; exact ⟨Nat.le_refl _, Nat.le_refl _⟩
          · cases hr
        · split at hr
          · cases hr
            exact ⟨Nat.le_succ _, Nat.le_add_right _ 6⟩
          · split at hr
            · rename_i k ν hc
              split at hr
              · rename_i hok
                split at hr
                · cases hr
                · rename_i v h' hc2
                  have i1 := amX_mono n _ _ _ _ _ _ hc2
                  have i2 := amX_mono n _ _ _ _ _ _ hr
                  exact ⟨Nat.le_trans i1.1 i2.1, Nat.le_trans i1.2 i2.2⟩
                · rename_i E h' hc2
                  have i1 := amX_mono n _ _ _ _ _ _ hc2
                  split at hr
                  · cases hr; exact i1
                  · split at hr
                    · cases hr
                    · have i2 := amX_mono n _ _ _ _ _ _ hr
                      exact ⟨Nat.le_trans i1.1 i2.1, Nat.le_trans i1.2 i2.2⟩
              · cases hr
            · split at hr
              · cases hr
              · rename_i pc' L' S' h' hi
                have i1 := amI_mono hi
                have i2 := amX_mono n _ _ _ _ _ _ hr
                exact ⟨Nat.le_trans i1.1 i2.1, Nat.le_trans i1.2 i2.2⟩
      · cases hr
/-- what the end of a run owes: a return, a throw of its own, a throw of a callee's that isn't caught -/
def EN (Γ : aG) (μ : aM) (p : Program) (l : Launch) (e : Env) (R : Room) (s : State) (m : MethodId) (args : Array Value) (below : List Frame) (meth : Method) (c : Code) (r : aR) (C' S' : Nat) (Q : State → Prop) : Prop :=
  (∀ (v : Option aV) (H' : Heap) (locs' : List Loc) (ls' : Array Slot) (pc' : Nat) (i : Instr), r.1 = .inl v → HP Γ r.2 H' → LC Γ locs' → (∀ w, v = some w → okv w) → am_okr (am_rt μ) v = true → decode (am_cc μ) pc' = .ok (i, 1) → am_ret i v.toList = some v → W p l e R s m args below meth c H' locs' C' S' Q (F0 m pc' ls' (v.toList.map rv))) ∧
  (∀ (k : Nat) (h' : aH) (H' : Heap) (locs' : List Loc) (ls' : Array Slot) (pc' : Nat) (st : List aV) (cells' slots' ik is ic : Nat), r = (.inr k, hth h') → HP Γ h' H' → LC Γ locs' → ls'.size = am_mx μ → s.heap.size ≤ hnx h' → cells' + 1 = C' → slots' + 6 = S' → ((ik, is, ic), k) ∈ am_xrT (am_own μ) →
    decode (am_cc μ) pc' = .ok (.new ik, 3) → decode (am_cc μ) (pc' + 3) = .ok (.dup, 1) → decode (am_cc μ) (pc' + 4) = .ok (.ldc is, 2) → decode (am_cc μ) (pc' + 6) = .ok (.invokespecial ic, 3) → decode (am_cc μ) (pc' + 9) = .ok (.athrow, 1) → am_hh μ = [] → am_wd st ≤ 8 → 6 ≤ am_nF μ → 90 ≤ am_nL μ →
    W p l e R s m args below meth c H' locs' cells' slots' Q (F0 m pc' ls' (st.map rv))) ∧
  (∀ (k : Nat) (H' : Heap) (locs' : List Loc) (ls' : Array Slot) (pc' : Nat) (st : List Value) (q : Addr) (ce : Cell), r.1 = .inr k → 1 ≤ k → k ≤ 3 → HP Γ r.2 H' → LC Γ locs' → am_hd (am_hh μ) pc' k = none → H'[q]? = some ce → ce.vm = .none → s.vm.findClass (am_xn k) = some ce.cls → vx_W p l e R s m args below meth c H' locs' C' S' Q (F0 m pc' ls' st) q)
abbrev hhOK (μ : aM) : Prop := ∀ q ∈ am_hh μ, 1 ≤ am_ct q.2.2.2 ∧ am_own μ = 9
def Snd (Γ : aG) (l : Launch) (n : Nat) : Prop := ∀ (μ : aM) (pc : Nat) (L S : List aV) (h : aH) (r : aR), amX n μ pc L S h = some r → hhOK μ →
  ∀ (p : Program) (e : Env) (R : Room) (s : State) (m : MethodId) (args : Array Value) (below : List Frame) (meth : Method) (c : Code) (H : Heap) (locs : List Loc) (cells slots C' S' : Nat) (Q : State → Prop) (ls : Array Slot),
  CX Γ μ p R s m args meth c → HP Γ h H → LC Γ locs → LH ls (am_mx μ) L → (∀ v ∈ S, okv v) → s.heap.size ≤ hnx h → cells + (hnx r.2 - hnx h) = C' → slots + (hks r.2 - hks h) = S' → C' ≤ R.cells → S' ≤ R.slots →
  EN Γ μ p l e R s m args below meth c r C' S' Q → W p l e R s m args below meth c H locs cells slots Q (F0 m pc ls (S.map rv))
theorem am_ret_spec {i : Instr} {S : List aV} {v : Option aV} (h : am_ret i S = some v) : S = v.toList ∧ (i = .ireturn ∨ i = .areturn ∨ i = .return_) := by
  unfold am_ret at h
  split at h
  · cases h; exact ⟨rfl, Or.inl rfl⟩
  · cases h; exact ⟨rfl, Or.inr (Or.inl rfl)⟩
  · cases h; exact ⟨rfl, Or.inr (Or.inr rfl)⟩
  · cases h
theorem am_thr_spec {μ : aM} {pc : Nat} {i : Instr} {S : List aV} {E : Nat} (h : am_thr μ pc i S = some E) : ∃ ik is ic, i = .new ik ∧ decode (am_cc μ) (pc + 3) = .ok (.dup, 1) ∧ decode (am_cc μ) (pc + 4) = .ok (.ldc is, 2) ∧ decode (am_cc μ) (pc + 6) = .ok (.invokespecial ic, 3) ∧ decode (am_cc μ) (pc + 9) = .ok (.athrow, 1) ∧ am_hh μ = [] ∧ am_wd S ≤ 8 ∧ 6 ≤ am_nF μ ∧ 90 ≤ am_nL μ ∧ ((ik, is, ic), E) ∈ am_xrT (am_own μ) := by
  unfold am_thr at h
  split at h
  · rename_i ik
    split at h
    · rename_i is ic d3 d4 d6 d9
      split at h
      · rename_i hc
        exact ⟨ik, is, ic, rfl, d3, d4, d6, d9, hc.1, hc.2.1, hc.2.2.1, hc.2.2.2, am_lk3_mem h⟩
      · cases h
    · cases h
  · cases h
theorem am_call_spec {o : Nat} {i : Instr} {k : Nat} {ν : aM} (h : am_call o i = some (k, ν)) : ∃ ix, (ix, (k, ν)) ∈ am_mrT o ∧ (k = 0 ∧ i = .invokestatic ix ∨ k = 1 ∧ i = .invokevirtual ix ∨ (k = 2 ∨ k = 3) ∧ i = .invokespecial ix) := by
  unfold am_call at h
  split at h
  · rename_i ix
    split at h
    · rename_i ν' hl
      cases h
      exact ⟨ix, am_lk_mem hl, Or.inl ⟨rfl, rfl⟩⟩
    · cases h
  · rename_i ix
    split at h
    · rename_i ν' hl
      cases h
      exact ⟨ix, am_lk_mem hl, Or.inr (Or.inl ⟨rfl, rfl⟩)⟩
    · cases h
  · rename_i ix
    split at h
    · rename_i ν' hl
      cases h
      exact ⟨ix, am_lk_mem hl, Or.inr (Or.inr ⟨Or.inl rfl, rfl⟩)⟩
    · rename_i ν' hl
      cases h
      exact ⟨ix, am_lk_mem hl, Or.inr (Or.inr ⟨Or.inr rfl, rfl⟩)⟩
    · cases h
  · cases h
theorem hd_none : ∀ {hh : List (Nat × Nat × Nat × Nat)} {pc E : Nat}, am_hd hh pc E = none → ∀ z ∈ hh, ¬ (z.1 ≤ pc ∧ pc < z.2.1 ∧ am_ct z.2.2.2 = E)
  | [], pc, E, h, z, hz => by cases hz
  | (a, b, t, k) :: r, pc, E, h, z, hz => by
    unfold am_hd at h
    split at h
    · cases h
    · rename_i hc
      rcases List.mem_cons.mp hz with rfl | hz
      · exact hc
      · exact hd_none h z hz
theorem hd_some : ∀ {hh : List (Nat × Nat × Nat × Nat)} {pc E t : Nat}, am_hd hh pc E = some t → ∃ pre x suf, hh = pre ++ x :: suf ∧ (∀ z ∈ pre, ¬ (z.1 ≤ pc ∧ pc < z.2.1 ∧ am_ct z.2.2.2 = E)) ∧ (x.1 ≤ pc ∧ pc < x.2.1 ∧ am_ct x.2.2.2 = E) ∧ x.2.2.1 = t
  | [], pc, E, t, h => by cases h
  | (a, b, t', k) :: r, pc, E, t, h => by
    unfold am_hd at h
    split at h
    · rename_i hc
      cases h
      exact ⟨[], _, r, rfl, (fun _ h => absurd h List.not_mem_nil), hc, rfl⟩
    · rename_i hc
      obtain ⟨pre, x, suf, h1, h2, h3, h4⟩ := hd_some h
      refine ⟨_ :: pre, x, suf, by rw [h1]; rfl, fun z hz => ?_, h3, h4⟩
      rcases List.mem_cons.mp hz with rfl | hz
      · exact hc
      · exact h2 z hz
theorem lv_args_mem : ∀ {As : List aV} {i : Nat}, As.all am_c1 = true → ∀ {k : Nat} {v : aV}, As[k]? = some v → (i + k, rv v) ∈ lv_args i (As.map rv)
  | [], i, _, k, v, h => by simp at h
  | w :: As, i, hc, k, v, h => by
    rw [List.all_cons, Bool.and_eq_true] at hc
    have e : lv_args i ((w :: As).map rv) = (i, rv w) :: lv_args (i + 1) (As.map rv) := by
      show (i, rv w) :: lv_args (if (rv w).category = 2 then i + 2 else i + 1) (As.map rv) = _
      rw [if_neg (by rw [rv_cat hc.1]; omega)]
    rw [e]
    cases k with
    | zero =>
      rw [List.getElem?_cons_zero] at h
      cases h
      exact List.mem_cons_self
    | succ k =>
      rw [List.getElem?_cons_succ] at h
      have := lv_args_mem (i := i + 1) hc.2 h
      rw [show i + (k + 1) = i + 1 + k by omega]
      exact List.mem_cons_of_mem _ this
theorem sl_len : ∀ {As : List aV}, As.all am_c1 = true → (lg_sl (As.map rv)).length = As.length
  | [], _ => rfl
  | w :: As, hc => by
    rw [List.all_cons, Bool.and_eq_true] at hc
    have ih := sl_len hc.2
    unfold lg_sl at ih ⊢
    rw [List.map_cons, List.flatMap_cons, List.length_append, ih, if_neg (by rw [rv_cat hc.1]; omega)]
    simp
    omega
theorem LH.entry {As : List aV} {n : Nat} (hc : As.all am_c1 = true) (ho : ∀ v ∈ As, okv v) (hn : As.length ≤ n) : LH ((lg_sl (As.map rv) ++ List.replicate (n - (lg_sl (As.map rv)).length) Slot.unset).toArray) n As := by
  refine LH.of (lv_entry (As.map rv) (by rw [sl_len hc]; exact hn)) hn fun k v hv => ⟨?_, List.all_eq_true.mp hc v (List.mem_of_getElem? hv), ho v (List.mem_of_getElem? hv)⟩
  have := lv_args_mem (i := 0) hc hv
  rwa [Nat.zero_add] at this
/-- a callee's contract out of its run -/
def cPc (Γ : aG) (As : List aV) (h : aH) : Array Value → State → Prop := fun a U => a = (As.map rv).toArray ∧ GL Γ U ∧ HP Γ h U.heap
def cQc (Γ : aG) (r : aR) : Array Value → State → Outcome → State → Prop := fun _ _ o t => ∃ v : Option aV, r.1 = .inl v ∧ o = .returned (v.map rv) ∧ HP Γ r.2 t.heap ∧ ∀ w, v = some w → okv w
def cXC (Γ : aG) (r : aR) : String → State → State → Prop := fun E _ t => ∃ k : Nat, r.1 = .inr k ∧ E = am_xn k ∧ 1 ≤ k ∧ k ≤ 3 ∧ HP Γ r.2 t.heap
theorem tw_hh : ∀ o, ∀ e ∈ am_mrT o, hhOK e.2.2 :=
  c9 (c8 (by decide +kernel) (by decide +kernel) (by decide +kernel) (by decide +kernel) (by decide +kernel) (by decide +kernel) (by decide +kernel) (by decide +kernel) (by decide +kernel)) (by decide +kernel) (fun c e he => by cases he)
theorem okr_cases {t : Option FieldType} {v : Option aV} (h : am_okr t v = true) : (t = none ∧ v = none) ∨ (t = some .int ∧ ∃ x, v = some (.inl x)) ∨ (t = some .boolean ∧ ∃ x : Int, v = some (.inl x) ∧ (x = 0 ∨ x = 1)) ∨ ((∃ n, t = some (.object n)) ∧ ∃ a, v = some (.inr (.inr a))) := by
  unfold am_okr at h
  split at h
  · exact Or.inl ⟨rfl, rfl⟩
  · exact Or.inr (Or.inl ⟨rfl, _, rfl⟩)
  · exact Or.inr (Or.inr (Or.inl ⟨rfl, _, rfl, of_decide_eq_true h⟩))
  · exact Or.inr (Or.inr (Or.inr ⟨⟨_, rfl⟩, _, rfl⟩))
  · cases h
section CT
variable {Γ : aG} {μ : aM} {p : Program} {l : Launch} {e : Env} {R : Room} {s : State} {m : MethodId} {args : Array Value} {below : List Frame} {meth : Method} {c : Code} {r : aR} {C' S' : Nat}
/-- a method's end, towards any caller -/
theorem EN.met (F : SF Γ) (hfl : l.stackTraces = false) (C : CX Γ μ p R s m args meth c) (hh : hhOK μ) (hC' : C' ≤ R.cells) (hS' : S' ≤ R.slots) : EN Γ μ p l e R s m args below meth c r C' S' (vx_MQ below (cQc Γ r) (cXC Γ r) args s C' S' (fun q => gb Γ ≤ q)) := by
  have ha := C.2.2.2.2.2.2.2.2.2.2.1.alike
  refine ⟨?_, ?_, ?_⟩
  · intro v H' locs' ls' pc' i hr hP hC ho hok hd hret
    refine vx_ret ?_
    have key : ∀ (o : Option Value), o = v.map rv → ∀ t : State, t.heap = H' → s.WarmedH t.vm → cQc Γ r args s (.returned o) t := fun o e t ht _ => ⟨v, hr, by rw [e], by rw [ht]; exact hP, ho⟩
    rcases okr_cases hok with ⟨h1, rfl⟩ | ⟨h1, x, rfl⟩ | ⟨h1, x, rfl, hx⟩ | ⟨⟨n, h1⟩, a, rfl⟩
    · have hi : i = .return_ := by
        rcases (am_ret_spec hret).2 with rfl | rfl | rfl
        · cases hret
        · cases hret
        · rfl
      subst hi
      exact W.vret C.1 C.2.1 (C.2.2.1.trans h1) (key none rfl) hC hd C.2.2.2.2.2.1
    · have hi : i = .ireturn := by
        rcases (am_ret_spec hret).2 with rfl | rfl | rfl
        · rfl
        · cases hret
        · cases hret
      subst hi
      exact W.iret C.1 C.2.1 (C.2.2.1.trans h1) (key (some (.int (Int32.ofInt x))) rfl) hC hd C.2.2.2.2.2.1
    · have hi : i = .ireturn := by
        rcases (am_ret_spec hret).2 with rfl | rfl | rfl
        · rfl
        · cases hret
        · cases hret
      subst hi
      exact W.zret C.1 C.2.1 (C.2.2.1.trans h1) (by rcases hx with rfl | rfl <;> rfl) (key (some (.int (Int32.ofInt x))) rfl) hC hd C.2.2.2.2.2.1
    · have hi : i = .areturn := by
        rcases (am_ret_spec hret).2 with rfl | rfl | rfl
        · cases hret
        · rfl
        · cases hret
      subst hi
      exact W.aret (v := .ref a) C.1 C.2.1 (C.2.2.1.trans h1) (Or.inl ⟨n, rfl⟩) (Or.inr ⟨a, rfl⟩) (key (some (.ref a)) rfl) hC hd C.2.2.2.2.2.1
  · intro k h' H' locs' ls' pc' st cells' slots' ik is ic hr hP hC hls hz hc hs hx d0 d3 d4 d6 d9 hhe hwd hF hL
    subst hr
    obtain ⟨ho, hcase⟩ := tw_xe _ _ hx
    obtain ⟨sa, tx, hstr⟩ := F.2.2.2.2.2.2.2.1 _ _ hx
    have hown : s.vm.findClass RX7 = some m.cls := by have h9 := C.2.2.2.2.1; rw [ho] at h9; exact h9
    have f1 := C.2.2.2.2.2.2.2.2.1
    have f2 := C.2.2.2.2.2.2.2.2.2.1
    have hG := C.2.2.2.2.2.2.2.2.2.2
    have hU : vx_Zq Bundle.tN "UNASSIGNED_STACK" Bundle.steD (fun q => gb Γ ≤ q) s s.heap := vx_Zq.moved ha (F.2.2.2.2.2.2.2.2.1.kept fun q h1 h2 => hG.2.2 q h1)
    have hN : vx_Zq Bundle.tN "SUPPRESSED_SENTINEL" Bundle.listD (fun q => gb Γ ≤ q) s s.heap := vx_Zq.moved ha (F.2.2.2.2.2.2.2.2.2.1.kept fun q h1 h2 => hG.2.2 q h1)
    have hS : va_S (fun q => gb Γ ≤ q) s.heap H' locs' := ⟨by rw [hP.size]; exact hz, fun q h1 h2 => by
      have h3 : q < gb Γ := Nat.not_le.mp h2
      rw [hP.2.2.1 q h3, hG.2.2 q h3], hC⟩
    have hout : ∀ x ∈ c.exceptionTable.toList, covers x (pc' + 9) = false := fun x hx => by
      rw [C.2.2.2.2.2.2.1, hhe] at hx
      cases hx
    have hxx : ∀ (k : Nat), (.inr k : Option aV ⊕ Nat) = (.inr k : Option aV ⊕ Nat) → 1 ≤ k → k ≤ 3 → ∀ t : State, s.vm.Alike t.vm → t.heap.size = H'.size + 1 → (∀ q : Nat, q < H'.size → t.heap[q]? = H'[q]?) → cXC Γ (.inr k, hth h') (am_xn k) s t := fun k _ k1 k3 t _ h1 h2 => ⟨k, rfl, rfl, k1, k3, hP.thrown h1 h2⟩
    have go : ∀ (E : Nat), 1 ≤ E → E ≤ 3 → k = E → Bundle.fit (am_xn E) = true → (Cond.classLink RX7 ik (am_xn E) ∈ lw_tbl ∧ Cond.initialized (am_xn E) ∈ lw_tbl ∧ ∀ w ∈ vx_atS RX7 ic (am_xn E) ["java/lang/RuntimeException", "java/lang/Exception"], w ∈ lw_tbl ∧ vx_ot w = true ∧ (goodWord w || am_dc w) = true) → W p l e R s m args below meth c H' locs' cells' slots' (vx_MQ below (cQc Γ (.inr k, hth h')) (cXC Γ (.inr k, hth h')) args s C' S' (fun q => gb Γ ≤ q)) (F0 m pc' ls' (st.map rv)) := by
      intro E e1 e3 hk hfit tw
      subst hk
      have hat : ∀ w ∈ vx_atS RX7 ic (am_xn k) ["java/lang/RuntimeException", "java/lang/Exception"], w.before args s = true := by
        intro w hw
        obtain ⟨g1, -, g2⟩ := tw.2.2 w hw
        rw [Bool.or_eq_true] at g2
        rcases g2 with g2 | g2
        · exact F.tb C g1 g2
        · exact F.2.2.2.2.2.2.2.2.2.2.2.2 w g1 g2 args s hG.1
      exact vt_throwS (names := ["java/lang/RuntimeException", "java/lang/Exception"]) C.1 C.2.1 hfl hown hfit (by decide +kernel) (F.tb C tw.1 rfl) (F.tb C tw.2.1 rfl) (by
          have h9 := vk_R.warm hG.1 hstr
          rw [ho] at h9
          exact h9) hat (fun w hw => by
          rcases List.mem_cons.mp hw with rfl | hw
          · rfl
          · rcases List.mem_cons.mp hw with rfl | hw
            · rfl
            · exact (tw.2.2 w hw).2.1) hU hN hS (hls.trans C.2.2.2.1.symm) d0 d3 d4 d6 d9 hout (by show 2 + 3 < R.frames; omega) (by rw [rv_wd]; show am_wd st + (13 * (2 + 1) + 43) ≤ R.locals; omega) (by omega) (by omega) C.2.2.2.2.2.1
        (hxx k rfl e1 e3) hC (by omega) (by omega)
    rcases hcase with ⟨c1, c2, c3⟩ | ⟨c1, c2, c3⟩ | ⟨c1, c2, c3⟩
    · refine go 1 (by omega) (by omega) c3 (by decide +kernel) ?_
      dsimp only at c1 c2
      rw [c1, c2]
      exact tw_x1
    · refine go 2 (by omega) (by omega) c3 (by decide +kernel) ?_
      dsimp only at c1 c2
      rw [c1, c2]
      exact tw_x2
    · refine go 3 (by omega) (by omega) c3 (by decide +kernel) ?_
      dsimp only at c1 c2
      rw [c1, c2]
      exact tw_x3
  · intro k H' locs' ls' pc' st q ce hr k1 k3 hP hC hhd hcell hv hcl
    refine vx_outP C.2.2.2.2.1 C.2.2.2.2.2.1 (fun z hz => ?_) hcell hv hcl (fun t ht _ => ⟨k, hr, rfl, k1, k3, by rw [ht]; exact hP⟩) hC (Nat.le_refl _) (Nat.le_refl _)
    rw [C.2.2.2.2.2.2.1] at hz
    obtain ⟨z0, hz0, rfl⟩ := List.mem_map.mp hz
    obtain ⟨hct, ho⟩ := hh z0 hz0
    have hn := hd_none hhd z0 hz0
    by_cases hcov : z0.1 ≤ pc' ∧ pc' < z0.2.1
    · obtain ⟨w1, w2, w3⟩ := tw_h _ hct
      refine Or.inr ⟨w3, _, F.tb C (by rw [ho]; exact w1) rfl, va_Nc.moved ha (F.2.2.2.2.2.2.2.2.2.2.2.1 k z0.2.2.2 k1 k3 hct (fun z => hn ⟨hcov.1, hcov.2, z.symm⟩))⟩
    · left
      by_cases h1 : z0.1 ≤ pc'
      · have h2 : ¬ pc' < z0.2.1 := fun z => hcov ⟨h1, z⟩
        simp [covers, h2]
      · simp [covers, h1]
end CT
end
section
/-! ===== BEGIN a constructor that throws (launches without stack traces) ===== -/
section VXIA
variable {p : Program} {l : Launch} {e : Env} {R : Room} {s : State} {m : MethodId} {args : Array Value} {below : List Frame} {meth : Method} {c : Code} {T : State} {locs : List Loc} {cells slots : Nat}
theorem vx_callI (X : Stand p l e R s m args below meth c T locs cells slots) (hexec : p.tables.exec = Jvm.exec) {own : String} {index : Nat} {y : MethodName} {bytes : ByteArray} {maxL : Nat}
    (hown : s.vm.findClass own = some m.cls) (hy1 : y.name = "<init>") (hlink : (Cond.methodLink own index y).before args s = true) (hinst : (Cond.instanceMethod y).before args s = true)
    (hcode : (Cond.code y bytes maxL none).before args s = true) (hy : y.cls ≠ "java/lang/invoke/MethodHandle" ∧ y.cls ≠ "java/lang/invoke/VarHandle")
    {W9 : Nat} {Pre : Pt → Array Value → Prop} {Post : Pt → Array Value → Option Value → Pt → Prop} {PostX : Pt → Array Value → Addr → Pt → Prop} (hK : vx_Back l R p e below s args y 3 W9 Pre Post PostX)
    {g : JFrame} (hg : g.method = m) (hsize : g.locals.size = c.maxLocals) {a : Addr} {argsL rest : List Value} (hlen : ∀ sig, parseMethodDescriptor y.desc = some sig → argsL.length = sig.parameters.length)
    (hstack : g.stack = argsL.reverse ++ .ref a :: rest) (hW : 2 * g.monitorRoom + (rest.map fun v => v.category).sum ≤ W9) (hdg : decode c.code g.pc = .ok (.invokespecial index, 3))
    (hpre : ∀ vm₁, s.WarmedH vm₁ → Pre ⟨T.setVm vm₁, locs, cells, slots⟩ (Value.ref a :: argsL).toArray) :
    (∃ (v : Option Value) (vm₁ : Vm) (B : Pt), s.WarmedH vm₁ ∧ Stand p l e R s m args below meth c B.U B.locs B.cells B.slots ∧ Post ⟨T.setVm vm₁, locs, cells, slots⟩ (Value.ref a :: argsL).toArray v B ∧
      ∀ target, Steps p.tables e below (B.U.setTop { g with pc := g.pc + 3, stack := v.toList ++ rest }) target → Steps p.tables e below (T.setTop g) target) ∨
    (∃ (q : Addr) (vm₁ : Vm) (B : Pt), s.WarmedH vm₁ ∧ Stand p l e R s m args below meth c B.U B.locs B.cells B.slots ∧ PostX ⟨T.setVm vm₁, locs, cells, slots⟩ (Value.ref a :: argsL).toArray q B ∧
      Steps p.tables e below (T.setTop g) ((B.U.setTop { g with stack := rest }).pushFrame (.throwing q))) := by
  subst hg
  have hpl : e.platform.magicAccessors = ({} : Platform).magicAccessors := by rw [X.admits.platform]
  obtain ⟨mk, methM, cM, kP, vm₁, hnamed, hmethM, hcodeM, -, hlocalsM, -, hkP, -, hW₁, hstep₁⟩ := Steps.initColdArgs (e := e) X.here hexec X.warmed hpl hown hy1 hy hlink hinst hcode (f := g) rfl hlen hstack hdg
  have X₁ := X.noted hW₁
  rcases hK g.method meth c ⟨T.setVm vm₁, locs, cells, slots⟩ { g with stack := rest } (.invokespecial index) mk (Value.ref a :: argsL).toArray X₁ rfl hsize hdg hW (X₁.named hnamed) (hpre vm₁ X₁.warmed) with ⟨v, B, X', hpost, hsteps⟩ | ⟨q, B, X', hpost, hsteps⟩
  · exact Or.inl ⟨v, vm₁, B, X₁.warmed, X', hpost, fun target h => hstep₁ _ fun acts => by rw [doInvoke_state]; exact hsteps.trans h⟩
  · exact Or.inr ⟨q, vm₁, B, X₁.warmed, X', hpost, hstep₁ _ fun acts => by rw [doInvoke_state]; exact hsteps⟩
end VXIA
section VXIB
variable {p : Program} {l : Launch} {e : Env} {R : Room} {s : State} {m : MethodId} {args : Array Value} {below : List Frame} {meth : Method} {c : Code} {H : Heap} {locs : List Loc} {cells slots : Nat}
variable {y : MethodName} {bytes cc : ByteArray} {maxL nL mc ms n index : Nat} {ret : Option FieldType} {ws : List Cond} {rm : Room} {Pc : Array Value → State → Prop} {Qc : Array Value → State → Outcome → State → Prop} {XC : String → State → State → Prop} {free : Addr → Prop} {Ts : List Cond} {own C : String} {b : Addr} {As rest : List Value} {g : JFrame}
theorem vx_runI (S : CallFix p m c cc nL s args Ts own) (hM : vx_Met l y ws rm Pc Qc XC mc ms free) (cw : CallB R s args own index y bytes maxL none ws rm mc ms n ∧ y.name = "<init>" ∧ (Cond.instanceMethod y).before args s = true) (hp : PreS s H Pc (.ref b :: As))
    (hg : g.method = m) (hn : As.length = n) (hsize : g.locals.size = nL) (hstack : g.stack = As.reverse ++ .ref b :: rest) (hW : 2 * g.monitorRoom + (rest.map fun v => v.category).sum ≤ 8) (hdg : decode cc g.pc = .ok (.invokespecial index, 3)) (hf : cells + mc ≤ R.cells ∧ slots + ms ≤ R.slots) :
    vx_Run p l e R s m args below meth c H locs cells slots mc ms g rest (Qc (Value.ref b :: As).toArray) XC free := by
  have hK : vx_Back l R p e below s args y 3 8 (PreOf R mc ms Pc) (PostOf Qc mc ms free) (vx_Post XC mc ms free) := vx_callBack cw.1 hM hp.1
  obtain ⟨⟨-, -, -, -, -, -, hcode, -, hy, hlen, hl⟩, hy1, hin⟩ := cw
  obtain ⟨hx, hb, hml, ho, -⟩ := S
  have hPc := hp.2
  intro T hT X
  rcases vx_callI X hx (bytes := bytes) (maxL := maxL) ho hy1 hl hin hcode hy hK hg (hsize.trans hml.symm) (a := b) (argsL := As) (rest := rest) (fun sig h => hn.trans (hlen sig h)) hstack hW (by rw [hb]; exact hdg)
    (fun vm₁ hW₁ => ⟨hf.1, hf.2, hPc (T.setVm vm₁) hT hW₁⟩) with ⟨v, vm₁, ⟨U', l2, c2, s2⟩, hW₁, X', ⟨g', mk, t, L, e1, e2, hq, h1, hL, h2, h3⟩, st⟩ | ⟨q, vm₁, ⟨U', l2, c2, s2⟩, hW₁, X', ⟨g', mk, t, L, E, ce, e1, e2, hq, hce, hcv, hcl, h1, hL, h2, h3⟩, st⟩
  · dsimp only [Pt.U, Pt.locs, Pt.cells, Pt.slots] at X' e1 e2 h1 h2 h3 st
    subst h1; subst h2; subst h3
    exact Or.inl ⟨v, (T.setVm vm₁).calling g' mk (Value.ref b :: As).toArray, t, U', L, hT, X', hL, e1, e2, hq, st⟩
  · dsimp only [Pt.U, Pt.locs, Pt.cells, Pt.slots] at X' e1 e2 h1 h2 h3 st hcl
    subst h1; subst h2; subst h3
    exact Or.inr ⟨q, (T.setVm vm₁).calling g' mk (Value.ref b :: As).toArray, t, U', L, E, ce, hT, X', hL, e1, e2, hq, hce, hcv, vx_cls hW₁ hcl, st⟩
end VXIB
/-! ===== END ===== -/
/-! ===== BEGIN a private constructor of a nest mate that throws ===== -/
section VXIC
variable {p : Program} {l : Launch} {e : Env} {R : Room} {s : State} {m : MethodId} {args : Array Value} {below : List Frame} {meth : Method} {c : Code} {T : State} {locs : List Loc} {cells slots : Nat}
theorem vx_callIN (X : Stand p l e R s m args below meth c T locs cells slots) (hexec : p.tables.exec = Jvm.exec) {own : String} {index : Nat} {host : String} {y : MethodName} {bytes : ByteArray} {maxL : Nat}
    (hown : s.vm.findClass own = some m.cls) (hy1 : y.name = "<init>") (hlink : (Cond.methodLinkNest own index y host).before args s = true) (hinst : (Cond.instanceMethod y).before args s = true)
    (hcode : (Cond.code y bytes maxL none).before args s = true) (hy : y.cls ≠ "java/lang/invoke/MethodHandle" ∧ y.cls ≠ "java/lang/invoke/VarHandle")
    {W9 : Nat} {Pre : Pt → Array Value → Prop} {Post : Pt → Array Value → Option Value → Pt → Prop} {PostX : Pt → Array Value → Addr → Pt → Prop} (hK : vx_Back l R p e below s args y 3 W9 Pre Post PostX)
    {g : JFrame} (hg : g.method = m) (hsize : g.locals.size = c.maxLocals) {a : Addr} {argsL rest : List Value} (hlen : ∀ sig, parseMethodDescriptor y.desc = some sig → argsL.length = sig.parameters.length)
    (hstack : g.stack = argsL.reverse ++ .ref a :: rest) (hW : 2 * g.monitorRoom + (rest.map fun v => v.category).sum ≤ W9) (hdg : decode c.code g.pc = .ok (.invokespecial index, 3))
    (hpre : ∀ vm₁, s.WarmedH vm₁ → Pre ⟨T.setVm vm₁, locs, cells, slots⟩ (Value.ref a :: argsL).toArray) :
    (∃ (v : Option Value) (vm₁ : Vm) (B : Pt), s.WarmedH vm₁ ∧ Stand p l e R s m args below meth c B.U B.locs B.cells B.slots ∧ Post ⟨T.setVm vm₁, locs, cells, slots⟩ (Value.ref a :: argsL).toArray v B ∧
      ∀ target, Steps p.tables e below (B.U.setTop { g with pc := g.pc + 3, stack := v.toList ++ rest }) target → Steps p.tables e below (T.setTop g) target) ∨
    (∃ (q : Addr) (vm₁ : Vm) (B : Pt), s.WarmedH vm₁ ∧ Stand p l e R s m args below meth c B.U B.locs B.cells B.slots ∧ PostX ⟨T.setVm vm₁, locs, cells, slots⟩ (Value.ref a :: argsL).toArray q B ∧
      Steps p.tables e below (T.setTop g) ((B.U.setTop { g with stack := rest }).pushFrame (.throwing q))) := by
  subst hg
  have hpl : e.platform.magicAccessors = ({} : Platform).magicAccessors := by rw [X.admits.platform]
  obtain ⟨mk, methM, cM, kP, vm₁, hnamed, hmethM, hcodeM, -, hlocalsM, -, hkP, -, hW₁, hstep₁⟩ := Steps.initColdArgsNest (e := e) X.here hexec X.warmed hpl hown hy1 hy hlink hinst hcode (f := g) rfl hlen hstack hdg
  have X₁ := X.noted hW₁
  rcases hK g.method meth c ⟨T.setVm vm₁, locs, cells, slots⟩ { g with stack := rest } (.invokespecial index) mk (Value.ref a :: argsL).toArray X₁ rfl hsize hdg hW (X₁.named hnamed) (hpre vm₁ X₁.warmed) with ⟨v, B, X', hpost, hsteps⟩ | ⟨q, B, X', hpost, hsteps⟩
  · exact Or.inl ⟨v, vm₁, B, X₁.warmed, X', hpost, fun target h => hstep₁ _ fun acts => by rw [doInvoke_state]; exact hsteps.trans h⟩
  · exact Or.inr ⟨q, vm₁, B, X₁.warmed, X', hpost, hstep₁ _ fun acts => by rw [doInvoke_state]; exact hsteps⟩
end VXIC
section VXID
variable {p : Program} {l : Launch} {e : Env} {R : Room} {s : State} {m : MethodId} {args : Array Value} {below : List Frame} {meth : Method} {c : Code} {H : Heap} {locs : List Loc} {cells slots : Nat}
theorem vx_runIN {y : MethodName} {bytes cc : ByteArray} {maxL nL mc ms n index : Nat} {ws : List Cond} {rm : Room} {Pc : Array Value → State → Prop} {Qc : Array Value → State → Outcome → State → Prop} {XC : String → State → State → Prop} {free : Addr → Prop} {Ts : List Cond} {own host : String} {b : Addr} {As rest : List Value} {g : JFrame}
    (S : CallFix p m c cc nL s args Ts own) (hM : vx_Met l y ws rm Pc Qc XC mc ms free) (cw : va_CN R s args own index y host bytes maxL none ws rm mc ms n ∧ y.name = "<init>" ∧ (Cond.instanceMethod y).before args s = true) (hp : PreS s H Pc (.ref b :: As))
    (hg : g.method = m) (hn : As.length = n) (hsize : g.locals.size = nL) (hstack : g.stack = As.reverse ++ .ref b :: rest) (hW : 2 * g.monitorRoom + (rest.map fun v => v.category).sum ≤ 8) (hdg : decode cc g.pc = .ok (.invokespecial index, 3)) (hf : cells + mc ≤ R.cells ∧ slots + ms ≤ R.slots) :
    vx_Run p l e R s m args below meth c H locs cells slots mc ms g rest (Qc (Value.ref b :: As).toArray) XC free := by
  obtain ⟨⟨⟨hrc, hrs, hfr, hlo, hws, hcw⟩, hcode, hini, hy, hlen, hl⟩, hx1, hx2⟩ := cw
  have hK : vx_Back l R p e below s args y 3 8 (PreOf R mc ms Pc) (PostOf Qc mc ms free) (vx_Post XC mc ms free) := vx_back (bytes := bytes) (maxL := maxL) (ret := none) hM hp.1 hrc hrs hfr hlo hws hcw (fun a' U hW => word_at hW (Or.inl (by first | rfl | simp [Cond.onTables, Cond.keeps, Cond.steady])) hini)
  obtain ⟨hx, hb, hml, ho, -⟩ := S
  have hPc := hp.2
  intro T hT X
  rcases vx_callIN X hx (bytes := bytes) (maxL := maxL) ho hx1 hl hx2 hcode hy hK hg (hsize.trans hml.symm) (a := b) (argsL := As) (rest := rest) (fun sig h => hn.trans (hlen sig h)) hstack hW (by rw [hb]; exact hdg)
    (fun vm₁ hW₁ => ⟨hf.1, hf.2, hPc (T.setVm vm₁) hT hW₁⟩) with ⟨v, vm₁, ⟨U', l2, c2, s2⟩, hW₁, X', ⟨g', mk, t, L, e1, e2, hq, h1, hL, h2, h3⟩, st⟩ | ⟨q, vm₁, ⟨U', l2, c2, s2⟩, hW₁, X', ⟨g', mk, t, L, E, ce, e1, e2, hq, hce, hcv, hcl, h1, hL, h2, h3⟩, st⟩
  · dsimp only [Pt.U, Pt.locs, Pt.cells, Pt.slots] at X' e1 e2 h1 h2 h3 st
    subst h1; subst h2; subst h3
    exact Or.inl ⟨v, (T.setVm vm₁).calling g' mk (Value.ref b :: As).toArray, t, U', L, hT, X', hL, e1, e2, hq, st⟩
  · dsimp only [Pt.U, Pt.locs, Pt.cells, Pt.slots] at X' e1 e2 h1 h2 h3 st hcl
    subst h1; subst h2; subst h3
    exact Or.inr ⟨q, (T.setVm vm₁).calling g' mk (Value.ref b :: As).toArray, t, U', L, E, ce, hT, X', hL, e1, e2, hq, hce, hcv, vx_cls hW₁ hcl, st⟩
end VXID
/-! ===== END ===== -/
end
section
/-! CALLS, and the whole run -/
section CM
variable {Γ : aG} {l : Launch}
/-- a method's contract for one run of the abstract machine -/
theorem met_of {n : Nat} {ν : aM} {As : List aV} {h : aH} {r : aR} (F : SF Γ) (hfl : l.stackTraces = false) (ih : Snd Γ l n) (hx : amX n ν 0 As [] h = some r) (m1 : am_m1 ν) (hh : hhOK ν) (hc : As.all am_c1 = true) (ho : ∀ v ∈ As, okv v) (hn : As.length ≤ am_mx ν) :
    vx_Met l (am_y ν) (am_cw ν :: gW) { frames := am_nF ν, cells := hnx r.2 - hnx h, slots := hks r.2 - hks h, locals := am_nL ν } (cPc Γ As h) (cQc Γ r) (cXC Γ r) (hnx r.2 - hnx h) (hks r.2 - hks h) (fun q => gb Γ ≤ q) := by
  obtain ⟨-, -, -, hcls, hpl, -, -, -, hini⟩ := m1
  have body : ∀ (p : Program) (e : Env) (s : State) (m : MethodId) (args : Array Value) (below : List Frame) (meth : Method) (c : Code) (s₁ : State) (R : Room), R = { frames := am_nF ν, cells := hnx r.2 - hnx h, slots := hks r.2 - hks h, locals := am_nL ν } → p.tables.exec = Jvm.exec → c.code = am_cc ν → meth.sig.returnType = am_rt ν → c.maxLocals = am_mx ν → s.vm.findClass (am_y ν).cls = some m.cls → meth.locks = false → c.exceptionTable.toList = tableOf (am_hh ν) → meth.name = (am_y ν).name → cPc Γ As h args s →
      W p l e R s m args below meth c s.heap [] 0 0 (vx_MQ below (cQc Γ r) (cXC Γ r) args s (hnx r.2 - hnx h) (hks r.2 - hks h) (fun q => gb Γ ≤ q)) (entryFrame m args (am_mx ν)) := by
    intro p e s m args below meth c s₁ R hR b1 b2 b3 b4 b5 b6 b7 b8 hv
    obtain ⟨rfl, hG, hP⟩ := hv
    have C : CX Γ ν p R s m (As.map rv).toArray meth c := ⟨b1, b2, b3, b4, by rw [← hcls]; exact b5, b6, b7, fun z => by rw [b8]; exact hini z, by rw [hR]; exact Nat.le_refl _, by rw [hR]; exact Nat.le_refl _, hG⟩
    rw [lg_entry_eq]
    exact ih ν 0 As [] h r hx hh p e R s m (As.map rv).toArray below meth c s.heap [] 0 0 (hnx r.2 - hnx h) (hks r.2 - hks h) _ _ C hP (fun _ z => by cases z) (LH.entry hc ho hn) (fun _ z => by cases z) (by rw [hP.size]; exact Nat.le_refl _) (Nat.zero_add _) (Nat.zero_add _) (by rw [hR]; exact Nat.le_refl _) (by rw [hR]; exact Nat.le_refl _) (EN.met F hfl C hh (by rw [hR]; exact Nat.le_refl _) (by rw [hR]; exact Nat.le_refl _))
  by_cases he : am_hh ν = []
  · refine vx_ofW (cc := am_cc ν) (maxL := am_mx ν) (ret := am_rt ν) hpl (by rw [am_cw, if_pos he]) ?_
    intro p e s m args below meth c s₁ B hml ht hv
    refine body p e s m args below meth c s₁ _ rfl B.exec B.bytes B.returns hml (findClass_of_methodNamed B.named) B.notSynchronized ?_ (name_of_methodNamed B.named B.method).1 hv
    rw [he]
    cases h9 : c.exceptionTable.toList with
    | nil => rfl
    | cons x t => exact (ht x (by rw [h9]; exact List.mem_cons_self)).elim
  · have hcw : am_cw ν = .codeWith (am_y ν) (am_cc ν) (am_mx ν) (am_rt ν) (am_hh ν) := by rw [am_cw, if_neg he]
    refine vx_ofWH (cc := am_cc ν) (maxL := am_mx ν) (ret := am_rt ν) (hh := am_hh ν) hpl (by rw [hcw]) ?_
    intro p e s m args below meth c s₁ B hml hv
    refine body p e s m args below meth c s₁ _ rfl B.exec B.bytes B.returns hml (findClass_of_methodNamed B.named) B.notSynchronized ?_ (name_of_methodNamed B.named B.method).1 hv
    exact vx_table (x := am_y ν) B (atoms_spec (ws := am_cw ν :: gW) B.pre _ (by rw [hcw]; exact List.mem_cons_self))
theorem cPc_blind {As : List aV} {h : aH} : FrameBlind (cPc Γ As h) := fun a U g mk q => by
  obtain ⟨q1, q2, q3⟩ := q
  exact ⟨q1, q2, q3⟩
end CM
section CL
variable {Γ : aG} {μ : aM} {p : Program} {l : Launch} {e : Env} {R : Room} {s : State} {m : MethodId} {args : Array Value} {below : List Frame} {meth : Method} {c : Code} {H : Heap} {locs : List Loc} {cells slots : Nat} {Q : State → Prop}
variable {pc len : Nat} {ls : Array Slot} {L S : List aV} {h : aH}
theorem GL.warm {U : State} (hG : GL Γ s) (hP : HP Γ h H) (hU : U.heap = H) (hW : s.WarmedH U.vm) : GL Γ U := ⟨State.WarmedH.trans hG.1 hW, by rw [hU, hP.size]; exact hP.2.1, fun q hq => by rw [hU]; exact hP.2.2.1 q hq⟩
theorem split_rv (S : List aV) (n : Nat) : S.map rv = ((S.take n).reverse.map rv).reverse ++ (S.drop n).map rv := by
  rw [← List.map_reverse, List.reverse_reverse, ← List.map_append, List.take_append_drop]
theorem rc_spec {k : Nat} {ν : aM} {As : List aV} (hk : k ≠ 0) (hr : am_rc k ν As h = true) : ∃ (b : Nat) (As' : List aV), As = vR b :: As' ∧ (k = 1 → hsh h b = (am_own ν + 1, am_fN (am_own ν))) := by
  match k, As, hr with
  | 0, _, _ => exact absurd rfl hk
  | 1, .inr (.inr b) :: As', hr => exact ⟨b, As', rfl, fun _ => of_decide_eq_true hr⟩
  | k + 2, .inr (.inr b) :: As', hr => exact ⟨b, As', rfl, fun z => absurd z (by omega)⟩
  | 1, [], hr => cases hr
  | 1, .inl _ :: _, hr => cases hr
  | 1, .inr (.inl _) :: _, hr => cases hr
  | k + 2, [], hr => cases hr
  | k + 2, .inl _ :: _, hr => cases hr
  | k + 2, .inr (.inl _) :: _, hr => cases hr
/-- a call: it runs -/
theorem as_call {n k : Nat} {ν : aM} {i : Instr} {r : aR} (F : SF Γ) (hfl : l.stackTraces = false) (C : CX Γ μ p R s m args meth c) (hP : HP Γ h H) (hL : LH ls (am_mx μ) L) (hV : ∀ v ∈ S, okv v)
    (ih : Snd Γ l n) (hc : am_call (am_own μ) i = some (k, ν)) (hok : am_ok k μ ν S h) (hd : decode (am_cc μ) pc = .ok (i, 3)) (hx : amX n ν 0 (S.take (am_na ν)).reverse [] h = some r) (hC : cells + (hnx r.2 - hnx h) ≤ R.cells) (hS : slots + (hks r.2 - hks h) ≤ R.slots) :
    ∃ a : Array Value, vx_Run p l e R s m args below meth c H locs cells slots (hnx r.2 - hnx h) (hks r.2 - hks h) (F0 m pc ls (S.map rv)) ((S.drop (am_na ν)).map rv) (cQc Γ r a) (cXC Γ r) (fun q => gb Γ ≤ q) := by
  obtain ⟨ix, hmem, hcase⟩ := am_call_spec hc
  obtain ⟨o1, o2, o3, o4, o5, o6⟩ := hok
  have m1 : am_m1 ν := tw_m1 _ _ hmem
  have m2 : am_m2 (am_own μ) (ix, k, ν) := tw_m2 _ _ hmem
  have hh : hhOK ν := tw_hh _ _ hmem
  have hG := C.2.2.2.2.2.2.2.2.2.2
  have f1 := C.2.2.2.2.2.2.2.2.1
  have f2 := C.2.2.2.2.2.2.2.2.2.1
  have hlen : (S.take (am_na ν)).reverse.length = am_na ν := by rw [List.length_reverse, List.length_take]; omega
  have hM := met_of F hfl ih hx m1 hh (by rw [List.all_reverse]; exact o5) (fun v hv => hV v (List.mem_of_mem_take (List.mem_reverse.mp hv))) (by rw [hlen]; exact m1.2.2.2.2.2.2.2.1)
  have hFix : CallFix p m c (am_cc μ) (am_mx μ) s args gW (am_cn (am_own μ)) := ⟨C.1, C.2.1, C.2.2.2.1, C.2.2.2.2.1, F.hts C⟩
  have hws : ∀ w ∈ am_cw ν :: gW, ∀ (a' : Array Value) (U : State), s.WarmedH U.vm → w.before a' U = true := fun w hw a' U hW => by
    have hg : w ∈ gW := by
      rcases List.mem_cons.mp hw with e | e
      · rw [e]; exact gW_mem m1.1 m1.2.1
      · exact e
    exact F.1 w hg a' U (State.WarmedH.trans hG.1 hW)
  have hPc : ∀ U : State, U.heap = H → s.WarmedH U.vm → cPc Γ (S.take (am_na ν)).reverse h ((S.take (am_na ν)).reverse.map rv).toArray U := fun U hU hW => ⟨rfl, hG.warm hP hU hW, by rw [hU]; exact hP⟩
  have hrest : 2 * (F0 m pc ls (S.map rv)).monitorRoom + (((S.drop (am_na ν)).map rv).map fun v => v.category).sum ≤ 8 := lv_room (by rw [rv_wd]; exact o2)
  have hini : (Cond.initialized (am_y ν).cls).before args s = true := F.tb C m1.2.2.1 rfl
  have hcode : (am_cw ν).before args s = true := F.tb C m1.1 m1.2.1
  have hne := m1.2.2.2.2.2.1
  have hne2 := m1.2.2.2.2.2.2.1
  have hpar : ∀ {j : Nat}, (parseMethodDescriptor (am_y ν).desc).map (fun d => d.parameters.length) = some j → ∀ sig, parseMethodDescriptor (am_y ν).desc = some sig → j = sig.parameters.length := fun {j} h1 sig h2 => by
    rw [h2] at h1
    exact (Option.some.inj h1).symm
  have hpar1 : ∀ {j : Nat}, (parseMethodDescriptor (am_y ν).desc).map (fun d => d.parameters.length + 1) = some (j + 1) → ∀ sig, parseMethodDescriptor (am_y ν).desc = some sig → j = sig.parameters.length := fun {j} h1 sig h2 => by
    rw [h2] at h1
    have h3 : sig.parameters.length + 1 = j + 1 := Option.some.inj h1
    omega
  have recv : ∀ (b : Nat) (As : List aV), (S.take (am_na ν)).reverse = vR b :: As → S.map rv = (As.map rv).reverse ++ .ref b :: (S.drop (am_na ν)).map rv ∧ As.length + 1 = am_na ν ∧ (∀ U : State, U.heap = H → s.WarmedH U.vm → cPc Γ (S.take (am_na ν)).reverse h (Value.ref b :: As.map rv).toArray U) := fun b As he => by
    refine ⟨?_, ?_, fun U hU hW => ?_⟩
    · rw [split_rv S (am_na ν), he, List.map_cons, List.reverse_cons, List.append_assoc]
      rfl
    · rw [← hlen, he]; rfl
    · have h9 := hPc U hU hW
      rw [he] at h9 ⊢
      exact h9
  rcases hcase with ⟨rfl, rfl⟩ | ⟨rfl, rfl⟩ | ⟨hk, rfl⟩
  · obtain ⟨w1, w2, w3⟩ := m2.1 rfl
    refine ⟨((S.take (am_na ν)).reverse.map rv).toArray, ?_⟩
    by_cases he : am_hh ν = []
    · have hcw : am_cw ν = .code (am_y ν) (am_cc ν) (am_mx ν) (am_rt ν) := by rw [am_cw, if_pos he]
      rw [hcw] at hM hws hcode
      exact vx_runS hFix hM ⟨⟨rfl, rfl, by show am_nF ν + 1 ≤ R.frames; omega, by show 8 + (am_mx ν + 11) + am_nL ν ≤ R.locals; omega, hws, List.mem_cons_self, hcode, hini, ⟨hne, hne2⟩, hpar w3, F.tb C w1 rfl⟩, F.tb C w2 rfl⟩ ⟨cPc_blind, hPc⟩ rfl (by rw [List.length_map]; exact hlen) hL.1.1 (split_rv S _) hrest hd ⟨hC, hS⟩
    · have hcw : am_cw ν = .codeWith (am_y ν) (am_cc ν) (am_mx ν) (am_rt ν) (am_hh ν) := by rw [am_cw, if_neg he]
      rw [hcw] at hM hws hcode
      exact vx_runSX hFix hM ⟨⟨rfl, rfl, by show am_nF ν + 1 ≤ R.frames; omega, by show 8 + (am_mx ν + 11) + am_nL ν ≤ R.locals; omega, hws, List.mem_cons_self⟩, hcode, hini, ⟨hne, hne2⟩, hpar w3, F.tb C w1 rfl, F.tb C w2 rfl⟩ ⟨cPc_blind, hPc⟩ rfl (by rw [List.length_map]; exact hlen) hL.1.1 (split_rv S _) hrest hd ⟨hC, hS⟩
  · obtain ⟨w1, w2, w3, he, w4, w5⟩ := m2.2.1 rfl
    have hcw : am_cw ν = .code (am_y ν) (am_cc ν) (am_mx ν) (am_rt ν) := by rw [am_cw, if_pos he]
    rw [hcw] at hM hws hcode
    obtain ⟨b, As, hb, hb2⟩ := rc_spec (by omega) o6
    obtain ⟨g1, cell, g2, g3, g4, -⟩ := hP.obj w5 (hb2 rfl)
    obtain ⟨r1, r2, r3⟩ := recv b As hb
    have hfc := ((F.K C).1 _ _ (tw_cl _ w5)).2.1
    exact ⟨_, vx_runV (C := (am_y ν).cls) (As := As.map rv) hFix hM ⟨⟨rfl, rfl, by show am_nF ν + 1 ≤ R.frames; omega, by show 8 + (am_mx ν + 11) + am_nL ν ≤ R.locals; omega, hws, List.mem_cons_self, hcode, hini, ⟨hne, hne2⟩, hpar1 (by rw [r2]; exact w4), F.tb C w1 rfl⟩, F.tb C w2 rfl, F.tb C w3 rfl⟩ ⟨cPc_blind, ⟨cell, g2, by rw [g4]; rfl, by rw [g3, m1.2.2.2.1]; exact hfc⟩, r3⟩ rfl (by rw [List.length_map]) hL.1.1 r1 hrest hd ⟨hC, hS⟩⟩
  · rcases hk with rfl | rfl
    · obtain ⟨w1, w2, w3, w4, he, w5⟩ := m2.2.2.1 rfl
      have hcw : am_cw ν = .code (am_y ν) (am_cc ν) (am_mx ν) none := by rw [am_cw, if_pos he, w4]
      rw [hcw] at hM hws hcode
      obtain ⟨b, As, hb, -⟩ := rc_spec (by omega) o6
      obtain ⟨r1, r2, r3⟩ := recv b As hb
      exact ⟨_, vx_runI (As := As.map rv) hFix hM ⟨⟨rfl, rfl, by show am_nF ν + 1 ≤ R.frames; omega, by show 8 + (am_mx ν + 11) + am_nL ν ≤ R.locals; omega, hws, List.mem_cons_self, hcode, hini, ⟨hne, hne2⟩, hpar1 (by rw [r2]; exact w5), F.tb C w1 rfl⟩, w3, F.tb C w2 rfl⟩ ⟨cPc_blind, r3⟩ rfl (by rw [List.length_map]) hL.1.1 r1 hrest hd ⟨hC, hS⟩⟩
    · obtain ⟨w2, w3, w4, he, w5⟩ := m2.2.2.2 rfl
      have hcw : am_cw ν = .code (am_y ν) (am_cc ν) (am_mx ν) none := by rw [am_cw, if_pos he, w4]
      rw [hcw] at hM hws hcode
      have hnest := va_Nw.warmM hG.1 (F.2.2.2.2.2.2.2.2.2.2.1 _ _ _ hmem)
      obtain ⟨b, As, hb, -⟩ := rc_spec (by omega) o6
      obtain ⟨r1, r2, r3⟩ := recv b As hb
      exact ⟨_, vx_runIN (host := "ConfigDesk") (As := As.map rv) hFix hM ⟨⟨⟨rfl, rfl, by show am_nF ν + 1 ≤ R.frames; omega, by show 8 + (am_mx ν + 11) + am_nL ν ≤ R.locals; omega, hws, List.mem_cons_self⟩, hcode, hini, ⟨hne, hne2⟩, hpar1 (by rw [r2]; exact w5), va_Nw.use rfl hnest⟩, w3, F.tb C w2 rfl⟩ ⟨cPc_blind, r3⟩ rfl (by rw [List.length_map]) hL.1.1 r1 hrest hd ⟨hC, hS⟩⟩
end CL
end
section
/-! THE RUN of the abstract machine is the machine's -/
theorem am_sound {Γ : aG} {l : Launch} (F : SF Γ) (hfl : l.stackTraces = false) : ∀ n : Nat, Snd Γ l n
  | 0 => fun μ pc L S h r hr => by cases hr
  | n + 1 => by
    have ih := am_sound F hfl n
    intro μ pc L S h r hr hh p e R s m args below meth c H locs cells slots C' S' Q ls C hP hC hL hV hz hc1 hs1 hc2 hs2 en
    have mono := amX_mono _ _ _ _ _ _ _ hr
    unfold amX at hr
    split at hr
    · cases hr
    · rename_i i len hd
      split at hr
      · rename_i hlo
        split at hr
        · -- a return
          rename_i v hret
          split at hr
          · rename_i hok
            cases hr
            obtain ⟨rfl, hi⟩ := am_ret_spec hret
            have hlen : len = 1 := by rcases hi with rfl | rfl | rfl <;> exact of_decide_eq_true hlo
            subst hlen
            have k9 := en.1 v H locs ls pc i rfl hP hC (fun w hw => hV w (by rw [hw]; exact List.mem_cons_self)) hok hd hret
            dsimp only at hc1 hs1
            rw [Nat.sub_self, Nat.add_zero] at hc1 hs1
            rw [hc1, hs1]
            exact k9
          · cases hr
        · split at hr
          · -- a throw
            rename_i E hthr
            cases hr
            obtain ⟨ik, is, ic, rfl, d3, d4, d6, d9, t1, t2, t3, t4, t5⟩ := am_thr_spec hthr
            have hlen : len = 3 := of_decide_eq_true hlo
            subst hlen
            have e1 : hnx (hth h) = hnx h + 1 := rfl
            have e2 : hks (hth h) = hks h + 6 := rfl
            dsimp only at hc1 hs1
            rw [e1] at hc1
            rw [e2] at hs1
            exact en.2.1 E h H locs ls pc S cells slots ik is ic rfl hP hC hL.1.1 hz (by omega) (by omega) t5 hd d3 d4 d6 d9 t1 t2 t3 t4
          · split at hr
            · -- a call
              rename_i k ν hcall
              split at hr
              · rename_i hok
                obtain ⟨ix, hmem, hcase⟩ := am_call_spec hcall
                have hlen : len = 3 := by
                  rcases hcase with ⟨-, rfl⟩ | ⟨-, rfl⟩ | ⟨-, rfl⟩ <;> exact of_decide_eq_true hlo
                subst hlen
                split at hr
                · cases hr
                · -- it returns
                  rename_i v h' hx
                  have m1 := amX_mono _ _ _ _ _ _ _ hx
                  have m2 := amX_mono _ _ _ _ _ _ _ hr
                  dsimp only at m1
                  obtain ⟨a, hrun⟩ := as_call (e := e) (below := below) (locs := locs) (cells := cells) (slots := slots) F hfl C hP hL hV ih hcall hok hd hx (by dsimp only; omega) (by dsimp only; omega)
                  intro T hT X
                  rcases hrun T hT X with ⟨v', st₀, t, T', L', h0, X', hL', e1, e2, ⟨w, q1, q2, q3, q4⟩, go⟩ | ⟨q, st₀, t, T', L', E, ce, h0, X', hL', e1, e2, ⟨k9, q1, -⟩, -⟩
                  · cases q1
                    cases q2
                    have hVV : ∀ x ∈ v.toList ++ S.drop (am_na ν), okv x := fun x hx => by
                      rcases List.mem_append.mp hx with hx | hx
                      · cases v with
                        | none => cases hx
                        | some w => rw [List.mem_singleton.mp hx]; exact q4 w rfl
                      · exact hV x (List.mem_of_mem_drop hx)
                    have k9 := ih μ (pc + 3) L (v.toList ++ S.drop (am_na ν)) h' r hr hh p e R s m args below meth c t.heap (locs ++ L') (cells + (hnx h' - hnx h)) (slots + (hks h' - hks h)) C' S' Q ls C q3
                      (fun x hx => by
                        rcases List.mem_append.mp hx with hx | hx
                        · exact hC x hx
                        · exact hL' x hx) hL hVV (by omega) (by omega) (by omega) hc2 hs2 en
                    obtain ⟨t2, a1, b1⟩ := k9 T' e1 X'
                    refine ⟨t2, go t2 ?_, b1⟩
                    have e9 : (v.toList ++ S.drop (am_na ν)).map rv = (v.map rv).toList ++ (S.drop (am_na ν)).map rv := by
                      rw [List.map_append]
                      cases v <;> rfl
                    rw [e9] at a1
                    exact a1
                  · cases q1
                · -- it throws
                  rename_i E h' hx
                  have m1 := amX_mono _ _ _ _ _ _ _ hx
                  dsimp only at m1
                  have m2 : hnx h' ≤ hnx r.2 ∧ hks h' ≤ hks r.2 := by
                    split at hr
                    · cases hr; exact ⟨Nat.le_refl _, Nat.le_refl _⟩
                    · split at hr
                      · cases hr
                      · exact amX_mono _ _ _ _ _ _ _ hr
                  obtain ⟨a, hrun⟩ := as_call (e := e) (below := below) (locs := locs) (cells := cells) (slots := slots) F hfl C hP hL hV ih hcall hok hd hx (by dsimp only; omega) (by dsimp only; omega)
                  intro T hT X
                  rcases hrun T hT X with ⟨v', st₀, t, T', L', h0, X', hL', e1, e2, ⟨w, q1, -⟩, go⟩ | ⟨q, st₀, t, T', L', E9, ce, h0, X', hL', e1, e2, ⟨k9, q1, rfl, k1, k3, q3⟩, g1, g2, g3, go⟩
                  · cases q1
                  · cases q1
                    have hCC : LC Γ (locs ++ L') := fun x hx => by
                      rcases List.mem_append.mp hx with hx | hx
                      · exact hC x hx
                      · exact hL' x hx
                    have hG := C.2.2.2.2.2.2.2.2.2.2
                    have ha := hG.1.alike
                    have fin : vx_W p l e R s m args below meth c t.heap (locs ++ L') (cells + (hnx h' - hnx h)) (slots + (hks h' - hks h)) Q (F0 m pc ls ((S.drop (am_na ν)).map rv)) q := by
                      split at hr
                      · rename_i hhd
                        cases hr
                        have k8 := en.2.2 E t.heap (locs ++ L') ls pc ((S.drop (am_na ν)).map rv) q ce rfl k1 k3 q3 hCC hhd g1 g2 g3
                        dsimp only at hc1 hs1
                        rw [hc1, hs1]
                        exact k8
                      · rename_i tt hhd
                        split at hr
                        · cases hr
                        · rename_i pc' j hha
                          obtain ⟨pre, x, suf, s1, s2, s3, s4⟩ := hd_some hhd
                          have hx1 := hh x (by rw [s1]; exact List.mem_append_right _ List.mem_cons_self)
                          obtain ⟨w1, w2, w3⟩ := tw_h _ hx1.1
                          have htab : c.exceptionTable.toList = tableOf pre ++ (⟨x.1, x.2.1, x.2.2.1, x.2.2.2⟩ : ExceptionTableEntry) :: tableOf suf := by
                            rw [C.2.2.2.2.2.2.1, s1]
                            unfold tableOf
                            rw [List.map_append, List.map_cons]
                          have hnm : am_xn E = am_xn (am_ct x.2.2.2) := by rw [s3.2.2]
                          refine vx_catch (own := am_cn (am_own μ)) (name := am_xn (am_ct x.2.2.2)) (E := am_xn E) C.2.2.2.2.1 (tableOf pre) (⟨x.1, x.2.1, x.2.2.1, x.2.2.2⟩ : ExceptionTableEntry) (tableOf suf) htab ?_ ?_ w3 (F.tb C (by rw [hx1.2]; exact w1) rfl) ?_ g1 g2 g3 ?_
                          · intro z hz
                            obtain ⟨z0, hz0, rfl⟩ := List.mem_map.mp hz
                            obtain ⟨hct, ho⟩ := hh z0 (by rw [s1]; exact List.mem_append_left _ hz0)
                            have hn := s2 z0 hz0
                            by_cases hcov : z0.1 ≤ pc ∧ pc < z0.2.1
                            · obtain ⟨y1, y2, y3⟩ := tw_h _ hct
                              exact Or.inr ⟨y3, _, F.tb C (by rw [ho]; exact y1) rfl, va_Nc.moved ha (F.2.2.2.2.2.2.2.2.2.2.2.1 E z0.2.2.2 k1 k3 hct (fun z => hn ⟨hcov.1, hcov.2, z.symm⟩))⟩
                            · left
                              by_cases h1 : z0.1 ≤ pc
                              · have h2 : ¬ pc < z0.2.1 := fun z => hcov ⟨h1, z⟩
                                simp [covers, h2]
                              · simp [covers, h1]
                          · show covers _ pc = true
                            simp [covers, s3.1, s3.2.1]
                          · rw [← hnm]
                            exact F.2.2.2.2.2.2.2.2.2.2.2.2 _ (tw_ca E k3 k1) rfl args s hG.1
                          · show W p l e R s m args below meth c t.heap (locs ++ L') (cells + (hnx h' - hnx h)) (slots + (hks h' - hks h)) Q (F0 m x.2.2.1 ls [.ref q])
                            rw [s4]
                            have key : ∀ (ls' : Array Slot), lv_has ls' (am_mx μ) ((j, .ref q) :: (lvl L).filter (fun q => !(q.1 == j) && !(q.1 + 1 == j && q.2.category == 2))) → W p l e R s m args below meth c t.heap (locs ++ L') (cells + (hnx h' - hnx h)) (slots + (hks h' - hks h)) Q (F0 m pc' ls' []) := by
                              intro ls' h9
                              refine ih μ pc' (L.take j) [] h' r hr hh p e R s m args below meth c t.heap (locs ++ L') (cells + (hnx h' - hnx h)) (slots + (hks h' - hks h)) C' S' Q ls' C q3 hCC (LH.of h9 (by have := hL.2.1; rw [List.length_take]; omega) fun i v hv => ?_) (fun _ z => by cases z) (by omega) (by omega) (by omega) hc2 hs2 en
                              have hij : i < j := by
                                have := (List.getElem?_eq_some_iff.mp hv).1
                                rw [List.length_take] at this
                                omega
                              rw [List.getElem?_take_of_lt hij] at hv
                              obtain ⟨_, y2, y3⟩ := hL.2.2 i v hv
                              refine ⟨List.mem_cons_of_mem _ (List.mem_filter.mpr ⟨lvl_mem.mpr ⟨v, hv, rfl⟩, ?_⟩), y2, y3⟩
                              have hne : ¬ i = j := by omega
                              simp [hne, rv_cat y2]
                            unfold am_ha at hha
                            split at hha
                            · rename_i k0 hdk
                              split at hha
                              · rename_i hk
                                cases hha
                                exact lv_astore_n C.1 C.2.1 hdk rfl hL.has hk rfl (fun ls' h9 => key ls' h9)
                              · cases hha
                            · rename_i k0 hdk
                              split at hha
                              · rename_i hk
                                cases hha
                                exact lv_astore C.1 C.2.1 hdk hL.has hk rfl (fun ls' h9 => key ls' h9)
                              · cases hha
                            · cases hha
                    obtain ⟨t2, a1, b1⟩ := fin T' e1 X'
                    exact ⟨t2, go.trans a1, b1⟩
              · cases hr
            · -- any other instruction
              split at hr
              · cases hr
              · rename_i pc' L' S'' h' hi
                have m1 := amI_mono hi
                have m2 := amX_mono _ _ _ _ _ _ _ hr
                dsimp only at m1
                refine am_step F (by omega) (by omega) C hP hC hL hV hd hlo hi (by dsimp only; omega) (by dsimp only; omega) fun H' locs' ls' k1 k2 k3 k4 k5 k6 => ?_
                exact ih μ pc' L' S'' h' r hr hh p e R s m args below meth c H' locs' _ _ C' S' Q ls' C k1 k4 k2 k3 (by dsimp only at k5; omega) (by dsimp only; omega) (by dsimp only; omega) hc2 hs2 en
      · cases hr
end
section
/-! THE LAW'S START: what the Statement gives is what the abstract machine's runs need -/
def R_law : String := "ConfigDeskLaw"
theorem fl_x : ∀ w ∈ [Cond.isRef (.static "java/lang/Throwable" "UNASSIGNED_STACK" "[Ljava/lang/StackTraceElement;"), Cond.isRef (.static "java/lang/Throwable" "SUPPRESSED_SENTINEL" "Ljava/util/List;")], w ∈ flatC (Jvm.Cond.and given_1 narrow_1) := by decide +kernel
theorem fl_n : ∀ E : Nat, E ≤ 3 → 1 ≤ E → ∀ k : Nat, k ≤ 3 → 1 ≤ k → E ≠ k → Cond.not (.castable (am_xn E) (am_xn k)) ∈ flatC (Jvm.Cond.and given_1 narrow_1) := fun E h1 h2 => match E, h1, h2 with
  | 1, _, _ => fun k h1 h2 => match k, h1, h2 with
    | 1, _, _ => fun h => absurd rfl h
    | 2, _, _ => fun _ => by decide +kernel
    | 3, _, _ => fun _ => by decide +kernel
  | 2, _, _ => fun k h1 h2 => match k, h1, h2 with
    | 1, _, _ => fun _ => by decide +kernel
    | 2, _, _ => fun h => absurd rfl h
    | 3, _, _ => fun _ => by decide +kernel
  | 3, _, _ => fun k h1 h2 => match k, h1, h2 with
    | 1, _, _ => fun _ => by decide +kernel
    | 2, _, _ => fun _ => by decide +kernel
    | 3, _, _ => fun h => absurd rfl h
theorem fl_s : ∀ e ∈ am_xrT 7, Cond.exactly (.string RX7 e.1.2.1) "java/lang/String" ∈ flatC (Jvm.Cond.and given_1 narrow_1) := by decide +kernel
def st_tx : Nat → String := fun k => match k with
  | 217 => "there is none with this number"
  | 225 => "the candidate is not open"
  | 93 => "the key is there, or the section is full"
  | 222 => "an argument is out of range"
  | 227 => "there is no entry with the key"
  | 141 => "an edit cannot be applied exactly"
  | 147 => "there are 8 rules"
  | 168 => "a commit waits, or there are 29 versions"
  | 170 => "an edit cannot be applied loosely"
  | 172 => "the new version would not keep a rule"
  | _ => "no commit waits"
theorem tw_st : ∀ e ∈ am_xrT 7, Cond.stringRef RX7 e.1.2.1 (st_tx e.1.2.1) ∈ lw_tbl := by decide +kernel
theorem tw_ao : ∀ c, c ≤ 8 → am_ac c = true → Cond.arrayOver (.object (am_cn c)) ∈ lw_tbl := c8 (fun _ => by decide +kernel) (fun _ => by decide +kernel) (fun _ => by decide +kernel) (fun h => by cases h) (fun _ => by decide +kernel) (fun _ => by decide +kernel) (fun _ => by decide +kernel) (fun h => by cases h) (fun h => by cases h)
theorem ac8 {c : Nat} (h : am_ac c = true) : c ≤ 8 := by
  unfold am_ac at h
  split at h <;> first | omega | cases h
theorem tw_z : Cond.arrayOver (.array .int) ∈ lw_tbl ∧ Cond.laysStatic Bundle.tN "UNASSIGNED_STACK" Bundle.steD ∈ lw_tbl ∧ Cond.laysStatic Bundle.tN "SUPPRESSED_SENTINEL" Bundle.listD ∈ lw_tbl ∧ Cond.initialized Bundle.tN ∈ lw_tbl := by decide +kernel
abbrev am_ns (o : Nat) (e : Nat × Nat × aM) : Prop := e.2.1 = 3 → Cond.methodLinkNest (am_cn o) e.1 (am_y e.2.2) "ConfigDesk" ∈ lw_tbl
theorem tw_ns : ∀ o, ∀ e ∈ am_mrT o, am_ns o e :=
  c9 (c8 (by decide +kernel) (by decide +kernel) (by decide +kernel) (by decide +kernel) (by decide +kernel) (by decide +kernel) (by decide +kernel) (by decide +kernel) (by decide +kernel)) (by decide +kernel) (fun c e he => by cases he)
theorem u_ex {s : State} {b : Nat} (hts : ∀ w ∈ lw_tbl, w.before #[Value.ref b] s = true) : ∃ D : va_G, va_K D vwCl [] s := by
  have h : ∀ c : Nat, ∃ (cC : ClassId) (iS : Nat → Nat), c ≤ 8 → u_Kn s (am_cn c) (am_TT c) (am_fN c) cC iS := by
    intro c
    by_cases hc : c ≤ 8
    · obtain ⟨cC, iS, h⟩ := u_known (C := am_cn c) (T := am_TT c) (N := am_fN c) (n := am_fN c) hts (fun w hw => (tw_l c hc w hw).1) (hts _ (tw_o c hc).1)
      exact ⟨cC, iS, fun _ => h⟩
    · exact ⟨0, fun _ => 0, fun h => absurd h hc⟩
  refine ⟨(fun c => Classical.choose (h c), fun c => Classical.choose (Classical.choose_spec (h c))), fun c q hq => ?_, fun k q hk => by simp at hk⟩
  have hc : c ≤ 8 := by
    have := (List.getElem?_eq_some_iff.mp hq).1
    simp [vwCl] at this
    omega
  have e := tw_cl c hc
  rw [hq] at e
  cases e
  exact Classical.choose_spec (Classical.choose_spec (h c)) hc
theorem ar_of {s : State} {a : Array Value} {t : FieldType} (h : (Cond.arrayClass t).before a s = true) (hn : ∀ n, t ≠ .object n) : ∃ cA : ClassId, ArrOfT s cA t ∧ va_RA s cA t := by
  obtain ⟨cA, k, comp, h1, h2, h3⟩ := Cond.arrayClass_spec h
  refine ⟨cA, fun n z => ⟨(fun k h => by cases h), k, h2, comp, h3⟩, ?_⟩
  cases t <;> first | exact h1 | exact absurd rfl (hn _)
theorem ar_int2 {s : State} {a : Array Value} (h : (Cond.arrayOver (.array .int)).before a s = true) : ∃ cA : ClassId, ArrOfT s cA (.array .int) ∧ va_RA s cA (.array .int) := by
  obtain ⟨comp, cA, k, h1, h2, h3, h4, h5⟩ := arrayOverA_spec h
  exact ⟨cA, fun n z => ⟨(fun k h => by cases h), k, h3, comp, h4⟩, h5⟩
theorem ar_obj {s : State} {a : Array Value} {C : String} (h : (Cond.arrayOver (.object C)).before a s = true) : ∃ cA : ClassId, ArrOfT s cA (.object C) ∧ va_RA s cA (.object C) := by
  obtain ⟨comp, cA, k, h1, h2, h3, h4, h5⟩ := Cond.arrayOver_spec h
  exact ⟨cA, fun n z => ⟨(fun k h => by cases h), k, h3, comp, h4⟩, k, comp, h3, h4, h1, h5⟩
/-- the launch's facts at the law's start -/
theorem sf_start {s : State} {b : Nat} (hts : ∀ w ∈ lw_tbl, w.before #[Value.ref b] s = true) (hgv : (Jvm.Cond.and given_1 narrow_1).before #[Value.ref b] s = true) : ∃ Γ : aG, gs Γ = s ∧ SF Γ := by
  have hfl := flat_of_before _ hgv
  obtain ⟨D, hD⟩ := u_ex hts
  obtain ⟨-, -, -, gi, gl, -⟩ := tw_g
  obtain ⟨z1, z2, z3, z4⟩ := tw_z
  obtain ⟨cI, hI⟩ := ar_of (hts _ gi) (fun n h => by cases h)
  obtain ⟨cL, hL⟩ := ar_of (hts _ gl) (fun n h => by cases h)
  obtain ⟨cG, hG⟩ := ar_int2 (hts _ z1)
  have hO : ∀ c : Nat, ∃ cA : ClassId, am_ac c = true → ArrOfT s cA (.object (am_cn c)) ∧ va_RA s cA (.object (am_cn c)) := by
    intro c
    by_cases hc : am_ac c = true
    · obtain ⟨cA, h⟩ := ar_obj (hts _ (tw_ao c (ac8 hc) hc))
      exact ⟨cA, fun _ => h⟩
    · exact ⟨0, fun h => absurd h hc⟩
  refine ⟨(s, D, (cI, cL, cG), fun c => Classical.choose (hO c)), rfl, ?_, hD, hI, hL, hG, fun c hc => ⟨Classical.choose_spec (hO c) hc, va_AO.of (hts _ (tw_ao c (ac8 hc) hc))⟩, hts _ z1, ?_, ?_, ?_, ?_, ?_, ?_⟩
  · exact fun w hw a U hW => word_at hW (gW_good hw) (hts w (List.mem_filter.mp hw).1)
  · intro o e he
    obtain ⟨ho, -⟩ := tw_xe o e he
    subst ho
    obtain ⟨a, -, -, -, h1, -⟩ := Cond.exactly_spec (hfl _ (fl_s e he))
    exact ⟨a, _, vk_R.of (hts _ (tw_st e he)) h1⟩
  · exact vx_Zqof (hts _ z2) (hts _ z4) (hfl _ (fl_x _ List.mem_cons_self)) (fun a h1 h2 => absurd h1 (Nat.not_lt.mpr h2))
  · exact vx_Zqof (hts _ z3) (hts _ z4) (hfl _ (fl_x _ (List.mem_cons_of_mem _ List.mem_cons_self))) (fun a h1 h2 => absurd h1 (Nat.not_lt.mpr h2))
  · intro o ix ν hm
    exact va_Nw.of rfl (hts _ (tw_ns o _ hm rfl))
  · intro E ct h1 h3 hct hne
    exact va_Nc.of (hfl _ (fl_n E h3 h1 _ (tw_h ct hct).2.1 hct hne))
  · intro w hw hd a U hW
    unfold am_dc at hd
    split at hd
    · exact va_Nw.use rfl (va_Nw.warmD hW (va_Nw.of rfl (hts _ hw)))
    · exact va_Nw.use rfl (va_Nw.warmC hW (va_Nw.of rfl (hts _ hw)))
    · cases hd
/-- the heap at the law's start: the script alone -/
def hstart (b L n0 : Nat) (xs : Nat → Int32) : aH := (fun a => if a = b then (50, L) else (0, 0), fun a k => if a = b then (xs k).toInt else 0, fun _ _ => none, n0, 0)
theorem hp_start {Γ : aG} {b L : Nat} {xs : Nat → Int32} (hX : va_X b L xs (gs Γ) (gs Γ).heap) (hb : b < gb Γ) (hL : L ≤ 3072) : HP Γ (hstart b L (gb Γ) xs) (gs Γ).heap := by
  have e1 : ∀ a, hsh (hstart b L (gb Γ) xs) a = if a = b then (50, L) else (0, 0) := fun _ => rfl
  have e2 : ∀ a k, hiv (hstart b L (gb Γ) xs) a k = if a = b then (xs k).toInt else 0 := fun _ _ => rfl
  refine ⟨rfl, Nat.le_refl _, fun _ _ => rfl, fun a ha => ?_, fun a ha ha2 => ?_, fun a k => ?_, fun a ha => ⟨fun k => ?_, fun k => rfl⟩⟩
  · rw [e1] at ha ⊢
    by_cases h : a = b
    · subst h
      rw [if_pos rfl]
      refine ⟨hb, ?_, by show L ≤ 4096; omega⟩
      obtain ⟨scr, h1, h2, h3, h4, h5⟩ := hX
      refine ⟨scr, h1, h2, h3, h4, fun j hj => ?_⟩
      rw [h5 j hj]
      show some (Value.int (xs j)) = some (.int (Int32.ofInt (hiv (hstart a L (gb Γ) xs) a j)))
      rw [e2, if_pos rfl, Int32.ofInt_toInt]
    · rw [if_neg h] at ha
      cases ha
  · rw [e1] at ha ha2
    by_cases h : a = b
    · rw [if_pos h] at ha2
      exact absurd rfl ha2
    · rw [if_neg h] at ha
      exact absurd rfl ha
  · rw [e2]
    split
    · exact i32_any _
    · exact i32_0
  · rw [e2, if_neg (by have : gb Γ ≤ a := ha; omega)]
/-- THE LAW, from its entry, out of its run in the abstract machine -/
theorem start_of {p : Program} {e : Env} {s : State} {m : MethodId} {below : List Frame} {meth : Method} {c : Code} (l : Launch) (hflags : l.stackTraces = false) {b L : Nat} {xs : Nat → Int32} (hL : L ≤ 3072)
    (hx : p.tables.exec = Jvm.exec) (hb : c.code = code) (hr : meth.sig.returnType = ret) (hml : c.maxLocals = 7) (hown : s.vm.findClass R_law = some m.cls) (hts : ∀ w ∈ lw_tbl, w.before #[Value.ref b] s = true) (hX : va_X b L xs s s.heap) (hbl : b < s.heap.size) (hlocks : meth.locks = false) (hgv : (Jvm.Cond.and given_1 narrow_1).before #[Value.ref b] s = true) (htab : c.exceptionTable.toList = []) {Q : State → Prop}
    (hend : ∀ (pc : Nat) (H : Heap) (ls : Array Slot), decode code pc = .ok (.ireturn, 1) → W p l e room_1 s m #[Value.ref b] below meth c H [] 776095 6767818 Q (F0 m pc ls [.int 1]))
    (hrun : amT mL_law 0 [vR b] [] (hstart b L s.heap.size xs) (fun r => r.1 = .inl (some (vI 1)) ∧ hnx r.2 ≤ s.heap.size + 776095 ∧ hks r.2 ≤ 6767818)) :
    W p l e room_1 s m #[Value.ref b] below meth c s.heap [] 0 0 Q (entryFrame m ([Value.ref b] : List Value).toArray 7) := by
  obtain ⟨Γ, hs, F⟩ := sf_start hts hgv
  obtain ⟨n, r, hrun, hr1, hr2, hr3⟩ := hrun
  have hg : gb Γ = s.heap.size := by rw [← hs]; rfl
  have hP := hp_start (Γ := Γ) (b := b) (L := L) (xs := xs) (by rw [hs]; exact hX) (by rw [hg]; exact hbl) hL
  rw [hg, hs] at hP
  have hG : GL Γ s := ⟨by rw [hs]; exact State.WarmedH.refl s, by rw [hg]; exact Nat.le_refl _, fun q _ => by rw [hs]⟩
  have C : CX Γ mL_law p room_1 s m #[Value.ref b] meth c := ⟨hx, hb, hr, hml, hown, hlocks, htab, (fun h => by cases h), by decide, by decide, hG⟩
  have hmono := amX_mono _ _ _ _ _ _ _ hrun
  have e1 : hnx (hstart b L s.heap.size xs) = s.heap.size := rfl
  have e2 : hks (hstart b L s.heap.size xs) = 0 := rfl
  rw [e1, e2] at hmono
  rw [lg_entry_eq]
  have hLH : LH ((lg_sl ([vR b].map rv) ++ List.replicate (7 - (lg_sl ([vR b].map rv)).length) Slot.unset).toArray) 7 [vR b] := LH.entry rfl (fun v hv => by rw [List.mem_singleton.mp hv]; trivial) (Nat.le_of_ble_eq_true rfl)
  refine am_sound F hflags n mL_law 0 [vR b] [] _ r hrun (fun q hq => by cases hq) p e room_1 s m #[Value.ref b] below meth c s.heap [] 0 0 (hnx r.2 - s.heap.size) (hks r.2) Q _ C hP (fun _ h => by cases h) hLH (fun _ h => by cases h) (Nat.le_refl _) (by rw [e1, Nat.zero_add]) (by rw [e2, Nat.zero_add, Nat.sub_zero]) (by show _ ≤ 776095; omega) (by show _ ≤ 6767818; omega) ⟨?_, ?_, ?_⟩
  · intro v H' locs' ls' pc' i hv hP' hC' ho hok hd hret
    rw [hr1] at hv
    cases hv
    have hi : i = .ireturn := by
      rcases (am_ret_spec hret).2 with rfl | rfl | rfl
      · rfl
      · cases hret
      · cases hret
    subst hi
    refine va_forget (fun q hq => by rw [← hg]; exact hC' q hq) ?_
    refine W.widen (k := 776095) (n := 6767818) (by omega) (by omega) ?_
    exact hend pc' H' ls' hd
  · intro k h' H' locs' ls' pc' st cells' slots' ik is ic hr9
    rw [hr9] at hr1
    cases hr1
  · intro k H' locs' ls' pc' st q ce hr9
    rw [hr9] at hr1
    cases hr1
end
section
/-! RULES for runs of the abstract machine, an instruction a rule -/
section TR
variable {μ : aM} {pc : Nat} {L S : List aV} {h : aH} {Q : aR → Prop}
theorem t_step {i : Instr} {len : Nat} {q : aC} (d : decode (am_cc μ) pc = .ok (i, len)) (h1 : am_lo i len = true) (h2 : am_ret i S = none) (h3 : am_thr μ pc i S = none) (h4 : am_call (am_own μ) i = none) (h5 : amI μ pc L S h i = some q) (k : amT μ q.1 q.2.1 q.2.2.1 q.2.2.2 Q) : amT μ pc L S h Q := by
  obtain ⟨n, r, hr, hq⟩ := k
  refine ⟨n + 1, r, ?_, hq⟩
  unfold amX
  rw [d]
  dsimp only
  rw [if_pos h1, h2]
  dsimp only
  rw [h3]
  dsimp only
  rw [h4]
  dsimp only
  rw [h5]
  exact hr
theorem amX_more : ∀ (n : Nat) (μ : aM) (pc : Nat) (L S : List aV) (h : aH) (r : aR), amX n μ pc L S h = some r → amX (n + 1) μ pc L S h = some r
  | 0, μ, pc, L, S, h, r, hr => by cases hr
  | n + 1, μ, pc, L, S, h, r, hr => by
    unfold amX at hr ⊢
    split at hr
    · cases hr
    · rename_i i len hd
      try rw [hd]
      try dsimp only
      split at hr
      · rename_i hlo
        try rw [if_pos hlo]
        split at hr
        · rename_i v hret
          try rw [hret]
          try dsimp only
          exact hr
        · rename_i hret
          try rw [hret]
          try dsimp only
          split at hr
          · rename_i E hthr
            try rw [hthr]
            exact hr
          · rename_i hthr
            try rw [hthr]
            try dsimp only
            split at hr
            · rename_i k ν hc
              try rw [hc]
              try dsimp only
              split at hr
              · rename_i hok
                try rw [if_pos hok]
                split at hr
                · cases hr
                · rename_i v h' hx
                  try rw [amX_more n _ _ _ _ _ _ hx]
                  try dsimp only
                  exact amX_more n _ _ _ _ _ _ hr
                · rename_i E h' hx
                  try rw [amX_more n _ _ _ _ _ _ hx]
                  try dsimp only
                  split at hr
                  · rename_i hhd
                    try rw [hhd]
                    exact hr
                  · rename_i t hhd
                    try rw [hhd]
                    try dsimp only
                    split at hr
                    · cases hr
                    · rename_i pc' j hha
                      try rw [hha]
                      exact amX_more n _ _ _ _ _ _ hr
              · cases hr
            · rename_i hc
              try rw [hc]
              try dsimp only
              split at hr
              · cases hr
              · rename_i pc' L' S' h' hi
                try rw [hi]
                exact amX_more n _ _ _ _ _ _ hr
      · cases hr
theorem amX_le {n k : Nat} (hnk : n ≤ k) {μ : aM} {pc : Nat} {L S : List aV} {h : aH} {r : aR} (hr : amX n μ pc L S h = some r) : amX k μ pc L S h = some r := by
  induction hnk with
  | refl => exact hr
  | step _ ih => exact amX_more _ _ _ _ _ _ _ ih
theorem amT.mono {Q' : aR → Prop} (k : amT μ pc L S h Q) (hq : ∀ r, Q r → Q' r) : amT μ pc L S h Q' := by
  obtain ⟨n, r, hr, h1⟩ := k
  exact ⟨n, r, hr, hq r h1⟩
/-- behind a call: what it answers goes on the stack; what it throws goes to a handler or out -/
def tQ (μ : aM) (ν : aM) (pc : Nat) (L S : List aV) (Q : aR → Prop) : aR → Prop := fun r => match r with
  | (.inl v, h') => amT μ (pc + 3) L (v.toList ++ S.drop (am_na ν)) h' Q
  | (.inr E, h') => match am_hd (am_hh μ) pc E with
    | none => Q (.inr E, h')
    | some t => match am_ha μ t with
      | none => False
      | some (pc', j) => amT μ pc' (L.take j) [] h' Q
theorem t_call {i : Instr} {k : Nat} {ν : aM} (d : decode (am_cc μ) pc = .ok (i, 3)) (h1 : am_lo i 3 = true) (h2 : am_ret i S = none) (h3 : am_thr μ pc i S = none) (h4 : am_call (am_own μ) i = some (k, ν)) (hok : am_ok k μ ν S h)
    (c : amT ν 0 (S.take (am_na ν)).reverse [] h (tQ μ ν pc L S Q)) : amT μ pc L S h Q := by
  obtain ⟨n, r, hr, hq⟩ := c
  have base : ∀ (n2 : Nat) (r2 : aR), (match amX (n + n2) ν 0 (S.take (am_na ν)).reverse [] h with
              | none => none
              | some (.inl v, h') => amX (n + n2) μ (pc + 3) L (v.toList ++ S.drop (am_na ν)) h'
              | some (.inr E, h') => match am_hd (am_hh μ) pc E with
                | none => some (.inr E, h')
                | some t => match am_ha μ t with
                  | none => none
                  | some (pc', j) => amX (n + n2) μ pc' (L.take j) [] h') = some r2 → amX (n + n2 + 1) μ pc L S h = some r2 := by
    intro n2 r2 h9
    unfold amX
    rw [d]
    dsimp only
    rw [if_pos h1, h2]
    dsimp only
    rw [h3]
    dsimp only
    rw [h4]
    dsimp only
    rw [if_pos hok]
    exact h9
  obtain ⟨o, h'⟩ := r
  cases o with
  | inl v =>
    obtain ⟨n2, r2, hr2, hq2⟩ : amT μ (pc + 3) L (v.toList ++ S.drop (am_na ν)) h' Q := hq
    refine ⟨n + n2 + 1, r2, base n2 r2 ?_, hq2⟩
    rw [amX_le (Nat.le_add_right n n2) hr]
    exact amX_le (Nat.le_add_left n2 n) hr2
  | inr E =>
    unfold tQ at hq
    dsimp only at hq
    split at hq
    · rename_i hhd
      refine ⟨n + 0 + 1, _, base 0 _ ?_, hq⟩
      rw [amX_le (Nat.le_add_right n 0) hr]
      dsimp only
      rw [hhd]
    · rename_i t hhd
      split at hq
      · exact hq.elim
      · rename_i pc' j hha
        obtain ⟨n2, r2, hr2, hq2⟩ := hq
        refine ⟨n + n2 + 1, r2, base n2 r2 ?_, hq2⟩
        rw [amX_le (Nat.le_add_right n n2) hr]
        dsimp only
        rw [hhd]
        dsimp only
        rw [hha]
        exact amX_le (Nat.le_add_left n2 n) hr2
theorem t_ret {i : Instr} {len : Nat} {v : Option aV} (d : decode (am_cc μ) pc = .ok (i, len)) (h1 : am_lo i len = true) (h2 : am_ret i S = some v) (h3 : am_okr (am_rt μ) v = true) (k : Q (.inl v, h)) : amT μ pc L S h Q := by
  refine ⟨1, (.inl v, h), ?_, k⟩
  unfold amX
  rw [d]
  dsimp only
  rw [if_pos h1, h2]
  dsimp only
  rw [if_pos h3]
theorem t_thr {ik E is ic : Nat} (d : decode (am_cc μ) pc = .ok (.new ik, 3)) (d3 : decode (am_cc μ) (pc + 3) = .ok (.dup, 1)) (d4 : decode (am_cc μ) (pc + 4) = .ok (.ldc is, 2)) (d6 : decode (am_cc μ) (pc + 6) = .ok (.invokespecial ic, 3)) (d9 : decode (am_cc μ) (pc + 9) = .ok (.athrow, 1))
    (hh : am_hh μ = []) (hw : am_wd S ≤ 8) (hF : 6 ≤ am_nF μ) (hL : 90 ≤ am_nL μ) (hx : am_lk3 (ik, is, ic) (am_xrT (am_own μ)) = some E) (k : Q (.inr E, hth h)) : amT μ pc L S h Q := by
  refine ⟨1, (.inr E, hth h), ?_, k⟩
  have h3 : am_thr μ pc (.new ik) S = some E := by
    unfold am_thr
    rw [d3, d4, d6, d9]
    show (if am_hh μ = [] ∧ am_wd S ≤ 8 ∧ 6 ≤ am_nF μ ∧ 90 ≤ am_nL μ then am_lk3 (ik, is, ic) (am_xrT (am_own μ)) else none) = some E
    rw [if_pos ⟨hh, hw, hF, hL⟩]
    exact hx
  unfold amX
  rw [d]
  dsimp only
  rw [if_pos (show am_lo (.new ik) 3 = true from rfl), show am_ret (.new ik) S = none from rfl]
  dsimp only
  rw [h3]
end TR
end
section
/-! the rules, one by one -/
/-- a local is set -/
def stl : List aV → Nat → aV → List aV
  | L, 0, v => v :: L.tail
  | [], _ + 1, _ => []
  | x :: L, n + 1, v => x :: stl L n v
theorem stl_eq : ∀ {L : List aV} {i : Nat} {v : aV}, i ≤ L.length → L.take i ++ v :: L.drop (i + 1) = stl L i v
  | [], 0, v, _ => rfl
  | x :: L, 0, v, _ => rfl
  | [], i + 1, v, h => absurd h (by simp)
  | x :: L, i + 1, v, h => by
    have ih := stl_eq (L := L) (i := i) (v := v) (Nat.le_of_succ_le_succ h)
    show x :: (L.take i ++ v :: L.drop (i + 1)) = x :: stl L i v
    rw [ih]
theorem hsh_wi {h : aH} {a k : Nat} {x : Int} : hsh (hwi h a k x) = hsh h := rfl
theorem hsh_wr {h : aH} {a k : Nat} {x : Option Nat} : hsh (hwr h a k x) = hsh h := rfl
theorem hrf_wi {h : aH} {a k : Nat} {x : Int} : hrf (hwi h a k x) = hrf h := rfl
theorem hiv_wr {h : aH} {a k : Nat} {x : Option Nat} : hiv (hwr h a k x) = hiv h := rfl
theorem hnx_wi {h : aH} {a k : Nat} {x : Int} : hnx (hwi h a k x) = hnx h := rfl
theorem hnx_wr {h : aH} {a k : Nat} {x : Option Nat} : hnx (hwr h a k x) = hnx h := rfl
theorem hks_wi {h : aH} {a k : Nat} {x : Int} : hks (hwi h a k x) = hks h := rfl
theorem hks_wr {h : aH} {a k : Nat} {x : Option Nat} : hks (hwr h a k x) = hks h := rfl
theorem hiv_wi {h : aH} {a k : Nat} {x : Int} {b j : Nat} : hiv (hwi h a k x) b j = if b = a ∧ j = k then x else hiv h b j := rfl
theorem hrf_wr {h : aH} {a k : Nat} {x : Option Nat} {b j : Nat} : hrf (hwr h a k x) b j = if b = a ∧ j = k then x else hrf h b j := rfl
section TI
variable {μ : aM} {pc : Nat} {L S : List aV} {h : aH} {Q : aR → Prop}
theorem kr_iconst {n : Int} (d : decode (am_cc μ) pc = .ok (.iconst n, 1)) (hn : inr32 n) (k : amT μ (pc + 1) L (vI n :: S) h Q) : amT μ pc L S h Q :=
  t_step (q := (pc + 1, L, vI n :: S, h)) d rfl rfl rfl rfl (if_pos hn) k
theorem kr_bipush {n : Int} (d : decode (am_cc μ) pc = .ok (.bipush n, 2)) (hn : -128 ≤ n ∧ n ≤ 127) (k : amT μ (pc + 2) L (vI n :: S) h Q) : amT μ pc L S h Q :=
  t_step (q := (pc + 2, L, vI n :: S, h)) d rfl rfl rfl rfl (if_pos hn) k
theorem kr_sipush {n : Int} (d : decode (am_cc μ) pc = .ok (.sipush n, 3)) (hn : -32768 ≤ n ∧ n ≤ 32767) (k : amT μ (pc + 3) L (vI n :: S) h Q) : amT μ pc L S h Q :=
  t_step (q := (pc + 3, L, vI n :: S, h)) d rfl rfl rfl rfl (if_pos hn) k
theorem kr_lconst {n : Fin 2} (d : decode (am_cc μ) pc = .ok (.lconst n, 1)) (k : amT μ (pc + 1) L (vL (n.val : Int) :: S) h Q) : amT μ pc L S h Q :=
  t_step (q := (pc + 1, L, vL (n.val : Int) :: S, h)) d rfl rfl rfl rfl rfl k
theorem kr_ldc {ix : Nat} {x : Int} (d : decode (am_cc μ) pc = .ok (.ldc ix, 2)) (hx : am_lk ix (am_lrT (am_own μ)) = some x) (k : amT μ (pc + 2) L (vI x :: S) h Q) : amT μ pc L S h Q := by
  refine t_step (q := (pc + 2, L, vI x :: S, h)) d rfl rfl rfl rfl ?_ k
  show am_lc2 (am_own μ) pc L S h ix = _
  unfold am_lc2
  rw [hx]
theorem kr_iload {k : Nat} {x : Int} (d : decode (am_cc μ) pc = .ok (.iload k, 2)) (hl : L[k]? = some (vI x)) (kk : amT μ (pc + 2) L (vI x :: S) h Q) : amT μ pc L S h Q := by
  refine t_step (q := (pc + 2, L, vI x :: S, h)) d rfl rfl rfl rfl ?_ kk
  show am_ld pc L S h k 2 true = _
  unfold am_ld
  rw [hl]
  rfl
theorem kr_iload_n {k : Fin 4} {x : Int} (d : decode (am_cc μ) pc = .ok (.iload_n k, 1)) (hl : L[k.val]? = some (vI x)) (kk : amT μ (pc + 1) L (vI x :: S) h Q) : amT μ pc L S h Q := by
  refine t_step (q := (pc + 1, L, vI x :: S, h)) d rfl rfl rfl rfl ?_ kk
  show am_ld pc L S h k.val 1 true = _
  unfold am_ld
  rw [hl]
  rfl
theorem kr_aload {k : Nat} {a : Nat} (d : decode (am_cc μ) pc = .ok (.aload k, 2)) (hl : L[k]? = some (vR a)) (kk : amT μ (pc + 2) L (vR a :: S) h Q) : amT μ pc L S h Q := by
  refine t_step (q := (pc + 2, L, vR a :: S, h)) d rfl rfl rfl rfl ?_ kk
  show am_ld pc L S h k 2 false = _
  unfold am_ld
  rw [hl]
  rfl
theorem kr_aload_n {k : Fin 4} {a : Nat} (d : decode (am_cc μ) pc = .ok (.aload_n k, 1)) (hl : L[k.val]? = some (vR a)) (kk : amT μ (pc + 1) L (vR a :: S) h Q) : amT μ pc L S h Q := by
  refine t_step (q := (pc + 1, L, vR a :: S, h)) d rfl rfl rfl rfl ?_ kk
  show am_ld pc L S h k.val 1 false = _
  unfold am_ld
  rw [hl]
  rfl
theorem kr_istore {k : Nat} {x : Int} (d : decode (am_cc μ) pc = .ok (.istore k, 2)) (hl : k ≤ L.length) (hm : k < am_mx μ) (kk : amT μ (pc + 2) (stl L k (vI x)) S h Q) : amT μ pc L (vI x :: S) h Q := by
  refine t_step (q := (pc + 2, stl L k (vI x), S, h)) d rfl rfl rfl rfl ?_ kk
  show am_sv pc L (vI x :: S) h k 2 (am_mx μ) true = _
  unfold am_sv am_st
  rw [← stl_eq hl]
  dsimp only
  rw [if_pos ⟨rfl, hm⟩, if_pos hl]
  rfl
theorem kr_istore_n {k : Fin 4} {x : Int} (d : decode (am_cc μ) pc = .ok (.istore_n k, 1)) (hl : k.val ≤ L.length) (hm : k.val < am_mx μ) (kk : amT μ (pc + 1) (stl L k.val (vI x)) S h Q) : amT μ pc L (vI x :: S) h Q := by
  refine t_step (q := (pc + 1, stl L k.val (vI x), S, h)) d rfl rfl rfl rfl ?_ kk
  show am_sv pc L (vI x :: S) h k.val 1 (am_mx μ) true = _
  unfold am_sv am_st
  rw [← stl_eq hl]
  dsimp only
  rw [if_pos ⟨rfl, hm⟩, if_pos hl]
  rfl
theorem kr_astore {k : Nat} {x : Nat} (d : decode (am_cc μ) pc = .ok (.astore k, 2)) (hl : k ≤ L.length) (hm : k < am_mx μ) (kk : amT μ (pc + 2) (stl L k (vR x)) S h Q) : amT μ pc L (vR x :: S) h Q := by
  refine t_step (q := (pc + 2, stl L k (vR x), S, h)) d rfl rfl rfl rfl ?_ kk
  show am_sv pc L (vR x :: S) h k 2 (am_mx μ) false = _
  unfold am_sv am_st
  rw [← stl_eq hl]
  dsimp only
  rw [if_pos ⟨(by decide), hm⟩, if_pos hl]
  rfl
theorem kr_astore_n {k : Fin 4} {x : Nat} (d : decode (am_cc μ) pc = .ok (.astore_n k, 1)) (hl : k.val ≤ L.length) (hm : k.val < am_mx μ) (kk : amT μ (pc + 1) (stl L k.val (vR x)) S h Q) : amT μ pc L (vR x :: S) h Q := by
  refine t_step (q := (pc + 1, stl L k.val (vR x), S, h)) d rfl rfl rfl rfl ?_ kk
  show am_sv pc L (vR x :: S) h k.val 1 (am_mx μ) false = _
  unfold am_sv am_st
  rw [← stl_eq hl]
  dsimp only
  rw [if_pos ⟨(by decide), hm⟩, if_pos hl]
  rfl
theorem kr_iinc {k : Nat} {n x : Int} (d : decode (am_cc μ) pc = .ok (.iinc k n, 3)) (hl : L[k]? = some (vI x)) (hr : inr32 (x + n) ∧ inr32 n ∧ k < am_mx μ) (kk : amT μ (pc + 3) (stl L k (vI (x + n))) S h Q) : amT μ pc L S h Q := by
  refine t_step (q := (pc + 3, stl L k (vI (x + n)), S, h)) d rfl rfl rfl rfl ?_ kk
  show am_ic pc L S h k n (am_mx μ) = _
  unfold am_ic
  rw [← stl_eq (Nat.le_of_lt (List.getElem?_eq_some_iff.mp hl).1), hl]
  dsimp only
  rw [if_pos hr]
theorem kr_iadd {x y : Int} (d : decode (am_cc μ) pc = .ok (.iadd, 1)) (hr : inr32 (x + y)) (kk : amT μ (pc + 1) L (vI (x + y) :: S) h Q) : amT μ pc L (vI y :: vI x :: S) h Q :=
  t_step (q := (pc + 1, L, vI (x + y) :: S, h)) d rfl rfl rfl rfl (if_pos hr) kk
theorem kr_isub {x y : Int} (d : decode (am_cc μ) pc = .ok (.isub, 1)) (hr : inr32 (x - y)) (kk : amT μ (pc + 1) L (vI (x - y) :: S) h Q) : amT μ pc L (vI y :: vI x :: S) h Q :=
  t_step (q := (pc + 1, L, vI (x - y) :: S, h)) d rfl rfl rfl rfl (if_pos hr) kk
theorem kr_imul {x y : Int} (d : decode (am_cc μ) pc = .ok (.imul, 1)) (hr : inr32 (x * y)) (kk : amT μ (pc + 1) L (vI (x * y) :: S) h Q) : amT μ pc L (vI y :: vI x :: S) h Q :=
  t_step (q := (pc + 1, L, vI (x * y) :: S, h)) d rfl rfl rfl rfl (if_pos hr) kk
theorem kr_irem {x y : Int} (d : decode (am_cc μ) pc = .ok (.irem, 1)) (hr : 0 ≤ x ∧ 0 < y) (kk : amT μ (pc + 1) L (vI (x % y) :: S) h Q) : amT μ pc L (vI y :: vI x :: S) h Q :=
  t_step (q := (pc + 1, L, vI (x % y) :: S, h)) d rfl rfl rfl rfl (if_pos hr) kk
theorem kr_iand {x y : Int} (d : decode (am_cc μ) pc = .ok (.iand, 1)) (kk : amT μ (pc + 1) L (vI (am_bw 0 x y) :: S) h Q) : amT μ pc L (vI y :: vI x :: S) h Q :=
  t_step (q := (pc + 1, L, vI (am_bw 0 x y) :: S, h)) d rfl rfl rfl rfl rfl kk
theorem kr_ior {x y : Int} (d : decode (am_cc μ) pc = .ok (.ior, 1)) (kk : amT μ (pc + 1) L (vI (am_bw 1 x y) :: S) h Q) : amT μ pc L (vI y :: vI x :: S) h Q :=
  t_step (q := (pc + 1, L, vI (am_bw 1 x y) :: S, h)) d rfl rfl rfl rfl rfl kk
theorem kr_ixor {x y : Int} (d : decode (am_cc μ) pc = .ok (.ixor, 1)) (kk : amT μ (pc + 1) L (vI (am_bw 2 x y) :: S) h Q) : amT μ pc L (vI y :: vI x :: S) h Q :=
  t_step (q := (pc + 1, L, vI (am_bw 2 x y) :: S, h)) d rfl rfl rfl rfl rfl kk
theorem kr_ishl {x y : Int} (d : decode (am_cc μ) pc = .ok (.ishl, 1)) (kk : amT μ (pc + 1) L (vI (am_bw 3 x y) :: S) h Q) : amT μ pc L (vI y :: vI x :: S) h Q :=
  t_step (q := (pc + 1, L, vI (am_bw 3 x y) :: S, h)) d rfl rfl rfl rfl rfl kk
theorem kr_ishr {x y : Int} (d : decode (am_cc μ) pc = .ok (.ishr, 1)) (kk : amT μ (pc + 1) L (vI (am_bw 4 x y) :: S) h Q) : amT μ pc L (vI y :: vI x :: S) h Q :=
  t_step (q := (pc + 1, L, vI (am_bw 4 x y) :: S, h)) d rfl rfl rfl rfl rfl kk
theorem kr_i2l {x : Int} (d : decode (am_cc μ) pc = .ok (.i2l, 1)) (kk : amT μ (pc + 1) L (vL x :: S) h Q) : amT μ pc L (vI x :: S) h Q :=
  t_step (q := (pc + 1, L, vL x :: S, h)) d rfl rfl rfl rfl rfl kk
theorem kr_lcmp {x y : Int} (d : decode (am_cc μ) pc = .ok (.lcmp, 1)) (kk : amT μ (pc + 1) L (vI (if y < x then 1 else if x = y then 0 else -1) :: S) h Q) : amT μ pc L (vL y :: vL x :: S) h Q :=
  t_step (q := (pc + 1, L, vI (if y < x then 1 else if x = y then 0 else -1) :: S, h)) d rfl rfl rfl rfl rfl kk
theorem kr_dup {v : aV} (d : decode (am_cc μ) pc = .ok (.dup, 1)) (hc : am_c1 v = true) (kk : amT μ (pc + 1) L (v :: v :: S) h Q) : amT μ pc L (v :: S) h Q :=
  t_step (q := (pc + 1, L, v :: v :: S, h)) d rfl rfl rfl rfl (if_pos hc) kk
theorem kr_dup2 {x y : aV} (d : decode (am_cc μ) pc = .ok (.dup2, 1)) (hc : am_c1 x = true ∧ am_c1 y = true) (kk : amT μ (pc + 1) L (y :: x :: y :: x :: S) h Q) : amT μ pc L (y :: x :: S) h Q :=
  t_step (q := (pc + 1, L, y :: x :: y :: x :: S, h)) d rfl rfl rfl rfl (if_pos hc) kk
theorem kr_goto {off : Int} {t : Nat} (d : decode (am_cc μ) pc = .ok (.goto off, 3)) (ht : am_tg pc off = some t) (kk : amT μ t L S h Q) : amT μ pc L S h Q := by
  refine t_step (q := (t, L, S, h)) d rfl rfl rfl rfl ?_ kk
  show (am_tg pc off).map _ = _
  rw [ht]
  rfl
theorem kr_if1 {c : ClassFile.Cond} {off x : Int} {t : Nat} (d : decode (am_cc μ) pc = .ok (.ifCond c off, 3)) (ht : am_tg pc off = some t) (kt : am_cd c x 0 = true → amT μ t L S h Q) (kf : ¬ am_cd c x 0 = true → amT μ (pc + 3) L S h Q) : amT μ pc L (vI x :: S) h Q := by
  refine t_step (q := (if am_cd c x 0 = true then t else pc + 3, L, S, h)) d rfl rfl rfl rfl ?_ ?_
  · show am_if1 pc L (vI x :: S) h c off = _
    unfold am_if1
    rw [ht]
  · dsimp only
    by_cases hc : am_cd c x 0 = true
    · rw [if_pos hc]; exact kt hc
    · rw [if_neg hc]; exact kf hc
theorem kr_if2 {c : ClassFile.Cond} {off x y : Int} {t : Nat} (d : decode (am_cc μ) pc = .ok (.if_icmp c off, 3)) (ht : am_tg pc off = some t) (kt : am_cd c x y = true → amT μ t L S h Q) (kf : ¬ am_cd c x y = true → amT μ (pc + 3) L S h Q) : amT μ pc L (vI y :: vI x :: S) h Q := by
  refine t_step (q := (if am_cd c x y = true then t else pc + 3, L, S, h)) d rfl rfl rfl rfl ?_ ?_
  · show am_if2 pc L (vI y :: vI x :: S) h c off = _
    unfold am_if2
    rw [ht]
  · dsimp only
    by_cases hc : am_cd c x y = true
    · rw [if_pos hc]; exact kt hc
    · rw [if_neg hc]; exact kf hc
theorem kr_if_eq {off x : Int} {t : Nat} (d : decode (am_cc μ) pc = .ok (.ifCond .eq off, 3)) (ht : am_tg pc off = some t) (kt : x = 0 → amT μ t L S h Q) (kf : ¬ x = 0 → amT μ (pc + 3) L S h Q) : amT μ pc L (vI x :: S) h Q :=
  kr_if1 d ht (fun hc => kt (by simp only [am_cd, decide_eq_true_eq] at hc; omega)) (fun hc => kf (by simp only [am_cd, decide_eq_true_eq] at hc; omega))
theorem kr_icmp_eq {off x y : Int} {t : Nat} (d : decode (am_cc μ) pc = .ok (.if_icmp .eq off, 3)) (ht : am_tg pc off = some t) (kt : x = y → amT μ t L S h Q) (kf : ¬ x = y → amT μ (pc + 3) L S h Q) : amT μ pc L (vI y :: vI x :: S) h Q :=
  kr_if2 d ht (fun hc => kt (by simp only [am_cd, decide_eq_true_eq] at hc; omega)) (fun hc => kf (by simp only [am_cd, decide_eq_true_eq] at hc; omega))
theorem kr_if_ne {off x : Int} {t : Nat} (d : decode (am_cc μ) pc = .ok (.ifCond .ne off, 3)) (ht : am_tg pc off = some t) (kt : ¬ x = 0 → amT μ t L S h Q) (kf : x = 0 → amT μ (pc + 3) L S h Q) : amT μ pc L (vI x :: S) h Q :=
  kr_if1 d ht (fun hc => kt (by simp only [am_cd, decide_eq_true_eq] at hc; omega)) (fun hc => kf (by simp only [am_cd, decide_eq_true_eq] at hc; omega))
theorem kr_icmp_ne {off x y : Int} {t : Nat} (d : decode (am_cc μ) pc = .ok (.if_icmp .ne off, 3)) (ht : am_tg pc off = some t) (kt : ¬ x = y → amT μ t L S h Q) (kf : x = y → amT μ (pc + 3) L S h Q) : amT μ pc L (vI y :: vI x :: S) h Q :=
  kr_if2 d ht (fun hc => kt (by simp only [am_cd, decide_eq_true_eq] at hc; omega)) (fun hc => kf (by simp only [am_cd, decide_eq_true_eq] at hc; omega))
theorem kr_if_lt {off x : Int} {t : Nat} (d : decode (am_cc μ) pc = .ok (.ifCond .lt off, 3)) (ht : am_tg pc off = some t) (kt : x < 0 → amT μ t L S h Q) (kf : 0 ≤ x → amT μ (pc + 3) L S h Q) : amT μ pc L (vI x :: S) h Q :=
  kr_if1 d ht (fun hc => kt (by simp only [am_cd, decide_eq_true_eq] at hc; omega)) (fun hc => kf (by simp only [am_cd, decide_eq_true_eq] at hc; omega))
theorem kr_icmp_lt {off x y : Int} {t : Nat} (d : decode (am_cc μ) pc = .ok (.if_icmp .lt off, 3)) (ht : am_tg pc off = some t) (kt : x < y → amT μ t L S h Q) (kf : y ≤ x → amT μ (pc + 3) L S h Q) : amT μ pc L (vI y :: vI x :: S) h Q :=
  kr_if2 d ht (fun hc => kt (by simp only [am_cd, decide_eq_true_eq] at hc; omega)) (fun hc => kf (by simp only [am_cd, decide_eq_true_eq] at hc; omega))
theorem kr_if_ge {off x : Int} {t : Nat} (d : decode (am_cc μ) pc = .ok (.ifCond .ge off, 3)) (ht : am_tg pc off = some t) (kt : 0 ≤ x → amT μ t L S h Q) (kf : x < 0 → amT μ (pc + 3) L S h Q) : amT μ pc L (vI x :: S) h Q :=
  kr_if1 d ht (fun hc => kt (by simp only [am_cd, decide_eq_true_eq] at hc; omega)) (fun hc => kf (by simp only [am_cd, decide_eq_true_eq] at hc; omega))
theorem kr_icmp_ge {off x y : Int} {t : Nat} (d : decode (am_cc μ) pc = .ok (.if_icmp .ge off, 3)) (ht : am_tg pc off = some t) (kt : y ≤ x → amT μ t L S h Q) (kf : x < y → amT μ (pc + 3) L S h Q) : amT μ pc L (vI y :: vI x :: S) h Q :=
  kr_if2 d ht (fun hc => kt (by simp only [am_cd, decide_eq_true_eq] at hc; omega)) (fun hc => kf (by simp only [am_cd, decide_eq_true_eq] at hc; omega))
theorem kr_if_gt {off x : Int} {t : Nat} (d : decode (am_cc μ) pc = .ok (.ifCond .gt off, 3)) (ht : am_tg pc off = some t) (kt : 0 < x → amT μ t L S h Q) (kf : x ≤ 0 → amT μ (pc + 3) L S h Q) : amT μ pc L (vI x :: S) h Q :=
  kr_if1 d ht (fun hc => kt (by simp only [am_cd, decide_eq_true_eq] at hc; omega)) (fun hc => kf (by simp only [am_cd, decide_eq_true_eq] at hc; omega))
theorem kr_icmp_gt {off x y : Int} {t : Nat} (d : decode (am_cc μ) pc = .ok (.if_icmp .gt off, 3)) (ht : am_tg pc off = some t) (kt : y < x → amT μ t L S h Q) (kf : x ≤ y → amT μ (pc + 3) L S h Q) : amT μ pc L (vI y :: vI x :: S) h Q :=
  kr_if2 d ht (fun hc => kt (by simp only [am_cd, decide_eq_true_eq] at hc; omega)) (fun hc => kf (by simp only [am_cd, decide_eq_true_eq] at hc; omega))
theorem kr_if_le {off x : Int} {t : Nat} (d : decode (am_cc μ) pc = .ok (.ifCond .le off, 3)) (ht : am_tg pc off = some t) (kt : x ≤ 0 → amT μ t L S h Q) (kf : 0 < x → amT μ (pc + 3) L S h Q) : amT μ pc L (vI x :: S) h Q :=
  kr_if1 d ht (fun hc => kt (by simp only [am_cd, decide_eq_true_eq] at hc; omega)) (fun hc => kf (by simp only [am_cd, decide_eq_true_eq] at hc; omega))
theorem kr_icmp_le {off x y : Int} {t : Nat} (d : decode (am_cc μ) pc = .ok (.if_icmp .le off, 3)) (ht : am_tg pc off = some t) (kt : x ≤ y → amT μ t L S h Q) (kf : y < x → amT μ (pc + 3) L S h Q) : amT μ pc L (vI y :: vI x :: S) h Q :=
  kr_if2 d ht (fun hc => kt (by simp only [am_cd, decide_eq_true_eq] at hc; omega)) (fun hc => kf (by simp only [am_cd, decide_eq_true_eq] at hc; omega))
theorem kr_geti {ix a c k : Nat} {x : Int} (d : decode (am_cc μ) pc = .ok (.getfield ix, 3)) (hf : am_lk ix (am_frT (am_own μ)) = some (c, k)) (hk : ¬ am_fk c k = 0) (hs : hsh h a = (c + 1, am_fN c)) (hv : hiv h a k = x) (kk : amT μ (pc + 3) L (vI x :: S) h Q) : amT μ pc L (vR a :: S) h Q := by
  refine t_step (q := (pc + 3, L, vI x :: S, h)) d rfl rfl rfl rfl ?_ kk
  show am_gf (am_own μ) pc L (vR a :: S) h ix = _
  unfold am_gf
  rw [hf]
  dsimp only
  rw [if_pos hs, if_neg hk, hv]
theorem kr_getr {ix a c k b : Nat} (d : decode (am_cc μ) pc = .ok (.getfield ix, 3)) (hf : am_lk ix (am_frT (am_own μ)) = some (c, k)) (hk : am_fk c k = 0) (hs : hsh h a = (c + 1, am_fN c)) (hv : hrf h a k = some b) (kk : amT μ (pc + 3) L (vR b :: S) h Q) : amT μ pc L (vR a :: S) h Q := by
  refine t_step (q := (pc + 3, L, vR b :: S, h)) d rfl rfl rfl rfl ?_ kk
  show am_gf (am_own μ) pc L (vR a :: S) h ix = _
  unfold am_gf
  rw [hf]
  dsimp only
  rw [if_pos hs, if_pos hk, hv]
theorem kr_puti {ix a c k : Nat} {x : Int} (d : decode (am_cc μ) pc = .ok (.putfield ix, 3)) (hf : am_lk ix (am_frT (am_own μ)) = some (c, k)) (hk : am_fk c k = 1 ∨ am_fk c k = 2 ∧ (x = 0 ∨ x = 1)) (hn : am_ff c k = true → am_ini μ = true ∧ c = am_own μ) (hs : hsh h a = (c + 1, am_fN c)) (kk : amT μ (pc + 3) L S (hwi h a k x) Q) : amT μ pc L (vI x :: vR a :: S) h Q := by
  refine t_step (q := (pc + 3, L, S, hwi h a k x)) d rfl rfl rfl rfl ?_ kk
  show am_pf (am_own μ) (am_ini μ) pc L (vI x :: vR a :: S) h ix = _
  unfold am_pf
  rw [hf]
  dsimp only
  rw [if_pos ⟨hs, hk, hn⟩]
theorem kr_putr {ix a c k b : Nat} (d : decode (am_cc μ) pc = .ok (.putfield ix, 3)) (hf : am_lk ix (am_frT (am_own μ)) = some (c, k)) (hk : am_fk c k = 0) (hn : am_ff c k = true → am_ini μ = true ∧ c = am_own μ) (hs : hsh h a = (c + 1, am_fN c)) (kk : amT μ (pc + 3) L S (hwr h a k (some b)) Q) : amT μ pc L (vR b :: vR a :: S) h Q := by
  refine t_step (q := (pc + 3, L, S, hwr h a k (some b))) d rfl rfl rfl rfl ?_ kk
  show am_pf (am_own μ) (am_ini μ) pc L (vR b :: vR a :: S) h ix = _
  unfold am_pf
  rw [hf]
  dsimp only
  rw [if_pos ⟨hs, hk, hn⟩]
theorem kr_new {ix c ic : Nat} (d : decode (am_cc μ) pc = .ok (.new ix, 3)) (d4 : decode (am_cc μ) (pc + 4) = .ok (.invokespecial ic, 3)) (hf : am_lk ix (am_crT (am_own μ)) = some c) (kk : amT μ (pc + 3) L (vR (hnx h) :: S) (hnw h (c + 1) (am_fN c)) Q) : amT μ pc L S h Q := by
  refine t_step (q := (pc + 3, L, vR (hnx h) :: S, hnw h (c + 1) (am_fN c))) d rfl rfl ?_ rfl ?_ kk
  · unfold am_thr
    rw [d4]
    generalize decode (am_cc μ) (pc + 3) = x1
    generalize decode (am_cc μ) (pc + 6) = x2
    generalize decode (am_cc μ) (pc + 9) = x3
    dsimp only
    split
    · rename_i e1 e2 e3 e4
      cases e4
    · rfl
  · show am_nw (am_own μ) pc L S h ix = _
    unfold am_nw
    rw [hf]
theorem kr_newi {n : Int} (d : decode (am_cc μ) pc = .ok (.newarray .int, 2)) (hn : 0 ≤ n ∧ n ≤ 1000) (kk : amT μ (pc + 2) L (vR (hnx h) :: S) (hnw h 20 n.toNat) Q) : amT μ pc L (vI n :: S) h Q :=
  t_step (q := (pc + 2, L, vR (hnx h) :: S, hnw h 20 n.toNat)) d rfl rfl rfl rfl (if_pos hn) kk
theorem kr_newl {n : Int} (d : decode (am_cc μ) pc = .ok (.newarray .long, 2)) (hn : 0 ≤ n ∧ n ≤ 1000) (kk : amT μ (pc + 2) L (vR (hnx h) :: S) (hnw h 21 n.toNat) Q) : amT μ pc L (vI n :: S) h Q :=
  t_step (q := (pc + 2, L, vR (hnx h) :: S, hnw h 21 n.toNat)) d rfl rfl rfl rfl (if_pos hn) kk
theorem kr_newq {ix c : Nat} {n : Int} (d : decode (am_cc μ) pc = .ok (.anewarray ix, 3)) (hf : am_lk ix (am_arT (am_own μ)) = some c) (hn : 0 ≤ n ∧ n ≤ 1000) (kk : amT μ (pc + 3) L (vR (hnx h) :: S) (hnw h (22 + c) n.toNat) Q) : amT μ pc L (vI n :: S) h Q := by
  refine t_step (q := (pc + 3, L, vR (hnx h) :: S, hnw h (22 + c) n.toNat)) d rfl rfl rfl rfl ?_ kk
  show am_na2 (am_own μ) pc L (vI n :: S) h ix = _
  unfold am_na2
  rw [hf]
  dsimp only
  rw [if_pos hn]
theorem kr_newm {ix : Nat} {n k : Int} (d : decode (am_cc μ) pc = .ok (.multianewarray ix 2, 4)) (hn : am_own μ = 1 ∧ ix = 17 ∧ 2 = 2 ∧ 0 ≤ n ∧ n ≤ 1000 ∧ 0 ≤ k ∧ k ≤ 1000) (kk : amT μ (pc + 4) L (vR (hnx h) :: S) (hml h n.toNat k.toNat) Q) : amT μ pc L (vI k :: vI n :: S) h Q :=
  t_step (q := (pc + 4, L, vR (hnx h) :: S, hml h n.toNat k.toNat)) d rfl rfl rfl rfl (if_pos hn) kk
theorem kr_alen {a t n : Nat} (d : decode (am_cc μ) pc = .ok (.arraylength, 1)) (hs : hsh h a = (t, n)) (ht : 20 ≤ t) (kk : amT μ (pc + 1) L (vI (n : Int) :: S) h Q) : amT μ pc L (vR a :: S) h Q := by
  refine t_step (q := (pc + 1, L, vI (n : Int) :: S, h)) d rfl rfl rfl rfl ?_ kk
  show am_al pc L (vR a :: S) h = _
  unfold am_al
  dsimp only
  rw [hs]
  exact if_pos ht
theorem kr_iald {a n : Nat} {i x : Int} (d : decode (am_cc μ) pc = .ok (.iaload, 1)) (hs : hsh h a = (20, n)) (h0 : 0 ≤ i) (h1 : i < (n : Int)) (hv : hiv h a i.toNat = x) (kk : amT μ (pc + 1) L (vI x :: S) h Q) : amT μ pc L (vI i :: vR a :: S) h Q := by
  refine t_step (q := (pc + 1, L, vI x :: S, h)) d rfl rfl rfl rfl ?_ kk
  show am_il pc L (vI i :: vR a :: S) h = _
  unfold am_il
  dsimp only
  rw [hs]
  dsimp only
  rw [if_pos ⟨Or.inl rfl, h0, h1⟩, hv]
theorem kr_sald {a n : Nat} {i x : Int} (d : decode (am_cc μ) pc = .ok (.iaload, 1)) (hs : hsh h a = (50, n)) (h0 : 0 ≤ i) (h1 : i < (n : Int)) (hv : hiv h a i.toNat = x) (kk : amT μ (pc + 1) L (vI x :: S) h Q) : amT μ pc L (vI i :: vR a :: S) h Q := by
  refine t_step (q := (pc + 1, L, vI x :: S, h)) d rfl rfl rfl rfl ?_ kk
  show am_il pc L (vI i :: vR a :: S) h = _
  unfold am_il
  dsimp only
  rw [hs]
  dsimp only
  rw [if_pos ⟨Or.inr rfl, h0, h1⟩, hv]
theorem kr_iast {a n : Nat} {i x : Int} (d : decode (am_cc μ) pc = .ok (.iastore, 1)) (hs : hsh h a = (20, n)) (h0 : 0 ≤ i) (h1 : i < (n : Int)) (kk : amT μ (pc + 1) L S (hwi h a i.toNat x) Q) : amT μ pc L (vI x :: vI i :: vR a :: S) h Q := by
  refine t_step (q := (pc + 1, L, S, hwi h a i.toNat x)) d rfl rfl rfl rfl ?_ kk
  show am_is pc L (vI x :: vI i :: vR a :: S) h = _
  unfold am_is
  dsimp only
  rw [hs]
  dsimp only
  rw [if_pos ⟨rfl, h0, h1⟩]
theorem kr_lald {a n : Nat} {i x : Int} (d : decode (am_cc μ) pc = .ok (.laload, 1)) (hs : hsh h a = (21, n)) (h0 : 0 ≤ i) (h1 : i < (n : Int)) (hv : hiv h a i.toNat = x) (kk : amT μ (pc + 1) L (vL x :: S) h Q) : amT μ pc L (vI i :: vR a :: S) h Q := by
  refine t_step (q := (pc + 1, L, vL x :: S, h)) d rfl rfl rfl rfl ?_ kk
  show am_ll pc L (vI i :: vR a :: S) h = _
  unfold am_ll
  dsimp only
  rw [hs]
  dsimp only
  rw [if_pos ⟨rfl, h0, h1⟩, hv]
theorem kr_last {a n : Nat} {i x : Int} (d : decode (am_cc μ) pc = .ok (.lastore, 1)) (hs : hsh h a = (21, n)) (h0 : 0 ≤ i) (h1 : i < (n : Int)) (kk : amT μ (pc + 1) L S (hwi h a i.toNat x) Q) : amT μ pc L (vL x :: vI i :: vR a :: S) h Q := by
  refine t_step (q := (pc + 1, L, S, hwi h a i.toNat x)) d rfl rfl rfl rfl ?_ kk
  show am_ls pc L (vL x :: vI i :: vR a :: S) h = _
  unfold am_ls
  dsimp only
  rw [hs]
  dsimp only
  rw [if_pos ⟨rfl, h0, h1⟩]
theorem kr_aald {a t n b : Nat} {i : Int} (d : decode (am_cc μ) pc = .ok (.aaload, 1)) (hs : hsh h a = (t, n)) (ht : t = 40 ∨ 22 ≤ t ∧ t ≤ 30) (h0 : 0 ≤ i) (h1 : i < (n : Int)) (hv : hrf h a i.toNat = some b) (kk : amT μ (pc + 1) L (vR b :: S) h Q) : amT μ pc L (vI i :: vR a :: S) h Q := by
  refine t_step (q := (pc + 1, L, vR b :: S, h)) d rfl rfl rfl rfl ?_ kk
  show am_rl pc L (vI i :: vR a :: S) h = _
  unfold am_rl
  dsimp only
  rw [hs]
  dsimp only
  rw [if_pos ⟨ht, h0, h1⟩, hv]
theorem kr_aast {a c n b : Nat} {i : Int} (d : decode (am_cc μ) pc = .ok (.aastore, 1)) (hs : hsh h a = (22 + c, n)) (hc : c ≤ 8) (hb : hsh h b = (c + 1, am_fN c)) (h0 : 0 ≤ i) (h1 : i < (n : Int)) (kk : amT μ (pc + 1) L S (hwr h a i.toNat (some b)) Q) : amT μ pc L (vR b :: vI i :: vR a :: S) h Q := by
  refine t_step (q := (pc + 1, L, S, hwr h a i.toNat (some b))) d rfl rfl rfl rfl ?_ kk
  show am_rs pc L (vR b :: vI i :: vR a :: S) h = _
  unfold am_rs
  dsimp only
  rw [hs]
  dsimp only
  rw [if_pos ⟨by omega, by omega, by rw [hb, show 22 + c - 22 = c by omega], h0, h1⟩]
theorem kr_obj {ix a : Nat} (d : decode (am_cc μ) pc = .ok (.invokespecial ix, 3)) (hc : am_call (am_own μ) (.invokespecial ix) = none) (ho : am_own μ ≤ 8 ∧ am_obT (am_own μ) = ix ∧ 1 ≤ am_nF μ ∧ 20 ≤ am_nL μ ∧ am_wd S ≤ 8) (kk : amT μ (pc + 3) L S h Q) : amT μ pc L (vR a :: S) h Q :=
  t_step (q := (pc + 3, L, S, h)) d rfl rfl rfl hc (if_pos ho) kk
theorem kr_min {ix : Nat} {x y : Int} (d : decode (am_cc μ) pc = .ok (.invokestatic ix, 3)) (hc : am_call (am_own μ) (.invokestatic ix) = none) (ho : am_own μ = 2 ∧ ix = 76 ∧ 1 ≤ am_nF μ ∧ 24 ≤ am_nL μ ∧ am_wd S ≤ 8) (kk : amT μ (pc + 3) L (vI (if y < x then y else x) :: S) h Q) : amT μ pc L (vI y :: vI x :: S) h Q :=
  t_step (q := (pc + 3, L, vI (if y < x then y else x) :: S, h)) d rfl rfl rfl hc (if_pos ho) kk
theorem kr_ireturn {x : Int} (d : decode (am_cc μ) pc = .ok (.ireturn, 1)) (hr : am_okr (am_rt μ) (some (vI x)) = true) (k : Q (.inl (some (vI x)), h)) : amT μ pc L [vI x] h Q := t_ret d rfl rfl hr k
theorem kr_areturn {a : Nat} (d : decode (am_cc μ) pc = .ok (.areturn, 1)) (hr : am_okr (am_rt μ) (some (vR a)) = true) (k : Q (.inl (some (vR a)), h)) : amT μ pc L [vR a] h Q := t_ret d rfl rfl hr k
theorem kr_return {d0 : Unit} (d : decode (am_cc μ) pc = .ok (.return_, 1)) (hr : am_okr (am_rt μ) none = true) (k : Q (.inl none, h)) : amT μ pc L [] h Q := t_ret d rfl rfl hr k
/-- behind a call -/
def kQ (μ : aM) (pc : Nat) (L S : List aV) (Q : aR → Prop) : aR → Prop
  | (.inl none, h') => amT μ (pc + 3) L S h' Q
  | (.inl (some v), h') => amT μ (pc + 3) L (v :: S) h' Q
  | (.inr E, h') => match am_hd (am_hh μ) pc E with
    | none => Q (.inr E, h')
    | some t => match am_ha μ t with
      | none => False
      | some (pc', j) => amT μ pc' (L.take j) [] h' Q
theorem kQ_tQ {ν : aM} {n : Nat} {S' : List aV} {r : aR} (hn : am_na ν = n) (hS : S.drop n = S') (h : kQ μ pc L S' Q r) : tQ μ ν pc L S Q r := by
  subst hn
  subst hS
  obtain ⟨o, h'⟩ := r
  rcases o with v | E
  · cases v with
    | none => exact h
    | some v => exact h
  · exact h
/-- a call's room -/
def am_cok (μ ν : aM) (n : Nat) : Bool := decide (am_na ν = n) && decide (am_nF ν + 1 ≤ am_nF μ) && decide (8 + (am_mx ν + 11) + am_nL ν ≤ am_nL μ)
theorem cok_of {ν : aM} {n k : Nat} {S' : List aV} (hc : am_cok μ ν n = true) (hl : n ≤ S.length) (hS : S.drop n = S') (hw : am_wd S' ≤ 8) (ha : (S.take n).all am_c1 = true) (hr : am_rc k ν (S.take n).reverse h = true) : am_ok k μ ν S h := by
  unfold am_cok at hc
  simp only [Bool.and_eq_true, decide_eq_true_eq] at hc
  obtain ⟨⟨rfl, h2⟩, h3⟩ := hc
  exact ⟨hl, by rw [hS]; exact hw, h2, h3, ha, hr⟩
theorem kr_s0 {ix : Nat} {ν : aM} (d : decode (am_cc μ) pc = .ok (.invokestatic ix, 3)) (hc : am_call (am_own μ) (.invokestatic ix) = some (0, ν)) (ok : am_cok μ ν 0 = true) (hw : am_wd S ≤ 8)  (c : amT ν 0 [] [] h (kQ μ pc L S Q)) : amT μ pc L (S) h Q := by
  have hna : am_na ν = 0 := by unfold am_cok at ok; simp only [Bool.and_eq_true, decide_eq_true_eq] at ok; exact ok.1.1
  refine t_call d rfl rfl rfl hc (cok_of (n := 0) (S' := S) ok (by simp) rfl hw (by simp) (by unfold am_rc; rfl)) ?_
  rw [hna]
  exact amT.mono c (fun r hr => kQ_tQ hna rfl hr)
theorem kr_v0 {ix b : Nat} {ν : aM} (d : decode (am_cc μ) pc = .ok (.invokevirtual ix, 3)) (hc : am_call (am_own μ) (.invokevirtual ix) = some (1, ν)) (ok : am_cok μ ν 1 = true) (hb : hsh h b = (am_own ν + 1, am_fN (am_own ν))) (hw : am_wd S ≤ 8)  (c : amT ν 0 [vR b] [] h (kQ μ pc L S Q)) : amT μ pc L (vR b :: S) h Q := by
  have hna : am_na ν = 1 := by unfold am_cok at ok; simp only [Bool.and_eq_true, decide_eq_true_eq] at ok; exact ok.1.1
  refine t_call d rfl rfl rfl hc (cok_of (n := 1) (S' := S) ok (by simp) rfl hw (by simp [show am_c1 (vR b) = true from rfl]) (decide_eq_true hb)) ?_
  rw [hna]
  exact amT.mono c (fun r hr => kQ_tQ hna rfl hr)
theorem kr_s1 {ix : Nat} {ν : aM} {x1 : aV} (d : decode (am_cc μ) pc = .ok (.invokestatic ix, 3)) (hc : am_call (am_own μ) (.invokestatic ix) = some (0, ν)) (ok : am_cok μ ν 1 = true) (hw : am_wd S ≤ 8) (h1 : am_c1 x1 = true) (c : amT ν 0 [x1] [] h (kQ μ pc L S Q)) : amT μ pc L (x1 :: S) h Q := by
  have hna : am_na ν = 1 := by unfold am_cok at ok; simp only [Bool.and_eq_true, decide_eq_true_eq] at ok; exact ok.1.1
  refine t_call d rfl rfl rfl hc (cok_of (n := 1) (S' := S) ok (by simp) rfl hw (by simp [h1]) (by unfold am_rc; rfl)) ?_
  rw [hna]
  exact amT.mono c (fun r hr => kQ_tQ hna rfl hr)
theorem kr_v1 {ix b : Nat} {ν : aM} {x1 : aV} (d : decode (am_cc μ) pc = .ok (.invokevirtual ix, 3)) (hc : am_call (am_own μ) (.invokevirtual ix) = some (1, ν)) (ok : am_cok μ ν 2 = true) (hb : hsh h b = (am_own ν + 1, am_fN (am_own ν))) (hw : am_wd S ≤ 8) (h1 : am_c1 x1 = true) (c : amT ν 0 [vR b, x1] [] h (kQ μ pc L S Q)) : amT μ pc L (x1 :: vR b :: S) h Q := by
  have hna : am_na ν = 2 := by unfold am_cok at ok; simp only [Bool.and_eq_true, decide_eq_true_eq] at ok; exact ok.1.1
  refine t_call d rfl rfl rfl hc (cok_of (n := 2) (S' := S) ok (by simp) rfl hw (by simp [show am_c1 (vR b) = true from rfl, h1]) (decide_eq_true hb)) ?_
  rw [hna]
  exact amT.mono c (fun r hr => kQ_tQ hna rfl hr)
theorem kr_s2 {ix : Nat} {ν : aM} {x1 x2 : aV} (d : decode (am_cc μ) pc = .ok (.invokestatic ix, 3)) (hc : am_call (am_own μ) (.invokestatic ix) = some (0, ν)) (ok : am_cok μ ν 2 = true) (hw : am_wd S ≤ 8) (h1 : am_c1 x1 = true) (h2 : am_c1 x2 = true) (c : amT ν 0 [x1, x2] [] h (kQ μ pc L S Q)) : amT μ pc L (x2 :: x1 :: S) h Q := by
  have hna : am_na ν = 2 := by unfold am_cok at ok; simp only [Bool.and_eq_true, decide_eq_true_eq] at ok; exact ok.1.1
  refine t_call d rfl rfl rfl hc (cok_of (n := 2) (S' := S) ok (by simp) rfl hw (by simp [h1, h2]) (by unfold am_rc; rfl)) ?_
  rw [hna]
  exact amT.mono c (fun r hr => kQ_tQ hna rfl hr)
theorem kr_v2 {ix b : Nat} {ν : aM} {x1 x2 : aV} (d : decode (am_cc μ) pc = .ok (.invokevirtual ix, 3)) (hc : am_call (am_own μ) (.invokevirtual ix) = some (1, ν)) (ok : am_cok μ ν 3 = true) (hb : hsh h b = (am_own ν + 1, am_fN (am_own ν))) (hw : am_wd S ≤ 8) (h1 : am_c1 x1 = true) (h2 : am_c1 x2 = true) (c : amT ν 0 [vR b, x1, x2] [] h (kQ μ pc L S Q)) : amT μ pc L (x2 :: x1 :: vR b :: S) h Q := by
  have hna : am_na ν = 3 := by unfold am_cok at ok; simp only [Bool.and_eq_true, decide_eq_true_eq] at ok; exact ok.1.1
  refine t_call d rfl rfl rfl hc (cok_of (n := 3) (S' := S) ok (by simp) rfl hw (by simp [show am_c1 (vR b) = true from rfl, h1, h2]) (decide_eq_true hb)) ?_
  rw [hna]
  exact amT.mono c (fun r hr => kQ_tQ hna rfl hr)
theorem kr_s3 {ix : Nat} {ν : aM} {x1 x2 x3 : aV} (d : decode (am_cc μ) pc = .ok (.invokestatic ix, 3)) (hc : am_call (am_own μ) (.invokestatic ix) = some (0, ν)) (ok : am_cok μ ν 3 = true) (hw : am_wd S ≤ 8) (h1 : am_c1 x1 = true) (h2 : am_c1 x2 = true) (h3 : am_c1 x3 = true) (c : amT ν 0 [x1, x2, x3] [] h (kQ μ pc L S Q)) : amT μ pc L (x3 :: x2 :: x1 :: S) h Q := by
  have hna : am_na ν = 3 := by unfold am_cok at ok; simp only [Bool.and_eq_true, decide_eq_true_eq] at ok; exact ok.1.1
  refine t_call d rfl rfl rfl hc (cok_of (n := 3) (S' := S) ok (by simp) rfl hw (by simp [h1, h2, h3]) (by unfold am_rc; rfl)) ?_
  rw [hna]
  exact amT.mono c (fun r hr => kQ_tQ hna rfl hr)
theorem kr_v3 {ix b : Nat} {ν : aM} {x1 x2 x3 : aV} (d : decode (am_cc μ) pc = .ok (.invokevirtual ix, 3)) (hc : am_call (am_own μ) (.invokevirtual ix) = some (1, ν)) (ok : am_cok μ ν 4 = true) (hb : hsh h b = (am_own ν + 1, am_fN (am_own ν))) (hw : am_wd S ≤ 8) (h1 : am_c1 x1 = true) (h2 : am_c1 x2 = true) (h3 : am_c1 x3 = true) (c : amT ν 0 [vR b, x1, x2, x3] [] h (kQ μ pc L S Q)) : amT μ pc L (x3 :: x2 :: x1 :: vR b :: S) h Q := by
  have hna : am_na ν = 4 := by unfold am_cok at ok; simp only [Bool.and_eq_true, decide_eq_true_eq] at ok; exact ok.1.1
  refine t_call d rfl rfl rfl hc (cok_of (n := 4) (S' := S) ok (by simp) rfl hw (by simp [show am_c1 (vR b) = true from rfl, h1, h2, h3]) (decide_eq_true hb)) ?_
  rw [hna]
  exact amT.mono c (fun r hr => kQ_tQ hna rfl hr)
theorem kr_s4 {ix : Nat} {ν : aM} {x1 x2 x3 x4 : aV} (d : decode (am_cc μ) pc = .ok (.invokestatic ix, 3)) (hc : am_call (am_own μ) (.invokestatic ix) = some (0, ν)) (ok : am_cok μ ν 4 = true) (hw : am_wd S ≤ 8) (h1 : am_c1 x1 = true) (h2 : am_c1 x2 = true) (h3 : am_c1 x3 = true) (h4 : am_c1 x4 = true) (c : amT ν 0 [x1, x2, x3, x4] [] h (kQ μ pc L S Q)) : amT μ pc L (x4 :: x3 :: x2 :: x1 :: S) h Q := by
  have hna : am_na ν = 4 := by unfold am_cok at ok; simp only [Bool.and_eq_true, decide_eq_true_eq] at ok; exact ok.1.1
  refine t_call d rfl rfl rfl hc (cok_of (n := 4) (S' := S) ok (by simp) rfl hw (by simp [h1, h2, h3, h4]) (by unfold am_rc; rfl)) ?_
  rw [hna]
  exact amT.mono c (fun r hr => kQ_tQ hna rfl hr)
theorem kr_v4 {ix b : Nat} {ν : aM} {x1 x2 x3 x4 : aV} (d : decode (am_cc μ) pc = .ok (.invokevirtual ix, 3)) (hc : am_call (am_own μ) (.invokevirtual ix) = some (1, ν)) (ok : am_cok μ ν 5 = true) (hb : hsh h b = (am_own ν + 1, am_fN (am_own ν))) (hw : am_wd S ≤ 8) (h1 : am_c1 x1 = true) (h2 : am_c1 x2 = true) (h3 : am_c1 x3 = true) (h4 : am_c1 x4 = true) (c : amT ν 0 [vR b, x1, x2, x3, x4] [] h (kQ μ pc L S Q)) : amT μ pc L (x4 :: x3 :: x2 :: x1 :: vR b :: S) h Q := by
  have hna : am_na ν = 5 := by unfold am_cok at ok; simp only [Bool.and_eq_true, decide_eq_true_eq] at ok; exact ok.1.1
  refine t_call d rfl rfl rfl hc (cok_of (n := 5) (S' := S) ok (by simp) rfl hw (by simp [show am_c1 (vR b) = true from rfl, h1, h2, h3, h4]) (decide_eq_true hb)) ?_
  rw [hna]
  exact amT.mono c (fun r hr => kQ_tQ hna rfl hr)
theorem kr_s5 {ix : Nat} {ν : aM} {x1 x2 x3 x4 x5 : aV} (d : decode (am_cc μ) pc = .ok (.invokestatic ix, 3)) (hc : am_call (am_own μ) (.invokestatic ix) = some (0, ν)) (ok : am_cok μ ν 5 = true) (hw : am_wd S ≤ 8) (h1 : am_c1 x1 = true) (h2 : am_c1 x2 = true) (h3 : am_c1 x3 = true) (h4 : am_c1 x4 = true) (h5 : am_c1 x5 = true) (c : amT ν 0 [x1, x2, x3, x4, x5] [] h (kQ μ pc L S Q)) : amT μ pc L (x5 :: x4 :: x3 :: x2 :: x1 :: S) h Q := by
  have hna : am_na ν = 5 := by unfold am_cok at ok; simp only [Bool.and_eq_true, decide_eq_true_eq] at ok; exact ok.1.1
  refine t_call d rfl rfl rfl hc (cok_of (n := 5) (S' := S) ok (by simp) rfl hw (by simp [h1, h2, h3, h4, h5]) (by unfold am_rc; rfl)) ?_
  rw [hna]
  exact amT.mono c (fun r hr => kQ_tQ hna rfl hr)
theorem kr_v5 {ix b : Nat} {ν : aM} {x1 x2 x3 x4 x5 : aV} (d : decode (am_cc μ) pc = .ok (.invokevirtual ix, 3)) (hc : am_call (am_own μ) (.invokevirtual ix) = some (1, ν)) (ok : am_cok μ ν 6 = true) (hb : hsh h b = (am_own ν + 1, am_fN (am_own ν))) (hw : am_wd S ≤ 8) (h1 : am_c1 x1 = true) (h2 : am_c1 x2 = true) (h3 : am_c1 x3 = true) (h4 : am_c1 x4 = true) (h5 : am_c1 x5 = true) (c : amT ν 0 [vR b, x1, x2, x3, x4, x5] [] h (kQ μ pc L S Q)) : amT μ pc L (x5 :: x4 :: x3 :: x2 :: x1 :: vR b :: S) h Q := by
  have hna : am_na ν = 6 := by unfold am_cok at ok; simp only [Bool.and_eq_true, decide_eq_true_eq] at ok; exact ok.1.1
  refine t_call d rfl rfl rfl hc (cok_of (n := 6) (S' := S) ok (by simp) rfl hw (by simp [show am_c1 (vR b) = true from rfl, h1, h2, h3, h4, h5]) (decide_eq_true hb)) ?_
  rw [hna]
  exact amT.mono c (fun r hr => kQ_tQ hna rfl hr)
theorem kr_s6 {ix : Nat} {ν : aM} {x1 x2 x3 x4 x5 x6 : aV} (d : decode (am_cc μ) pc = .ok (.invokestatic ix, 3)) (hc : am_call (am_own μ) (.invokestatic ix) = some (0, ν)) (ok : am_cok μ ν 6 = true) (hw : am_wd S ≤ 8) (h1 : am_c1 x1 = true) (h2 : am_c1 x2 = true) (h3 : am_c1 x3 = true) (h4 : am_c1 x4 = true) (h5 : am_c1 x5 = true) (h6 : am_c1 x6 = true) (c : amT ν 0 [x1, x2, x3, x4, x5, x6] [] h (kQ μ pc L S Q)) : amT μ pc L (x6 :: x5 :: x4 :: x3 :: x2 :: x1 :: S) h Q := by
  have hna : am_na ν = 6 := by unfold am_cok at ok; simp only [Bool.and_eq_true, decide_eq_true_eq] at ok; exact ok.1.1
  refine t_call d rfl rfl rfl hc (cok_of (n := 6) (S' := S) ok (by simp) rfl hw (by simp [h1, h2, h3, h4, h5, h6]) (by unfold am_rc; rfl)) ?_
  rw [hna]
  exact amT.mono c (fun r hr => kQ_tQ hna rfl hr)
theorem kr_v6 {ix b : Nat} {ν : aM} {x1 x2 x3 x4 x5 x6 : aV} (d : decode (am_cc μ) pc = .ok (.invokevirtual ix, 3)) (hc : am_call (am_own μ) (.invokevirtual ix) = some (1, ν)) (ok : am_cok μ ν 7 = true) (hb : hsh h b = (am_own ν + 1, am_fN (am_own ν))) (hw : am_wd S ≤ 8) (h1 : am_c1 x1 = true) (h2 : am_c1 x2 = true) (h3 : am_c1 x3 = true) (h4 : am_c1 x4 = true) (h5 : am_c1 x5 = true) (h6 : am_c1 x6 = true) (c : amT ν 0 [vR b, x1, x2, x3, x4, x5, x6] [] h (kQ μ pc L S Q)) : amT μ pc L (x6 :: x5 :: x4 :: x3 :: x2 :: x1 :: vR b :: S) h Q := by
  have hna : am_na ν = 7 := by unfold am_cok at ok; simp only [Bool.and_eq_true, decide_eq_true_eq] at ok; exact ok.1.1
  refine t_call d rfl rfl rfl hc (cok_of (n := 7) (S' := S) ok (by simp) rfl hw (by simp [show am_c1 (vR b) = true from rfl, h1, h2, h3, h4, h5, h6]) (decide_eq_true hb)) ?_
  rw [hna]
  exact amT.mono c (fun r hr => kQ_tQ hna rfl hr)
theorem kr_s7 {ix : Nat} {ν : aM} {x1 x2 x3 x4 x5 x6 x7 : aV} (d : decode (am_cc μ) pc = .ok (.invokestatic ix, 3)) (hc : am_call (am_own μ) (.invokestatic ix) = some (0, ν)) (ok : am_cok μ ν 7 = true) (hw : am_wd S ≤ 8) (h1 : am_c1 x1 = true) (h2 : am_c1 x2 = true) (h3 : am_c1 x3 = true) (h4 : am_c1 x4 = true) (h5 : am_c1 x5 = true) (h6 : am_c1 x6 = true) (h7 : am_c1 x7 = true) (c : amT ν 0 [x1, x2, x3, x4, x5, x6, x7] [] h (kQ μ pc L S Q)) : amT μ pc L (x7 :: x6 :: x5 :: x4 :: x3 :: x2 :: x1 :: S) h Q := by
  have hna : am_na ν = 7 := by unfold am_cok at ok; simp only [Bool.and_eq_true, decide_eq_true_eq] at ok; exact ok.1.1
  refine t_call d rfl rfl rfl hc (cok_of (n := 7) (S' := S) ok (by simp) rfl hw (by simp [h1, h2, h3, h4, h5, h6, h7]) (by unfold am_rc; rfl)) ?_
  rw [hna]
  exact amT.mono c (fun r hr => kQ_tQ hna rfl hr)
theorem kr_i0 {ix b k : Nat} {ν : aM} (d : decode (am_cc μ) pc = .ok (.invokespecial ix, 3)) (hc : am_call (am_own μ) (.invokespecial ix) = some (k, ν)) (hk : k = 2 ∨ k = 3) (ok : am_cok μ ν 1 = true) (hw : am_wd S ≤ 8) (c : amT ν 0 [vR b] [] h (kQ μ pc L S Q)) : amT μ pc L (vR b :: S) h Q := by
  have hna : am_na ν = 1 := by unfold am_cok at ok; simp only [Bool.and_eq_true, decide_eq_true_eq] at ok; exact ok.1.1
  refine t_call d rfl rfl rfl hc (cok_of (n := 1) (S' := S) ok (by simp) rfl hw (by simp [show am_c1 (vR b) = true from rfl]) (by rcases hk with rfl | rfl <;> rfl)) ?_
  rw [hna]
  exact amT.mono c (fun r hr => kQ_tQ hna rfl hr)
end TI
end
