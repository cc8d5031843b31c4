section
/-- a private method of a class that the tables say can be made, by its rows of tables_1 -/
def lw_okq (q : MethodName × Nat) : Prop := (q.1.cls ≠ "java/lang/invoke/MethodHandle" ∧ q.1.cls ≠ "java/lang/invoke/VarHandle") ∧ Cond.instantiable q.1.cls q.2 ∈ tables_1 ∧ Cond.privateMethod q.1 ∈ tables_1 ∧ Cond.instanceMethod q.1 ∈ tables_1
theorem lw_p0 : lw_okq (⟨"FontDesk$Draft", "makeRoom", "(I)V"⟩, 2) := ⟨⟨by decide +kernel, by decide +kernel⟩, List.mem_of_getElem? (i := 26) (by decide +kernel), List.mem_of_getElem? (i := 133) (by decide +kernel), List.mem_of_getElem? (i := 134) (by decide +kernel)⟩
theorem lw_p1 : lw_okq (⟨"FontDesk", "fontAt", "(I)LFontDesk$Font;"⟩, 6) := ⟨⟨by decide +kernel, by decide +kernel⟩, List.mem_of_getElem? (i := 18) (by decide +kernel), List.mem_of_getElem? (i := 185) (by decide +kernel), List.mem_of_getElem? (i := 186) (by decide +kernel)⟩
theorem lw_p2 : lw_okq (⟨"FontDesk$Font", "characterCount", "()I"⟩, 5) := ⟨⟨by decide +kernel, by decide +kernel⟩, List.mem_of_getElem? (i := 195) (by decide +kernel), List.mem_of_getElem? (i := 193) (by decide +kernel), List.mem_of_getElem? (i := 194) (by decide +kernel)⟩
theorem lw_p3 : lw_okq (⟨"java/lang/Throwable", "fillInStackTrace", "(I)Ljava/lang/Throwable;"⟩, 6) := ⟨⟨by decide +kernel, by decide +kernel⟩, List.mem_of_getElem? (i := 262) (by decide +kernel), List.mem_of_getElem? (i := 260) (by decide +kernel), List.mem_of_getElem? (i := 261) (by decide +kernel)⟩
theorem lw_p4 : lw_okq (⟨"FontDesk$Endings", "numberPrograms", "(LFontDesk$Font;)V"⟩, 6) := ⟨⟨by decide +kernel, by decide +kernel⟩, List.mem_of_getElem? (i := 42) (by decide +kernel), List.mem_of_getElem? (i := 442) (by decide +kernel), List.mem_of_getElem? (i := 443) (by decide +kernel)⟩
theorem lw_p5 : lw_okq (⟨"FontDesk$Endings", "clearTables", "()V"⟩, 6) := ⟨⟨by decide +kernel, by decide +kernel⟩, List.mem_of_getElem? (i := 42) (by decide +kernel), List.mem_of_getElem? (i := 455) (by decide +kernel), List.mem_of_getElem? (i := 456) (by decide +kernel)⟩
theorem lw_p6 : lw_okq (⟨"FontDesk$Endings", "noteSteps", "(LFontDesk$Font;I)V"⟩, 6) := ⟨⟨by decide +kernel, by decide +kernel⟩, List.mem_of_getElem? (i := 42) (by decide +kernel), List.mem_of_getElem? (i := 462) (by decide +kernel), List.mem_of_getElem? (i := 463) (by decide +kernel)⟩
theorem lw_p7 : lw_okq (⟨"FontDesk$Endings", "stateOf", "(I)I"⟩, 6) := ⟨⟨by decide +kernel, by decide +kernel⟩, List.mem_of_getElem? (i := 42) (by decide +kernel), List.mem_of_getElem? (i := 470) (by decide +kernel), List.mem_of_getElem? (i := 471) (by decide +kernel)⟩
theorem lw_p8 : lw_okq (⟨"FontDesk$Endings", "ends", "(LFontDesk$Font;I)Z"⟩, 6) := ⟨⟨by decide +kernel, by decide +kernel⟩, List.mem_of_getElem? (i := 42) (by decide +kernel), List.mem_of_getElem? (i := 474) (by decide +kernel), List.mem_of_getElem? (i := 475) (by decide +kernel)⟩
theorem lw_p9 : lw_okq (⟨"FontDesk$Endings", "awaitAnswer", "(II)I"⟩, 6) := ⟨⟨by decide +kernel, by decide +kernel⟩, List.mem_of_getElem? (i := 42) (by decide +kernel), List.mem_of_getElem? (i := 478) (by decide +kernel), List.mem_of_getElem? (i := 479) (by decide +kernel)⟩
theorem lw_p10 : lw_okq (⟨"FontDesk$Endings", "answer", "(LFontDesk$Font;I)I"⟩, 6) := ⟨⟨by decide +kernel, by decide +kernel⟩, List.mem_of_getElem? (i := 42) (by decide +kernel), List.mem_of_getElem? (i := 482) (by decide +kernel), List.mem_of_getElem? (i := 483) (by decide +kernel)⟩
theorem lw_p11 : lw_okq (⟨"FontDesk$Endings", "know", "(II)I"⟩, 6) := ⟨⟨by decide +kernel, by decide +kernel⟩, List.mem_of_getElem? (i := 42) (by decide +kernel), List.mem_of_getElem? (i := 489) (by decide +kernel), List.mem_of_getElem? (i := 490) (by decide +kernel)⟩
theorem lw_p12 : lw_okq (⟨"FontDesk$Endings", "answerAs", "(III)I"⟩, 6) := ⟨⟨by decide +kernel, by decide +kernel⟩, List.mem_of_getElem? (i := 42) (by decide +kernel), List.mem_of_getElem? (i := 493) (by decide +kernel), List.mem_of_getElem? (i := 494) (by decide +kernel)⟩
theorem lw_p13 : lw_okq (⟨"FontDesk$Endings", "endOf", "(II)I"⟩, 6) := ⟨⟨by decide +kernel, by decide +kernel⟩, List.mem_of_getElem? (i := 42) (by decide +kernel), List.mem_of_getElem? (i := 497) (by decide +kernel), List.mem_of_getElem? (i := 498) (by decide +kernel)⟩
theorem lw_p14 : lw_okq (⟨"FontDesk$Endings", "pairOf", "(II)I"⟩, 6) := ⟨⟨by decide +kernel, by decide +kernel⟩, List.mem_of_getElem? (i := 42) (by decide +kernel), List.mem_of_getElem? (i := 501) (by decide +kernel), List.mem_of_getElem? (i := 502) (by decide +kernel)⟩
theorem lw_p15 : lw_okq (⟨"FontDesk$Setting", "push", "(II)V"⟩, 10) := ⟨⟨by decide +kernel, by decide +kernel⟩, List.mem_of_getElem? (i := 68) (by decide +kernel), List.mem_of_getElem? (i := 589) (by decide +kernel), List.mem_of_getElem? (i := 590) (by decide +kernel)⟩
def lw_privs_1 : List (MethodName × Nat) := [(⟨"FontDesk$Draft", "makeRoom", "(I)V"⟩, 2), (⟨"FontDesk", "fontAt", "(I)LFontDesk$Font;"⟩, 6), (⟨"FontDesk$Font", "characterCount", "()I"⟩, 5), (⟨"java/lang/Throwable", "fillInStackTrace", "(I)Ljava/lang/Throwable;"⟩, 6), (⟨"FontDesk$Endings", "numberPrograms", "(LFontDesk$Font;)V"⟩, 6), (⟨"FontDesk$Endings", "clearTables", "()V"⟩, 6), (⟨"FontDesk$Endings", "noteSteps", "(LFontDesk$Font;I)V"⟩, 6), (⟨"FontDesk$Endings", "stateOf", "(I)I"⟩, 6), (⟨"FontDesk$Endings", "ends", "(LFontDesk$Font;I)Z"⟩, 6), (⟨"FontDesk$Endings", "awaitAnswer", "(II)I"⟩, 6), (⟨"FontDesk$Endings", "answer", "(LFontDesk$Font;I)I"⟩, 6), (⟨"FontDesk$Endings", "know", "(II)I"⟩, 6), (⟨"FontDesk$Endings", "answerAs", "(III)I"⟩, 6), (⟨"FontDesk$Endings", "endOf", "(II)I"⟩, 6), (⟨"FontDesk$Endings", "pairOf", "(II)I"⟩, 6), (⟨"FontDesk$Setting", "push", "(II)V"⟩, 10)]
theorem lw_r1 : ∀ q ∈ lw_privs_1, lw_okq q := List.forall_mem_cons.mpr ⟨lw_p0, List.forall_mem_cons.mpr ⟨lw_p1, List.forall_mem_cons.mpr ⟨lw_p2, List.forall_mem_cons.mpr ⟨lw_p3, List.forall_mem_cons.mpr ⟨lw_p4, List.forall_mem_cons.mpr ⟨lw_p5, List.forall_mem_cons.mpr ⟨lw_p6, List.forall_mem_cons.mpr ⟨lw_p7, List.forall_mem_cons.mpr ⟨lw_p8, List.forall_mem_cons.mpr ⟨lw_p9, List.forall_mem_cons.mpr ⟨lw_p10, List.forall_mem_cons.mpr ⟨lw_p11, List.forall_mem_cons.mpr ⟨lw_p12, List.forall_mem_cons.mpr ⟨lw_p13, List.forall_mem_cons.mpr ⟨lw_p14, List.forall_mem_cons.mpr ⟨lw_p15, fun _ h => absurd h List.not_mem_nil⟩⟩⟩⟩⟩⟩⟩⟩⟩⟩⟩⟩⟩⟩⟩⟩
theorem lw_p16 : lw_okq (⟨"FontDesk$Setting", "nextCode", "()I"⟩, 10) := ⟨⟨by decide +kernel, by decide +kernel⟩, List.mem_of_getElem? (i := 68) (by decide +kernel), List.mem_of_getElem? (i := 602) (by decide +kernel), List.mem_of_getElem? (i := 603) (by decide +kernel)⟩
theorem lw_p17 : lw_okq (⟨"FontDesk$Setting", "goOn", "()V"⟩, 10) := ⟨⟨by decide +kernel, by decide +kernel⟩, List.mem_of_getElem? (i := 68) (by decide +kernel), List.mem_of_getElem? (i := 612) (by decide +kernel), List.mem_of_getElem? (i := 613) (by decide +kernel)⟩
theorem lw_p18 : lw_okq (⟨"FontDesk$Setting", "passSign", "()V"⟩, 10) := ⟨⟨by decide +kernel, by decide +kernel⟩, List.mem_of_getElem? (i := 68) (by decide +kernel), List.mem_of_getElem? (i := 616) (by decide +kernel), List.mem_of_getElem? (i := 617) (by decide +kernel)⟩
theorem lw_p19 : lw_okq (⟨"FontDesk$Setting", "addItem", "(II)V"⟩, 10) := ⟨⟨by decide +kernel, by decide +kernel⟩, List.mem_of_getElem? (i := 68) (by decide +kernel), List.mem_of_getElem? (i := 620) (by decide +kernel), List.mem_of_getElem? (i := 621) (by decide +kernel)⟩
theorem lw_p20 : lw_okq (⟨"FontDesk$Setting", "pop", "()V"⟩, 10) := ⟨⟨by decide +kernel, by decide +kernel⟩, List.mem_of_getElem? (i := 68) (by decide +kernel), List.mem_of_getElem? (i := 624) (by decide +kernel), List.mem_of_getElem? (i := 625) (by decide +kernel)⟩
theorem lw_p21 : lw_okq (⟨"FontDesk$Setting", "kern", "(I)V"⟩, 10) := ⟨⟨by decide +kernel, by decide +kernel⟩, List.mem_of_getElem? (i := 68) (by decide +kernel), List.mem_of_getElem? (i := 634) (by decide +kernel), List.mem_of_getElem? (i := 635) (by decide +kernel)⟩
theorem lw_p22 : lw_okq (⟨"FontDesk$Setting", "ligature", "(II)V"⟩, 10) := ⟨⟨by decide +kernel, by decide +kernel⟩, List.mem_of_getElem? (i := 68) (by decide +kernel), List.mem_of_getElem? (i := 640) (by decide +kernel), List.mem_of_getElem? (i := 641) (by decide +kernel)⟩
theorem lw_p23 : lw_okq (⟨"FontDesk$Setting", "becomeLigature", "(I)V"⟩, 10) := ⟨⟨by decide +kernel, by decide +kernel⟩, List.mem_of_getElem? (i := 68) (by decide +kernel), List.mem_of_getElem? (i := 644) (by decide +kernel), List.mem_of_getElem? (i := 645) (by decide +kernel)⟩
theorem lw_p24 : lw_okq (⟨"FontDesk$Setting", "addUp", "(LFontDesk$Font;)V"⟩, 10) := ⟨⟨by decide +kernel, by decide +kernel⟩, List.mem_of_getElem? (i := 68) (by decide +kernel), List.mem_of_getElem? (i := 648) (by decide +kernel), List.mem_of_getElem? (i := 649) (by decide +kernel)⟩
theorem lw_p25 : lw_okq (⟨"FontDeskModel", "fails", "(I)I"⟩, 15) := ⟨⟨by decide +kernel, by decide +kernel⟩, List.mem_of_getElem? (i := 658) (by decide +kernel), List.mem_of_getElem? (i := 728) (by decide +kernel), List.mem_of_getElem? (i := 729) (by decide +kernel)⟩
theorem lw_p26 : lw_okq (⟨"FontDeskModel", "faultOf", "()I"⟩, 15) := ⟨⟨by decide +kernel, by decide +kernel⟩, List.mem_of_getElem? (i := 658) (by decide +kernel), List.mem_of_getElem? (i := 732) (by decide +kernel), List.mem_of_getElem? (i := 733) (by decide +kernel)⟩
theorem lw_p27 : lw_okq (⟨"FontDeskModel", "isWhole", "()Z"⟩, 15) := ⟨⟨by decide +kernel, by decide +kernel⟩, List.mem_of_getElem? (i := 658) (by decide +kernel), List.mem_of_getElem? (i := 736) (by decide +kernel), List.mem_of_getElem? (i := 737) (by decide +kernel)⟩
theorem lw_p28 : lw_okq (⟨"FontDeskModel", "half", "(I)I"⟩, 15) := ⟨⟨by decide +kernel, by decide +kernel⟩, List.mem_of_getElem? (i := 658) (by decide +kernel), List.mem_of_getElem? (i := 740) (by decide +kernel), List.mem_of_getElem? (i := 741) (by decide +kernel)⟩
theorem lw_p29 : lw_okq (⟨"FontDeskModel", "byteAt", "(I)I"⟩, 15) := ⟨⟨by decide +kernel, by decide +kernel⟩, List.mem_of_getElem? (i := 658) (by decide +kernel), List.mem_of_getElem? (i := 744) (by decide +kernel), List.mem_of_getElem? (i := 745) (by decide +kernel)⟩
theorem lw_p30 : lw_okq (⟨"FontDeskModel", "start", "(I)I"⟩, 15) := ⟨⟨by decide +kernel, by decide +kernel⟩, List.mem_of_getElem? (i := 658) (by decide +kernel), List.mem_of_getElem? (i := 749) (by decide +kernel), List.mem_of_getElem? (i := 750) (by decide +kernel)⟩
theorem lw_p31 : lw_okq (⟨"FontDeskModel", "characters", "()I"⟩, 15) := ⟨⟨by decide +kernel, by decide +kernel⟩, List.mem_of_getElem? (i := 658) (by decide +kernel), List.mem_of_getElem? (i := 753) (by decide +kernel), List.mem_of_getElem? (i := 754) (by decide +kernel)⟩
def lw_privs_2 : List (MethodName × Nat) := [(⟨"FontDesk$Setting", "nextCode", "()I"⟩, 10), (⟨"FontDesk$Setting", "goOn", "()V"⟩, 10), (⟨"FontDesk$Setting", "passSign", "()V"⟩, 10), (⟨"FontDesk$Setting", "addItem", "(II)V"⟩, 10), (⟨"FontDesk$Setting", "pop", "()V"⟩, 10), (⟨"FontDesk$Setting", "kern", "(I)V"⟩, 10), (⟨"FontDesk$Setting", "ligature", "(II)V"⟩, 10), (⟨"FontDesk$Setting", "becomeLigature", "(I)V"⟩, 10), (⟨"FontDesk$Setting", "addUp", "(LFontDesk$Font;)V"⟩, 10), (⟨"FontDeskModel", "fails", "(I)I"⟩, 15), (⟨"FontDeskModel", "faultOf", "()I"⟩, 15), (⟨"FontDeskModel", "isWhole", "()Z"⟩, 15), (⟨"FontDeskModel", "half", "(I)I"⟩, 15), (⟨"FontDeskModel", "byteAt", "(I)I"⟩, 15), (⟨"FontDeskModel", "start", "(I)I"⟩, 15), (⟨"FontDeskModel", "characters", "()I"⟩, 15)]
theorem lw_r2 : ∀ q ∈ lw_privs_2, lw_okq q := List.forall_mem_cons.mpr ⟨lw_p16, List.forall_mem_cons.mpr ⟨lw_p17, List.forall_mem_cons.mpr ⟨lw_p18, List.forall_mem_cons.mpr ⟨lw_p19, List.forall_mem_cons.mpr ⟨lw_p20, List.forall_mem_cons.mpr ⟨lw_p21, List.forall_mem_cons.mpr ⟨lw_p22, List.forall_mem_cons.mpr ⟨lw_p23, List.forall_mem_cons.mpr ⟨lw_p24, List.forall_mem_cons.mpr ⟨lw_p25, List.forall_mem_cons.mpr ⟨lw_p26, List.forall_mem_cons.mpr ⟨lw_p27, List.forall_mem_cons.mpr ⟨lw_p28, List.forall_mem_cons.mpr ⟨lw_p29, List.forall_mem_cons.mpr ⟨lw_p30, List.forall_mem_cons.mpr ⟨lw_p31, fun _ h => absurd h List.not_mem_nil⟩⟩⟩⟩⟩⟩⟩⟩⟩⟩⟩⟩⟩⟩⟩⟩
theorem lw_p32 : lw_okq (⟨"FontDeskModel", "word", "(I)I"⟩, 15) := ⟨⟨by decide +kernel, by decide +kernel⟩, List.mem_of_getElem? (i := 658) (by decide +kernel), List.mem_of_getElem? (i := 757) (by decide +kernel), List.mem_of_getElem? (i := 758) (by decide +kernel)⟩
theorem lw_p33 : lw_okq (⟨"FontDeskModel", "goodInfo", "(I)Z"⟩, 15) := ⟨⟨by decide +kernel, by decide +kernel⟩, List.mem_of_getElem? (i := 658) (by decide +kernel), List.mem_of_getElem? (i := 762) (by decide +kernel), List.mem_of_getElem? (i := 763) (by decide +kernel)⟩
theorem lw_p34 : lw_okq (⟨"FontDeskModel", "isThere", "(I)Z"⟩, 15) := ⟨⟨by decide +kernel, by decide +kernel⟩, List.mem_of_getElem? (i := 658) (by decide +kernel), List.mem_of_getElem? (i := 766) (by decide +kernel), List.mem_of_getElem? (i := 767) (by decide +kernel)⟩
theorem lw_p35 : lw_okq (⟨"FontDeskModel", "info", "(II)I"⟩, 15) := ⟨⟨by decide +kernel, by decide +kernel⟩, List.mem_of_getElem? (i := 658) (by decide +kernel), List.mem_of_getElem? (i := 770) (by decide +kernel), List.mem_of_getElem? (i := 771) (by decide +kernel)⟩
theorem lw_p36 : lw_okq (⟨"FontDeskModel", "piece", "(III)I"⟩, 15) := ⟨⟨by decide +kernel, by decide +kernel⟩, List.mem_of_getElem? (i := 658) (by decide +kernel), List.mem_of_getElem? (i := 774) (by decide +kernel), List.mem_of_getElem? (i := 775) (by decide +kernel)⟩
theorem lw_p37 : lw_okq (⟨"FontDeskModel", "ends", "(I)Z"⟩, 15) := ⟨⟨by decide +kernel, by decide +kernel⟩, List.mem_of_getElem? (i := 658) (by decide +kernel), List.mem_of_getElem? (i := 778) (by decide +kernel), List.mem_of_getElem? (i := 779) (by decide +kernel)⟩
theorem lw_p38 : lw_okq (⟨"FontDeskModel", "goodFractions", "()Z"⟩, 15) := ⟨⟨by decide +kernel, by decide +kernel⟩, List.mem_of_getElem? (i := 658) (by decide +kernel), List.mem_of_getElem? (i := 782) (by decide +kernel), List.mem_of_getElem? (i := 783) (by decide +kernel)⟩
theorem lw_p39 : lw_okq (⟨"FontDeskModel", "goodStep", "(I)Z"⟩, 15) := ⟨⟨by decide +kernel, by decide +kernel⟩, List.mem_of_getElem? (i := 658) (by decide +kernel), List.mem_of_getElem? (i := 788) (by decide +kernel), List.mem_of_getElem? (i := 789) (by decide +kernel)⟩
theorem lw_p40 : lw_okq (⟨"FontDeskModel", "step", "(II)I"⟩, 15) := ⟨⟨by decide +kernel, by decide +kernel⟩, List.mem_of_getElem? (i := 658) (by decide +kernel), List.mem_of_getElem? (i := 792) (by decide +kernel), List.mem_of_getElem? (i := 793) (by decide +kernel)⟩
theorem lw_p41 : lw_okq (⟨"FontDeskModel", "boundary", "()I"⟩, 15) := ⟨⟨by decide +kernel, by decide +kernel⟩, List.mem_of_getElem? (i := 658) (by decide +kernel), List.mem_of_getElem? (i := 796) (by decide +kernel), List.mem_of_getElem? (i := 797) (by decide +kernel)⟩
theorem lw_p42 : lw_okq (⟨"FontDeskModel", "goodPiece", "(I)Z"⟩, 15) := ⟨⟨by decide +kernel, by decide +kernel⟩, List.mem_of_getElem? (i := 658) (by decide +kernel), List.mem_of_getElem? (i := 800) (by decide +kernel), List.mem_of_getElem? (i := 801) (by decide +kernel)⟩
theorem lw_p43 : lw_okq (⟨"FontDeskModel", "allEnd", "()Z"⟩, 15) := ⟨⟨by decide +kernel, by decide +kernel⟩, List.mem_of_getElem? (i := 658) (by decide +kernel), List.mem_of_getElem? (i := 804) (by decide +kernel), List.mem_of_getElem? (i := 805) (by decide +kernel)⟩
theorem lw_p44 : lw_okq (⟨"FontDeskModel", "programs", "()V"⟩, 15) := ⟨⟨by decide +kernel, by decide +kernel⟩, List.mem_of_getElem? (i := 658) (by decide +kernel), List.mem_of_getElem? (i := 808) (by decide +kernel), List.mem_of_getElem? (i := 809) (by decide +kernel)⟩
theorem lw_p45 : lw_okq (⟨"FontDeskModel", "program", "(I)I"⟩, 15) := ⟨⟨by decide +kernel, by decide +kernel⟩, List.mem_of_getElem? (i := 658) (by decide +kernel), List.mem_of_getElem? (i := 812) (by decide +kernel), List.mem_of_getElem? (i := 813) (by decide +kernel)⟩
theorem lw_p46 : lw_okq (⟨"FontDeskModel", "looked", "(II)I"⟩, 15) := ⟨⟨by decide +kernel, by decide +kernel⟩, List.mem_of_getElem? (i := 658) (by decide +kernel), List.mem_of_getElem? (i := 816) (by decide +kernel), List.mem_of_getElem? (i := 817) (by decide +kernel)⟩
theorem lw_p47 : lw_okq (⟨"FontDeskModel", "behind", "(II)I"⟩, 15) := ⟨⟨by decide +kernel, by decide +kernel⟩, List.mem_of_getElem? (i := 658) (by decide +kernel), List.mem_of_getElem? (i := 820) (by decide +kernel), List.mem_of_getElem? (i := 821) (by decide +kernel)⟩
def lw_privs_3 : List (MethodName × Nat) := [(⟨"FontDeskModel", "word", "(I)I"⟩, 15), (⟨"FontDeskModel", "goodInfo", "(I)Z"⟩, 15), (⟨"FontDeskModel", "isThere", "(I)Z"⟩, 15), (⟨"FontDeskModel", "info", "(II)I"⟩, 15), (⟨"FontDeskModel", "piece", "(III)I"⟩, 15), (⟨"FontDeskModel", "ends", "(I)Z"⟩, 15), (⟨"FontDeskModel", "goodFractions", "()Z"⟩, 15), (⟨"FontDeskModel", "goodStep", "(I)Z"⟩, 15), (⟨"FontDeskModel", "step", "(II)I"⟩, 15), (⟨"FontDeskModel", "boundary", "()I"⟩, 15), (⟨"FontDeskModel", "goodPiece", "(I)Z"⟩, 15), (⟨"FontDeskModel", "allEnd", "()Z"⟩, 15), (⟨"FontDeskModel", "programs", "()V"⟩, 15), (⟨"FontDeskModel", "program", "(I)I"⟩, 15), (⟨"FontDeskModel", "looked", "(II)I"⟩, 15), (⟨"FontDeskModel", "behind", "(II)I"⟩, 15)]
theorem lw_r3 : ∀ q ∈ lw_privs_3, lw_okq q := List.forall_mem_cons.mpr ⟨lw_p32, List.forall_mem_cons.mpr ⟨lw_p33, List.forall_mem_cons.mpr ⟨lw_p34, List.forall_mem_cons.mpr ⟨lw_p35, List.forall_mem_cons.mpr ⟨lw_p36, List.forall_mem_cons.mpr ⟨lw_p37, List.forall_mem_cons.mpr ⟨lw_p38, List.forall_mem_cons.mpr ⟨lw_p39, List.forall_mem_cons.mpr ⟨lw_p40, List.forall_mem_cons.mpr ⟨lw_p41, List.forall_mem_cons.mpr ⟨lw_p42, List.forall_mem_cons.mpr ⟨lw_p43, List.forall_mem_cons.mpr ⟨lw_p44, List.forall_mem_cons.mpr ⟨lw_p45, List.forall_mem_cons.mpr ⟨lw_p46, List.forall_mem_cons.mpr ⟨lw_p47, fun _ h => absurd h List.not_mem_nil⟩⟩⟩⟩⟩⟩⟩⟩⟩⟩⟩⟩⟩⟩⟩⟩
theorem lw_p48 : lw_okq (⟨"FontDeskModel", "choose", "(I)Z"⟩, 15) := ⟨⟨by decide +kernel, by decide +kernel⟩, List.mem_of_getElem? (i := 658) (by decide +kernel), List.mem_of_getElem? (i := 832) (by decide +kernel), List.mem_of_getElem? (i := 833) (by decide +kernel)⟩
theorem lw_p49 : lw_okq (⟨"FontDeskModel", "metricOf", "(III)I"⟩, 15) := ⟨⟨by decide +kernel, by decide +kernel⟩, List.mem_of_getElem? (i := 658) (by decide +kernel), List.mem_of_getElem? (i := 836) (by decide +kernel), List.mem_of_getElem? (i := 837) (by decide +kernel)⟩
theorem lw_p50 : lw_okq (⟨"FontDeskModel", "scaled", "(III)I"⟩, 15) := ⟨⟨by decide +kernel, by decide +kernel⟩, List.mem_of_getElem? (i := 658) (by decide +kernel), List.mem_of_getElem? (i := 840) (by decide +kernel), List.mem_of_getElem? (i := 841) (by decide +kernel)⟩
theorem lw_p51 : lw_okq (⟨"FontDeskModel", "setting", "(II)I"⟩, 15) := ⟨⟨by decide +kernel, by decide +kernel⟩, List.mem_of_getElem? (i := 658) (by decide +kernel), List.mem_of_getElem? (i := 852) (by decide +kernel), List.mem_of_getElem? (i := 853) (by decide +kernel)⟩
theorem lw_p52 : lw_okq (⟨"FontDeskModel", "open", "(III)V"⟩, 15) := ⟨⟨by decide +kernel, by decide +kernel⟩, List.mem_of_getElem? (i := 658) (by decide +kernel), List.mem_of_getElem? (i := 856) (by decide +kernel), List.mem_of_getElem? (i := 857) (by decide +kernel)⟩
theorem lw_p53 : lw_okq (⟨"FontDeskModel", "sought", "(II)I"⟩, 15) := ⟨⟨by decide +kernel, by decide +kernel⟩, List.mem_of_getElem? (i := 658) (by decide +kernel), List.mem_of_getElem? (i := 860) (by decide +kernel), List.mem_of_getElem? (i := 861) (by decide +kernel)⟩
theorem lw_p54 : lw_okq (⟨"FontDeskModel", "join", "(III)I"⟩, 15) := ⟨⟨by decide +kernel, by decide +kernel⟩, List.mem_of_getElem? (i := 658) (by decide +kernel), List.mem_of_getElem? (i := 864) (by decide +kernel), List.mem_of_getElem? (i := 865) (by decide +kernel)⟩
theorem lw_p55 : lw_okq (⟨"FontDeskModel", "change", "(II)V"⟩, 15) := ⟨⟨by decide +kernel, by decide +kernel⟩, List.mem_of_getElem? (i := 658) (by decide +kernel), List.mem_of_getElem? (i := 868) (by decide +kernel), List.mem_of_getElem? (i := 869) (by decide +kernel)⟩
theorem lw_p56 : lw_okq (⟨"FontDeskModel", "close", "(I)V"⟩, 15) := ⟨⟨by decide +kernel, by decide +kernel⟩, List.mem_of_getElem? (i := 658) (by decide +kernel), List.mem_of_getElem? (i := 872) (by decide +kernel), List.mem_of_getElem? (i := 873) (by decide +kernel)⟩
def lw_privs_4 : List (MethodName × Nat) := [(⟨"FontDeskModel", "choose", "(I)Z"⟩, 15), (⟨"FontDeskModel", "metricOf", "(III)I"⟩, 15), (⟨"FontDeskModel", "scaled", "(III)I"⟩, 15), (⟨"FontDeskModel", "setting", "(II)I"⟩, 15), (⟨"FontDeskModel", "open", "(III)V"⟩, 15), (⟨"FontDeskModel", "sought", "(II)I"⟩, 15), (⟨"FontDeskModel", "join", "(III)I"⟩, 15), (⟨"FontDeskModel", "change", "(II)V"⟩, 15), (⟨"FontDeskModel", "close", "(I)V"⟩, 15)]
theorem lw_r4 : ∀ q ∈ lw_privs_4, lw_okq q := List.forall_mem_cons.mpr ⟨lw_p48, List.forall_mem_cons.mpr ⟨lw_p49, List.forall_mem_cons.mpr ⟨lw_p50, List.forall_mem_cons.mpr ⟨lw_p51, List.forall_mem_cons.mpr ⟨lw_p52, List.forall_mem_cons.mpr ⟨lw_p53, List.forall_mem_cons.mpr ⟨lw_p54, List.forall_mem_cons.mpr ⟨lw_p55, List.forall_mem_cons.mpr ⟨lw_p56, fun _ h => absurd h List.not_mem_nil⟩⟩⟩⟩⟩⟩⟩⟩⟩
def lw_privs : List (MethodName × Nat) := lw_privs_1 ++ (lw_privs_2 ++ (lw_privs_3 ++ (lw_privs_4)))
def lw_tbl : List Cond := k2_sels lw_privs ++ tables_1
theorem lw_privs_ok : ∀ q ∈ lw_privs, lw_okq q := by
  show ∀ q ∈ lw_privs_1 ++ (lw_privs_2 ++ (lw_privs_3 ++ (lw_privs_4))), lw_okq q
  exact List.forall_mem_append.mpr ⟨lw_r1, List.forall_mem_append.mpr ⟨lw_r2, List.forall_mem_append.mpr ⟨lw_r3, lw_r4⟩⟩⟩
end
section
def RX0 : String := "FontDesk$Draft"
def TX0 : u_T := fun k => match k with
  | 0 => ("FontDesk$Draft", "bytes", "[B", false)
  | _ => ("FontDesk$Draft", "length", "I", false)
def tyX0 : Nat → FieldType := fun k => match k with
  | 0 => .array .byte
  | _ => .int
theorem nmX0 : ∀ a, a < 2 → ∀ b, b < 2 → a ≠ b → (TX0 a).2.1 ≠ (TX0 b).2.1 := by decide +kernel
theorem tyX0_ok : ∀ k, k < 2 → parseFieldDescriptor (TX0 k).2.2.1 = some (tyX0 k) := by decide +kernel
abbrev cX0_init : ByteArray := prog_2_method_1_code
def yX0_init : MethodName := ⟨RX0, "<init>", "()V"⟩
abbrev cX0_append : ByteArray := prog_2_method_2_code
def yX0_append : MethodName := ⟨RX0, "append", "(JI)Z"⟩
abbrev cX0_makeRoom : ByteArray := prog_2_method_3_code
def yX0_makeRoom : MethodName := ⟨RX0, "makeRoom", "(I)V"⟩
abbrev cX0_clear : ByteArray := prog_2_method_4_code
def yX0_clear : MethodName := ⟨RX0, "clear", "()V"⟩
abbrev cX0_size : ByteArray := prog_2_method_5_code
def yX0_size : MethodName := ⟨RX0, "size", "()I"⟩
abbrev cX0_byteAt : ByteArray := prog_2_method_6_code
def yX0_byteAt : MethodName := ⟨RX0, "byteAt", "(I)I"⟩
abbrev cX0_halfAt : ByteArray := prog_2_method_7_code
def yX0_halfAt : MethodName := ⟨RX0, "halfAt", "(I)I"⟩
abbrev cX0_wordAt : ByteArray := prog_2_method_8_code
def yX0_wordAt : MethodName := ⟨RX0, "wordAt", "(I)I"⟩
def RX1 : String := "FontDesk$Endings"
def TX1 : u_T := fun k => match k with
  | 0 => ("FontDesk$Endings", "rowOf", "[I", true)
  | 1 => ("FontDesk$Endings", "signOf", "[I", true)
  | 2 => ("FontDesk$Endings", "rows", "I", false)
  | 3 => ("FontDesk$Endings", "steps", "[I", false)
  | 4 => ("FontDesk$Endings", "answers", "[I", false)
  | _ => ("FontDesk$Endings", "trail", "[I", false)
def tyX1 : Nat → FieldType := fun k => match k with
  | 0 => .array .int
  | 1 => .array .int
  | 2 => .int
  | 3 => .array .int
  | 4 => .array .int
  | _ => .array .int
theorem nmX1 : ∀ a, a < 6 → ∀ b, b < 6 → a ≠ b → (TX1 a).2.1 ≠ (TX1 b).2.1 := by decide +kernel
theorem tyX1_ok : ∀ k, k < 6 → parseFieldDescriptor (TX1 k).2.2.1 = some (tyX1 k) := by decide +kernel
abbrev cX1_init : ByteArray := prog_3_method_1_code
def yX1_init : MethodName := ⟨RX1, "<init>", "()V"⟩
abbrev cX1_allEnd : ByteArray := prog_3_method_2_code
def yX1_allEnd : MethodName := ⟨RX1, "allEnd", "(LFontDesk$Font;)Z"⟩
abbrev cX1_numberPrograms : ByteArray := prog_3_method_3_code
def yX1_numberPrograms : MethodName := ⟨RX1, "numberPrograms", "(LFontDesk$Font;)V"⟩
abbrev cX1_clearTables : ByteArray := prog_3_method_4_code
def yX1_clearTables : MethodName := ⟨RX1, "clearTables", "()V"⟩
abbrev cX1_noteSteps : ByteArray := prog_3_method_5_code
def yX1_noteSteps : MethodName := ⟨RX1, "noteSteps", "(LFontDesk$Font;I)V"⟩
abbrev cX1_ends : ByteArray := prog_3_method_6_code
def yX1_ends : MethodName := ⟨RX1, "ends", "(LFontDesk$Font;I)Z"⟩
abbrev cX1_awaitAnswer : ByteArray := prog_3_method_7_code
def yX1_awaitAnswer : MethodName := ⟨RX1, "awaitAnswer", "(II)I"⟩
abbrev cX1_answer : ByteArray := prog_3_method_8_code
def yX1_answer : MethodName := ⟨RX1, "answer", "(LFontDesk$Font;I)I"⟩
abbrev cX1_answerAs : ByteArray := prog_3_method_9_code
def yX1_answerAs : MethodName := ⟨RX1, "answerAs", "(III)I"⟩
abbrev cX1_know : ByteArray := prog_3_method_10_code
def yX1_know : MethodName := ⟨RX1, "know", "(II)I"⟩
abbrev cX1_endOf : ByteArray := prog_3_method_11_code
def yX1_endOf : MethodName := ⟨RX1, "endOf", "(II)I"⟩
abbrev cX1_stateOf : ByteArray := prog_3_method_12_code
def yX1_stateOf : MethodName := ⟨RX1, "stateOf", "(I)I"⟩
abbrev cX1_pairOf : ByteArray := prog_3_method_13_code
def yX1_pairOf : MethodName := ⟨RX1, "pairOf", "(II)I"⟩
def RX2 : String := "FontDesk$FileCheck"
def TX2 : u_T := fun k => match k with
  | _ => ("", "", "", false)
def tyX2 : Nat → FieldType := fun k => match k with
  | _ => .int
theorem nmX2 : ∀ a, a < 0 → ∀ b, b < 0 → a ≠ b → (TX2 a).2.1 ≠ (TX2 b).2.1 := by decide +kernel
theorem tyX2_ok : ∀ k, k < 0 → parseFieldDescriptor (TX2 k).2.2.1 = some (tyX2 k) := by decide +kernel
abbrev cX2_halvesFit : ByteArray := prog_4_method_2_code
def yX2_halvesFit : MethodName := ⟨RX2, "halvesFit", "(LFontDesk$Draft;)Z"⟩
abbrev cX2_faultOf : ByteArray := prog_4_method_3_code
def yX2_faultOf : MethodName := ⟨RX2, "faultOf", "(LFontDesk$Font;)I"⟩
abbrev cX2_infosFit : ByteArray := prog_4_method_4_code
def yX2_infosFit : MethodName := ⟨RX2, "infosFit", "(LFontDesk$Font;)Z"⟩
abbrev cX2_placesFit : ByteArray := prog_4_method_5_code
def yX2_placesFit : MethodName := ⟨RX2, "placesFit", "(LFontDesk$Font;I)Z"⟩
abbrev cX2_tagFits : ByteArray := prog_4_method_6_code
def yX2_tagFits : MethodName := ⟨RX2, "tagFits", "(LFontDesk$Font;I)Z"⟩
abbrev cX2_chainEnds : ByteArray := prog_4_method_7_code
def yX2_chainEnds : MethodName := ⟨RX2, "chainEnds", "(LFontDesk$Font;I)Z"⟩
abbrev cX2_fractionsFit : ByteArray := prog_4_method_8_code
def yX2_fractionsFit : MethodName := ⟨RX2, "fractionsFit", "(LFontDesk$Font;)Z"⟩
abbrev cX2_areFractions : ByteArray := prog_4_method_9_code
def yX2_areFractions : MethodName := ⟨RX2, "areFractions", "(LFontDesk$Font;II)Z"⟩
abbrev cX2_stepsFit : ByteArray := prog_4_method_10_code
def yX2_stepsFit : MethodName := ⟨RX2, "stepsFit", "(LFontDesk$Font;)Z"⟩
abbrev cX2_jumpFits : ByteArray := prog_4_method_11_code
def yX2_jumpFits : MethodName := ⟨RX2, "jumpFits", "(LFontDesk$Font;I)Z"⟩
abbrev cX2_deedFits : ByteArray := prog_4_method_12_code
def yX2_deedFits : MethodName := ⟨RX2, "deedFits", "(LFontDesk$Font;I)Z"⟩
abbrev cX2_isLigature : ByteArray := prog_4_method_13_code
def yX2_isLigature : MethodName := ⟨RX2, "isLigature", "(I)Z"⟩
abbrev cX2_piecesFit : ByteArray := prog_4_method_14_code
def yX2_piecesFit : MethodName := ⟨RX2, "piecesFit", "(LFontDesk$Font;)Z"⟩
abbrev cX2_partFits : ByteArray := prog_4_method_15_code
def yX2_partFits : MethodName := ⟨RX2, "partFits", "(LFontDesk$Font;I)Z"⟩
def RX3 : String := "FontDesk$Font"
def TX3 : u_T := fun k => match k with
  | 0 => ("FontDesk$Font", "words", "[I", true)
  | 1 => ("FontDesk$Font", "start", "[I", true)
  | 2 => ("FontDesk$Font", "length", "[I", true)
  | 3 => ("FontDesk$Font", "infos", "[I", true)
  | _ => ("FontDesk$Font", "size", "I", false)
def tyX3 : Nat → FieldType := fun k => match k with
  | 0 => .array .int
  | 1 => .array .int
  | 2 => .array .int
  | 3 => .array .int
  | _ => .int
theorem nmX3 : ∀ a, a < 5 → ∀ b, b < 5 → a ≠ b → (TX3 a).2.1 ≠ (TX3 b).2.1 := by decide +kernel
theorem tyX3_ok : ∀ k, k < 5 → parseFieldDescriptor (TX3 k).2.2.1 = some (tyX3 k) := by decide +kernel
abbrev cX3_init : ByteArray := prog_5_method_1_code
def yX3_init : MethodName := ⟨RX3, "<init>", "(LFontDesk$Draft;)V"⟩
abbrev cX3_scaleTo : ByteArray := prog_5_method_2_code
def yX3_scaleTo : MethodName := ⟨RX3, "scaleTo", "(I)V"⟩
abbrev cX3_rowLength : ByteArray := prog_5_method_3_code
def yX3_rowLength : MethodName := ⟨RX3, "rowLength", "(I)I"⟩
abbrev cX3_wordAt : ByteArray := prog_5_method_4_code
def yX3_wordAt : MethodName := ⟨RX3, "wordAt", "(II)I"⟩
abbrev cX3_designSize : ByteArray := prog_5_method_5_code
def yX3_designSize : MethodName := ⟨RX3, "designSize", "()I"⟩
abbrev cX3_infoOf : ByteArray := prog_5_method_6_code
def yX3_infoOf : MethodName := ⟨RX3, "infoOf", "(I)I"⟩
abbrev cX3_hasCharacter : ByteArray := prog_5_method_7_code
def yX3_hasCharacter : MethodName := ⟨RX3, "hasCharacter", "(I)Z"⟩
abbrev cX3_tagOf : ByteArray := prog_5_method_8_code
def yX3_tagOf : MethodName := ⟨RX3, "tagOf", "(I)I"⟩
abbrev cX3_restOf : ByteArray := prog_5_method_9_code
def yX3_restOf : MethodName := ⟨RX3, "restOf", "(I)I"⟩
abbrev cX3_placeOf : ByteArray := prog_5_method_10_code
def yX3_placeOf : MethodName := ⟨RX3, "placeOf", "(II)I"⟩
abbrev cX3_scaled : ByteArray := prog_5_method_11_code
def yX3_scaled : MethodName := ⟨RX3, "scaled", "(I)I"⟩
abbrev cX3_measure : ByteArray := prog_5_method_12_code
def yX3_measure : MethodName := ⟨RX3, "measure", "(II)I"⟩
abbrev cX3_scaledParameter : ByteArray := prog_5_method_13_code
def yX3_scaledParameter : MethodName := ⟨RX3, "scaledParameter", "(I)I"⟩
abbrev cX3_skipOf : ByteArray := prog_5_method_14_code
def yX3_skipOf : MethodName := ⟨RX3, "skipOf", "(I)I"⟩
abbrev cX3_signOf : ByteArray := prog_5_method_15_code
def yX3_signOf : MethodName := ⟨RX3, "signOf", "(I)I"⟩
abbrev cX3_deedOf : ByteArray := prog_5_method_16_code
def yX3_deedOf : MethodName := ⟨RX3, "deedOf", "(I)I"⟩
abbrev cX3_remainderOf : ByteArray := prog_5_method_17_code
def yX3_remainderOf : MethodName := ⟨RX3, "remainderOf", "(I)I"⟩
abbrev cX3_isJump : ByteArray := prog_5_method_18_code
def yX3_isJump : MethodName := ⟨RX3, "isJump", "(I)Z"⟩
abbrev cX3_targetOf : ByteArray := prog_5_method_19_code
def yX3_targetOf : MethodName := ⟨RX3, "targetOf", "(I)I"⟩
abbrev cX3_isKern : ByteArray := prog_5_method_20_code
def yX3_isKern : MethodName := ⟨RX3, "isKern", "(I)Z"⟩
abbrev cX3_kernPlaceOf : ByteArray := prog_5_method_21_code
def yX3_kernPlaceOf : MethodName := ⟨RX3, "kernPlaceOf", "(I)I"⟩
abbrev cX3_scaledKern : ByteArray := prog_5_method_22_code
def yX3_scaledKern : MethodName := ⟨RX3, "scaledKern", "(I)I"⟩
abbrev cX3_boundary : ByteArray := prog_5_method_23_code
def yX3_boundary : MethodName := ⟨RX3, "boundary", "()I"⟩
abbrev cX3_programStart : ByteArray := prog_5_method_24_code
def yX3_programStart : MethodName := ⟨RX3, "programStart", "(I)I"⟩
abbrev cX3_nextStep : ByteArray := prog_5_method_25_code
def yX3_nextStep : MethodName := ⟨RX3, "nextStep", "(I)I"⟩
abbrev cX3_stepFor : ByteArray := prog_5_method_26_code
def yX3_stepFor : MethodName := ⟨RX3, "stepFor", "(II)I"⟩
abbrev cX3_tally : ByteArray := prog_5_method_27_code
def yX3_tally : MethodName := ⟨RX3, "tally", "(I)I"⟩
abbrev cX3_characterCount : ByteArray := prog_5_method_28_code
def yX3_characterCount : MethodName := ⟨RX3, "characterCount", "()I"⟩
def RX4 : String := "FontDesk$Setting"
def TX4 : u_T := fun k => match k with
  | 0 => ("FontDesk$Setting", "itemKinds", "[I", true)
  | 1 => ("FontDesk$Setting", "itemCodes", "[I", true)
  | 2 => ("FontDesk$Setting", "items", "I", false)
  | 3 => ("FontDesk$Setting", "total", "J", false)
  | 4 => ("FontDesk$Setting", "nowKind", "I", false)
  | 5 => ("FontDesk$Setting", "nowCode", "I", false)
  | 6 => ("FontDesk$Setting", "aheadKinds", "[I", true)
  | 7 => ("FontDesk$Setting", "aheadCodes", "[I", true)
  | 8 => ("FontDesk$Setting", "ahead", "I", false)
  | _ => ("FontDesk$Setting", "present", "I", false)
def tyX4 : Nat → FieldType := fun k => match k with
  | 0 => .array .int
  | 1 => .array .int
  | 2 => .int
  | 3 => .long
  | 4 => .int
  | 5 => .int
  | 6 => .array .int
  | 7 => .array .int
  | 8 => .int
  | _ => .int
theorem nmX4 : ∀ a, a < 10 → ∀ b, b < 10 → a ≠ b → (TX4 a).2.1 ≠ (TX4 b).2.1 := by decide +kernel
theorem tyX4_ok : ∀ k, k < 10 → parseFieldDescriptor (TX4 k).2.2.1 = some (tyX4 k) := by decide +kernel
abbrev cX4_init : ByteArray := prog_6_method_1_code
def yX4_init : MethodName := ⟨RX4, "<init>", "()V"⟩
abbrev cX4_forget : ByteArray := prog_6_method_2_code
def yX4_forget : MethodName := ⟨RX4, "forget", "()V"⟩
abbrev cX4_begin : ByteArray := prog_6_method_3_code
def yX4_begin : MethodName := ⟨RX4, "begin", "(LFontDesk$Font;LFontDesk$Draft;)Z"⟩
abbrev cX4_run : ByteArray := prog_6_method_4_code
def yX4_run : MethodName := ⟨RX4, "run", "(LFontDesk$Font;)Z"⟩
abbrev cX4_nextCode : ByteArray := prog_6_method_5_code
def yX4_nextCode : MethodName := ⟨RX4, "nextCode", "()I"⟩
abbrev cX4_kern : ByteArray := prog_6_method_6_code
def yX4_kern : MethodName := ⟨RX4, "kern", "(I)V"⟩
abbrev cX4_ligature : ByteArray := prog_6_method_7_code
def yX4_ligature : MethodName := ⟨RX4, "ligature", "(II)V"⟩
abbrev cX4_becomeLigature : ByteArray := prog_6_method_8_code
def yX4_becomeLigature : MethodName := ⟨RX4, "becomeLigature", "(I)V"⟩
abbrev cX4_goOn : ByteArray := prog_6_method_9_code
def yX4_goOn : MethodName := ⟨RX4, "goOn", "()V"⟩
abbrev cX4_passSign : ByteArray := prog_6_method_10_code
def yX4_passSign : MethodName := ⟨RX4, "passSign", "()V"⟩
abbrev cX4_addItem : ByteArray := prog_6_method_11_code
def yX4_addItem : MethodName := ⟨RX4, "addItem", "(II)V"⟩
abbrev cX4_addUp : ByteArray := prog_6_method_12_code
def yX4_addUp : MethodName := ⟨RX4, "addUp", "(LFontDesk$Font;)V"⟩
abbrev cX4_push : ByteArray := prog_6_method_13_code
def yX4_push : MethodName := ⟨RX4, "push", "(II)V"⟩
abbrev cX4_pop : ByteArray := prog_6_method_14_code
def yX4_pop : MethodName := ⟨RX4, "pop", "()V"⟩
abbrev cX4_itemCount : ByteArray := prog_6_method_15_code
def yX4_itemCount : MethodName := ⟨RX4, "itemCount", "()I"⟩
abbrev cX4_totalWidth : ByteArray := prog_6_method_16_code
def yX4_totalWidth : MethodName := ⟨RX4, "totalWidth", "()J"⟩
abbrev cX4_itemPart : ByteArray := prog_6_method_17_code
def yX4_itemPart : MethodName := ⟨RX4, "itemPart", "(II)I"⟩
def RX5 : String := "FontDesk"
def TX5 : u_T := fun k => match k with
  | 0 => ("FontDesk", "draft", "LFontDesk$Draft;", true)
  | 1 => ("FontDesk", "fonts", "[LFontDesk$Font;", true)
  | 2 => ("FontDesk", "endings", "LFontDesk$Endings;", true)
  | 3 => ("FontDesk", "setting", "LFontDesk$Setting;", true)
  | 4 => ("FontDesk", "fontCount", "I", false)
  | _ => ("FontDesk", "lastFault", "I", false)
def tyX5 : Nat → FieldType := fun k => match k with
  | 0 => .object "FontDesk$Draft"
  | 1 => .array (.object "FontDesk$Font")
  | 2 => .object "FontDesk$Endings"
  | 3 => .object "FontDesk$Setting"
  | 4 => .int
  | _ => .int
theorem nmX5 : ∀ a, a < 6 → ∀ b, b < 6 → a ≠ b → (TX5 a).2.1 ≠ (TX5 b).2.1 := by decide +kernel
theorem tyX5_ok : ∀ k, k < 6 → parseFieldDescriptor (TX5 k).2.2.1 = some (tyX5 k) := by decide +kernel
abbrev cX5_init : ByteArray := prog_1_method_1_code
def yX5_init : MethodName := ⟨RX5, "<init>", "()V"⟩
abbrev cX5_put : ByteArray := prog_1_method_2_code
def yX5_put : MethodName := ⟨RX5, "put", "(JI)Z"⟩
abbrev cX5_load : ByteArray := prog_1_method_3_code
def yX5_load : MethodName := ⟨RX5, "load", "(I)I"⟩
abbrev cX5_fault : ByteArray := prog_1_method_4_code
def yX5_fault : MethodName := ⟨RX5, "fault", "()I"⟩
abbrev cX5_metric : ByteArray := prog_1_method_5_code
def yX5_metric : MethodName := ⟨RX5, "metric", "(III)I"⟩
abbrev cX5_parameter : ByteArray := prog_1_method_6_code
def yX5_parameter : MethodName := ⟨RX5, "parameter", "(II)I"⟩
abbrev cX5_set : ByteArray := prog_1_method_7_code
def yX5_set : MethodName := ⟨RX5, "set", "(I)I"⟩
abbrev cX5_item : ByteArray := prog_1_method_8_code
def yX5_item : MethodName := ⟨RX5, "item", "(II)I"⟩
abbrev cX5_width : ByteArray := prog_1_method_9_code
def yX5_width : MethodName := ⟨RX5, "width", "()J"⟩
abbrev cX5_count : ByteArray := prog_1_method_10_code
def yX5_count : MethodName := ⟨RX5, "count", "(I)I"⟩
abbrev cX5_fontAt : ByteArray := prog_1_method_11_code
def yX5_fontAt : MethodName := ⟨RX5, "fontAt", "(I)LFontDesk$Font;"⟩
def RX6 : String := "FontDeskModel"
def TX6 : u_T := fun k => match k with
  | 0 => ("FontDeskModel", "thrown", "I", false)
  | 1 => ("FontDeskModel", "bytes", "[I", true)
  | 2 => ("FontDeskModel", "drafted", "I", false)
  | 3 => ("FontDeskModel", "fonts", "I", false)
  | 4 => ("FontDeskModel", "from", "[I", true)
  | 5 => ("FontDeskModel", "sizes", "[I", true)
  | 6 => ("FontDeskModel", "fault", "I", false)
  | 7 => ("FontDeskModel", "base", "I", false)
  | 8 => ("FontDeskModel", "stepOf", "[I", true)
  | 9 => ("FontDeskModel", "passed", "[I", true)
  | 10 => ("FontDeskModel", "has", "[Z", true)
  | 11 => ("FontDeskModel", "items", "I", false)
  | 12 => ("FontDeskModel", "kinds", "[I", true)
  | 13 => ("FontDeskModel", "codes", "[I", true)
  | _ => ("FontDeskModel", "width", "J", false)
def tyX6 : Nat → FieldType := fun k => match k with
  | 0 => .int
  | 1 => .array .int
  | 2 => .int
  | 3 => .int
  | 4 => .array .int
  | 5 => .array .int
  | 6 => .int
  | 7 => .int
  | 8 => .array .int
  | 9 => .array .int
  | 10 => .array .boolean
  | 11 => .int
  | 12 => .array .int
  | 13 => .array .int
  | _ => .long
theorem nmX6 : ∀ a, a < 15 → ∀ b, b < 15 → a ≠ b → (TX6 a).2.1 ≠ (TX6 b).2.1 := by decide +kernel
theorem tyX6_ok : ∀ k, k < 15 → parseFieldDescriptor (TX6 k).2.2.1 = some (tyX6 k) := by decide +kernel
abbrev cX6_init : ByteArray := prog_8_method_1_code
def yX6_init : MethodName := ⟨RX6, "<init>", "()V"⟩
abbrev cX6_thrown : ByteArray := prog_8_method_2_code
def yX6_thrown : MethodName := ⟨RX6, "thrown", "()I"⟩
abbrev cX6_fails : ByteArray := prog_8_method_3_code
def yX6_fails : MethodName := ⟨RX6, "fails", "(I)I"⟩
abbrev cX6_put : ByteArray := prog_8_method_4_code
def yX6_put : MethodName := ⟨RX6, "put", "(JI)Z"⟩
abbrev cX6_byteAt : ByteArray := prog_8_method_5_code
def yX6_byteAt : MethodName := ⟨RX6, "byteAt", "(I)I"⟩
abbrev cX6_half : ByteArray := prog_8_method_6_code
def yX6_half : MethodName := ⟨RX6, "half", "(I)I"⟩
abbrev cX6_word : ByteArray := prog_8_method_7_code
def yX6_word : MethodName := ⟨RX6, "word", "(I)I"⟩
abbrev cX6_characters : ByteArray := prog_8_method_8_code
def yX6_characters : MethodName := ⟨RX6, "characters", "()I"⟩
abbrev cX6_start : ByteArray := prog_8_method_9_code
def yX6_start : MethodName := ⟨RX6, "start", "(I)I"⟩
abbrev cX6_piece : ByteArray := prog_8_method_10_code
def yX6_piece : MethodName := ⟨RX6, "piece", "(III)I"⟩
abbrev cX6_info : ByteArray := prog_8_method_11_code
def yX6_info : MethodName := ⟨RX6, "info", "(II)I"⟩
abbrev cX6_isThere : ByteArray := prog_8_method_12_code
def yX6_isThere : MethodName := ⟨RX6, "isThere", "(I)Z"⟩
abbrev cX6_isWhole : ByteArray := prog_8_method_13_code
def yX6_isWhole : MethodName := ⟨RX6, "isWhole", "()Z"⟩
abbrev cX6_ends : ByteArray := prog_8_method_14_code
def yX6_ends : MethodName := ⟨RX6, "ends", "(I)Z"⟩
abbrev cX6_goodInfo : ByteArray := prog_8_method_15_code
def yX6_goodInfo : MethodName := ⟨RX6, "goodInfo", "(I)Z"⟩
abbrev cX6_goodFractions : ByteArray := prog_8_method_16_code
def yX6_goodFractions : MethodName := ⟨RX6, "goodFractions", "()Z"⟩
abbrev cX6_step : ByteArray := prog_8_method_17_code
def yX6_step : MethodName := ⟨RX6, "step", "(II)I"⟩
abbrev cX6_boundary : ByteArray := prog_8_method_18_code
def yX6_boundary : MethodName := ⟨RX6, "boundary", "()I"⟩
abbrev cX6_goodStep : ByteArray := prog_8_method_19_code
def yX6_goodStep : MethodName := ⟨RX6, "goodStep", "(I)Z"⟩
abbrev cX6_goodPiece : ByteArray := prog_8_method_20_code
def yX6_goodPiece : MethodName := ⟨RX6, "goodPiece", "(I)Z"⟩
abbrev cX6_program : ByteArray := prog_8_method_21_code
def yX6_program : MethodName := ⟨RX6, "program", "(I)I"⟩
abbrev cX6_sought : ByteArray := prog_8_method_22_code
def yX6_sought : MethodName := ⟨RX6, "sought", "(II)I"⟩
abbrev cX6_programs : ByteArray := prog_8_method_23_code
def yX6_programs : MethodName := ⟨RX6, "programs", "()V"⟩
abbrev cX6_behind : ByteArray := prog_8_method_24_code
def yX6_behind : MethodName := ⟨RX6, "behind", "(II)I"⟩
abbrev cX6_looked : ByteArray := prog_8_method_25_code
def yX6_looked : MethodName := ⟨RX6, "looked", "(II)I"⟩
abbrev cX6_allEnd : ByteArray := prog_8_method_26_code
def yX6_allEnd : MethodName := ⟨RX6, "allEnd", "()Z"⟩
abbrev cX6_faultOf : ByteArray := prog_8_method_27_code
def yX6_faultOf : MethodName := ⟨RX6, "faultOf", "()I"⟩
abbrev cX6_load : ByteArray := prog_8_method_28_code
def yX6_load : MethodName := ⟨RX6, "load", "(I)I"⟩
abbrev cX6_fault : ByteArray := prog_8_method_29_code
def yX6_fault : MethodName := ⟨RX6, "fault", "()I"⟩
abbrev cX6_choose : ByteArray := prog_8_method_30_code
def yX6_choose : MethodName := ⟨RX6, "choose", "(I)Z"⟩
abbrev cX6_scaled : ByteArray := prog_8_method_31_code
def yX6_scaled : MethodName := ⟨RX6, "scaled", "(III)I"⟩
abbrev cX6_metricOf : ByteArray := prog_8_method_32_code
def yX6_metricOf : MethodName := ⟨RX6, "metricOf", "(III)I"⟩
abbrev cX6_metric : ByteArray := prog_8_method_33_code
def yX6_metric : MethodName := ⟨RX6, "metric", "(III)I"⟩
abbrev cX6_parameter : ByteArray := prog_8_method_34_code
def yX6_parameter : MethodName := ⟨RX6, "parameter", "(II)I"⟩
abbrev cX6_open : ByteArray := prog_8_method_35_code
def yX6_open : MethodName := ⟨RX6, "open", "(III)V"⟩
abbrev cX6_close : ByteArray := prog_8_method_36_code
def yX6_close : MethodName := ⟨RX6, "close", "(I)V"⟩
abbrev cX6_change : ByteArray := prog_8_method_37_code
def yX6_change : MethodName := ⟨RX6, "change", "(II)V"⟩
abbrev cX6_join : ByteArray := prog_8_method_38_code
def yX6_join : MethodName := ⟨RX6, "join", "(III)I"⟩
abbrev cX6_setting : ByteArray := prog_8_method_39_code
def yX6_setting : MethodName := ⟨RX6, "setting", "(II)I"⟩
abbrev cX6_set : ByteArray := prog_8_method_40_code
def yX6_set : MethodName := ⟨RX6, "set", "(I)I"⟩
abbrev cX6_item : ByteArray := prog_8_method_41_code
def yX6_item : MethodName := ⟨RX6, "item", "(II)I"⟩
abbrev cX6_width : ByteArray := prog_8_method_42_code
def yX6_width : MethodName := ⟨RX6, "width", "()J"⟩
abbrev cX6_count : ByteArray := prog_8_method_43_code
def yX6_count : MethodName := ⟨RX6, "count", "(I)I"⟩
def RJ9 : String := "java/lang/Math"
def TJ9 : u_T := fun k => match k with
  | _ => ("", "", "", false)
def tyJ9 : Nat → FieldType := fun k => match k with
  | _ => .int
theorem nmJ9 : ∀ a, a < 0 → ∀ b, b < 0 → a ≠ b → (TJ9 a).2.1 ≠ (TJ9 b).2.1 := by decide +kernel
theorem tyJ9_ok : ∀ k, k < 0 → parseFieldDescriptor (TJ9 k).2.2.1 = some (tyJ9 k) := by decide +kernel
abbrev cJ9_max_7cf53 : ByteArray := prog_14_method_65_code
def yJ9_max_7cf53 : MethodName := ⟨RJ9, "max", "(II)I"⟩
abbrev cJ9_min_7cf53 : ByteArray := prog_14_method_69_code
def yJ9_min_7cf53 : MethodName := ⟨RJ9, "min", "(II)I"⟩
def RJ0 : String := "java/lang/String"
def TJ0 : u_T := fun k => match k with
  | _ => ("", "", "", false)
def tyJ0 : Nat → FieldType := fun k => match k with
  | _ => .int
theorem nmJ0 : ∀ a, a < 0 → ∀ b, b < 0 → a ≠ b → (TJ0 a).2.1 ≠ (TJ0 b).2.1 := by decide +kernel
theorem tyJ0_ok : ∀ k, k < 0 → parseFieldDescriptor (TJ0 k).2.2.1 = some (tyJ0 k) := by decide +kernel
def RJ10 : String := "java/lang/System"
def TJ10 : u_T := fun k => match k with
  | _ => ("", "", "", false)
def tyJ10 : Nat → FieldType := fun k => match k with
  | _ => .int
theorem nmJ10 : ∀ a, a < 0 → ∀ b, b < 0 → a ≠ b → (TJ10 a).2.1 ≠ (TJ10 b).2.1 := by decide +kernel
theorem tyJ10_ok : ∀ k, k < 0 → parseFieldDescriptor (TJ10 k).2.2.1 = some (tyJ10 k) := by decide +kernel
def RJ7 : String := "java/util/Arrays"
def TJ7 : u_T := fun k => match k with
  | _ => ("", "", "", false)
def tyJ7 : Nat → FieldType := fun k => match k with
  | _ => .int
theorem nmJ7 : ∀ a, a < 0 → ∀ b, b < 0 → a ≠ b → (TJ7 a).2.1 ≠ (TJ7 b).2.1 := by decide +kernel
theorem tyJ7_ok : ∀ k, k < 0 → parseFieldDescriptor (TJ7 k).2.2.1 = some (tyJ7 k) := by decide +kernel
abbrev cJ7_copyOf_9075b : ByteArray := prog_19_method_121_code
def yJ7_copyOf_9075b : MethodName := ⟨RJ7, "copyOf", "([BI)[B"⟩
def RL : String := "FontDeskLaw"
abbrev cL_load : ByteArray := method_3_code
def yL_load : MethodName := ⟨RL, "load", "(LFontDesk;I[J)I"⟩
abbrev cL_metric : ByteArray := method_4_code
def yL_metric : MethodName := ⟨RL, "metric", "(LFontDesk;III[J)I"⟩
abbrev cL_parameter : ByteArray := method_5_code
def yL_parameter : MethodName := ⟨RL, "parameter", "(LFontDesk;II[J)I"⟩
abbrev cL_set : ByteArray := method_6_code
def yL_set : MethodName := ⟨RL, "set", "(LFontDesk;I[J)I"⟩
abbrev cL_law : ByteArray := code
def yL_law : MethodName := ⟨RL, "law", "([I)Z"⟩
abbrev vwCl : List vw_C := [(RX0, TX0, 2), (RX1, TX1, 6), (RX3, TX3, 5), (RX4, TX4, 10), (RX5, TX5, 6), (RX6, TX6, 15)]
end
section
theorem dX0_init_0 : decode cX0_init 0 = .ok (.aload_n 0, 1) := by decide +kernel
theorem dX0_init_1 : decode cX0_init 1 = .ok (.invokespecial 1, 3) := by decide +kernel
theorem dX0_init_4 : decode cX0_init 4 = .ok (.aload_n 0, 1) := by decide +kernel
theorem dX0_init_5 : decode cX0_init 5 = .ok (.bipush 64, 2) := by decide +kernel
theorem dX0_init_7 : decode cX0_init 7 = .ok (.newarray .byte, 2) := by decide +kernel
theorem dX0_init_9 : decode cX0_init 9 = .ok (.putfield 7, 3) := by decide +kernel
theorem dX0_init_12 : decode cX0_init 12 = .ok (.aload_n 0, 1) := by decide +kernel
theorem dX0_init_13 : decode cX0_init 13 = .ok (.iconst 0, 1) := by decide +kernel
theorem dX0_init_14 : decode cX0_init 14 = .ok (.putfield 13, 3) := by decide +kernel
theorem dX0_init_17 : decode cX0_init 17 = .ok (.return_, 1) := by decide +kernel
theorem dX0_append_0 : decode cX0_append 0 = .ok (.iload_n 3, 1) := by decide +kernel
theorem dX0_append_1 : decode cX0_append 1 = .ok (.iconst 1, 1) := by decide +kernel
theorem dX0_append_2 : decode cX0_append 2 = .ok (.if_icmp .lt 20, 3) := by decide +kernel
theorem dX0_append_5 : decode cX0_append 5 = .ok (.iload_n 3, 1) := by decide +kernel
theorem dX0_append_6 : decode cX0_append 6 = .ok (.bipush 8, 2) := by decide +kernel
theorem dX0_append_8 : decode cX0_append 8 = .ok (.if_icmp .gt 14, 3) := by decide +kernel
theorem dX0_append_11 : decode cX0_append 11 = .ok (.iload_n 3, 1) := by decide +kernel
theorem dX0_append_12 : decode cX0_append 12 = .ok (.ldc 17, 2) := by decide +kernel
theorem dX0_append_14 : decode cX0_append 14 = .ok (.aload_n 0, 1) := by decide +kernel
theorem dX0_append_15 : decode cX0_append 15 = .ok (.getfield 13, 3) := by decide +kernel
theorem dX0_append_18 : decode cX0_append 18 = .ok (.isub, 1) := by decide +kernel
theorem dX0_append_19 : decode cX0_append 19 = .ok (.if_icmp .le 5, 3) := by decide +kernel
theorem dX0_append_22 : decode cX0_append 22 = .ok (.iconst 0, 1) := by decide +kernel
theorem dX0_append_23 : decode cX0_append 23 = .ok (.ireturn, 1) := by decide +kernel
theorem dX0_append_24 : decode cX0_append 24 = .ok (.aload_n 0, 1) := by decide +kernel
theorem dX0_append_25 : decode cX0_append 25 = .ok (.aload_n 0, 1) := by decide +kernel
theorem dX0_append_26 : decode cX0_append 26 = .ok (.getfield 13, 3) := by decide +kernel
theorem dX0_append_29 : decode cX0_append 29 = .ok (.iload_n 3, 1) := by decide +kernel
theorem dX0_append_30 : decode cX0_append 30 = .ok (.iadd, 1) := by decide +kernel
theorem dX0_append_31 : decode cX0_append 31 = .ok (.invokevirtual 18, 3) := by decide +kernel
theorem dX0_append_34 : decode cX0_append 34 = .ok (.bipush 8, 2) := by decide +kernel
theorem dX0_append_36 : decode cX0_append 36 = .ok (.iload_n 3, 1) := by decide +kernel
theorem dX0_append_37 : decode cX0_append 37 = .ok (.iconst 1, 1) := by decide +kernel
theorem dX0_append_38 : decode cX0_append 38 = .ok (.isub, 1) := by decide +kernel
theorem dX0_append_39 : decode cX0_append 39 = .ok (.imul, 1) := by decide +kernel
theorem dX0_append_40 : decode cX0_append 40 = .ok (.istore 4, 2) := by decide +kernel
theorem dX0_append_42 : decode cX0_append 42 = .ok (.iload 4, 2) := by decide +kernel
theorem dX0_append_44 : decode cX0_append 44 = .ok (.ifCond .lt 46, 3) := by decide +kernel
theorem dX0_append_47 : decode cX0_append 47 = .ok (.aload_n 0, 1) := by decide +kernel
theorem dX0_append_48 : decode cX0_append 48 = .ok (.getfield 13, 3) := by decide +kernel
theorem dX0_append_51 : decode cX0_append 51 = .ok (.aload_n 0, 1) := by decide +kernel
theorem dX0_append_52 : decode cX0_append 52 = .ok (.getfield 7, 3) := by decide +kernel
theorem dX0_append_55 : decode cX0_append 55 = .ok (.arraylength, 1) := by decide +kernel
theorem dX0_append_56 : decode cX0_append 56 = .ok (.if_icmp .ge 34, 3) := by decide +kernel
theorem dX0_append_59 : decode cX0_append 59 = .ok (.aload_n 0, 1) := by decide +kernel
theorem dX0_append_60 : decode cX0_append 60 = .ok (.getfield 7, 3) := by decide +kernel
theorem dX0_append_63 : decode cX0_append 63 = .ok (.aload_n 0, 1) := by decide +kernel
theorem dX0_append_64 : decode cX0_append 64 = .ok (.getfield 13, 3) := by decide +kernel
theorem dX0_append_67 : decode cX0_append 67 = .ok (.lload_n 1, 1) := by decide +kernel
theorem dX0_append_68 : decode cX0_append 68 = .ok (.iload 4, 2) := by decide +kernel
theorem dX0_append_70 : decode cX0_append 70 = .ok (.lshr, 1) := by decide +kernel
theorem dX0_append_71 : decode cX0_append 71 = .ok (.l2i, 1) := by decide +kernel
theorem dX0_append_72 : decode cX0_append 72 = .ok (.i2b, 1) := by decide +kernel
theorem dX0_append_73 : decode cX0_append 73 = .ok (.bastore, 1) := by decide +kernel
theorem dX0_append_74 : decode cX0_append 74 = .ok (.aload_n 0, 1) := by decide +kernel
theorem dX0_append_75 : decode cX0_append 75 = .ok (.dup, 1) := by decide +kernel
theorem dX0_append_76 : decode cX0_append 76 = .ok (.getfield 13, 3) := by decide +kernel
theorem dX0_append_79 : decode cX0_append 79 = .ok (.iconst 1, 1) := by decide +kernel
theorem dX0_append_80 : decode cX0_append 80 = .ok (.iadd, 1) := by decide +kernel
theorem dX0_append_81 : decode cX0_append 81 = .ok (.putfield 13, 3) := by decide +kernel
theorem dX0_append_84 : decode cX0_append 84 = .ok (.iinc 4 (-8), 3) := by decide +kernel
theorem dX0_append_87 : decode cX0_append 87 = .ok (.goto (-45), 3) := by decide +kernel
theorem dX0_append_90 : decode cX0_append 90 = .ok (.iconst 1, 1) := by decide +kernel
theorem dX0_append_91 : decode cX0_append 91 = .ok (.ireturn, 1) := by decide +kernel
theorem dX0_makeRoom_0 : decode cX0_makeRoom 0 = .ok (.iload_n 1, 1) := by decide +kernel
theorem dX0_makeRoom_1 : decode cX0_makeRoom 1 = .ok (.aload_n 0, 1) := by decide +kernel
theorem dX0_makeRoom_2 : decode cX0_makeRoom 2 = .ok (.getfield 7, 3) := by decide +kernel
theorem dX0_makeRoom_5 : decode cX0_makeRoom 5 = .ok (.arraylength, 1) := by decide +kernel
theorem dX0_makeRoom_6 : decode cX0_makeRoom 6 = .ok (.if_icmp .le 30, 3) := by decide +kernel
theorem dX0_makeRoom_9 : decode cX0_makeRoom 9 = .ok (.aload_n 0, 1) := by decide +kernel
theorem dX0_makeRoom_10 : decode cX0_makeRoom 10 = .ok (.aload_n 0, 1) := by decide +kernel
theorem dX0_makeRoom_11 : decode cX0_makeRoom 11 = .ok (.getfield 7, 3) := by decide +kernel
theorem dX0_makeRoom_14 : decode cX0_makeRoom 14 = .ok (.ldc 17, 2) := by decide +kernel
theorem dX0_makeRoom_16 : decode cX0_makeRoom 16 = .ok (.iload_n 1, 1) := by decide +kernel
theorem dX0_makeRoom_17 : decode cX0_makeRoom 17 = .ok (.iconst 2, 1) := by decide +kernel
theorem dX0_makeRoom_18 : decode cX0_makeRoom 18 = .ok (.aload_n 0, 1) := by decide +kernel
theorem dX0_makeRoom_19 : decode cX0_makeRoom 19 = .ok (.getfield 7, 3) := by decide +kernel
theorem dX0_makeRoom_22 : decode cX0_makeRoom 22 = .ok (.arraylength, 1) := by decide +kernel
theorem dX0_makeRoom_23 : decode cX0_makeRoom 23 = .ok (.imul, 1) := by decide +kernel
theorem dX0_makeRoom_24 : decode cX0_makeRoom 24 = .ok (.invokestatic 22, 3) := by decide +kernel
theorem dX0_makeRoom_27 : decode cX0_makeRoom 27 = .ok (.invokestatic 28, 3) := by decide +kernel
theorem dX0_makeRoom_30 : decode cX0_makeRoom 30 = .ok (.invokestatic 31, 3) := by decide +kernel
theorem dX0_makeRoom_33 : decode cX0_makeRoom 33 = .ok (.putfield 7, 3) := by decide +kernel
theorem dX0_makeRoom_36 : decode cX0_makeRoom 36 = .ok (.return_, 1) := by decide +kernel
theorem dX0_clear_0 : decode cX0_clear 0 = .ok (.aload_n 0, 1) := by decide +kernel
theorem dX0_clear_1 : decode cX0_clear 1 = .ok (.iconst 0, 1) := by decide +kernel
theorem dX0_clear_2 : decode cX0_clear 2 = .ok (.putfield 13, 3) := by decide +kernel
theorem dX0_clear_5 : decode cX0_clear 5 = .ok (.return_, 1) := by decide +kernel
theorem dX0_size_0 : decode cX0_size 0 = .ok (.aload_n 0, 1) := by decide +kernel
theorem dX0_size_1 : decode cX0_size 1 = .ok (.getfield 13, 3) := by decide +kernel
theorem dX0_size_4 : decode cX0_size 4 = .ok (.ireturn, 1) := by decide +kernel
theorem dX0_byteAt_0 : decode cX0_byteAt 0 = .ok (.iload_n 1, 1) := by decide +kernel
theorem dX0_byteAt_1 : decode cX0_byteAt 1 = .ok (.ifCond .lt 33, 3) := by decide +kernel
theorem dX0_byteAt_4 : decode cX0_byteAt 4 = .ok (.iload_n 1, 1) := by decide +kernel
theorem dX0_byteAt_5 : decode cX0_byteAt 5 = .ok (.aload_n 0, 1) := by decide +kernel
theorem dX0_byteAt_6 : decode cX0_byteAt 6 = .ok (.getfield 13, 3) := by decide +kernel
theorem dX0_byteAt_9 : decode cX0_byteAt 9 = .ok (.if_icmp .ge 25, 3) := by decide +kernel
theorem dX0_byteAt_12 : decode cX0_byteAt 12 = .ok (.iload_n 1, 1) := by decide +kernel
theorem dX0_byteAt_13 : decode cX0_byteAt 13 = .ok (.aload_n 0, 1) := by decide +kernel
theorem dX0_byteAt_14 : decode cX0_byteAt 14 = .ok (.getfield 7, 3) := by decide +kernel
theorem dX0_byteAt_17 : decode cX0_byteAt 17 = .ok (.arraylength, 1) := by decide +kernel
theorem dX0_byteAt_18 : decode cX0_byteAt 18 = .ok (.if_icmp .ge 16, 3) := by decide +kernel
theorem dX0_byteAt_21 : decode cX0_byteAt 21 = .ok (.aload_n 0, 1) := by decide +kernel
theorem dX0_byteAt_22 : decode cX0_byteAt 22 = .ok (.getfield 7, 3) := by decide +kernel
theorem dX0_byteAt_25 : decode cX0_byteAt 25 = .ok (.iload_n 1, 1) := by decide +kernel
theorem dX0_byteAt_26 : decode cX0_byteAt 26 = .ok (.baload, 1) := by decide +kernel
theorem dX0_byteAt_27 : decode cX0_byteAt 27 = .ok (.sipush 255, 3) := by decide +kernel
theorem dX0_byteAt_30 : decode cX0_byteAt 30 = .ok (.iand, 1) := by decide +kernel
theorem dX0_byteAt_31 : decode cX0_byteAt 31 = .ok (.goto 4, 3) := by decide +kernel
theorem dX0_byteAt_34 : decode cX0_byteAt 34 = .ok (.iconst 0, 1) := by decide +kernel
theorem dX0_byteAt_35 : decode cX0_byteAt 35 = .ok (.ireturn, 1) := by decide +kernel
theorem dX0_halfAt_0 : decode cX0_halfAt 0 = .ok (.aload_n 0, 1) := by decide +kernel
theorem dX0_halfAt_1 : decode cX0_halfAt 1 = .ok (.iconst 2, 1) := by decide +kernel
theorem dX0_halfAt_2 : decode cX0_halfAt 2 = .ok (.iload_n 1, 1) := by decide +kernel
theorem dX0_halfAt_3 : decode cX0_halfAt 3 = .ok (.imul, 1) := by decide +kernel
theorem dX0_halfAt_4 : decode cX0_halfAt 4 = .ok (.invokevirtual 37, 3) := by decide +kernel
theorem dX0_halfAt_7 : decode cX0_halfAt 7 = .ok (.bipush 8, 2) := by decide +kernel
theorem dX0_halfAt_9 : decode cX0_halfAt 9 = .ok (.ishl, 1) := by decide +kernel
theorem dX0_halfAt_10 : decode cX0_halfAt 10 = .ok (.aload_n 0, 1) := by decide +kernel
theorem dX0_halfAt_11 : decode cX0_halfAt 11 = .ok (.iconst 2, 1) := by decide +kernel
theorem dX0_halfAt_12 : decode cX0_halfAt 12 = .ok (.iload_n 1, 1) := by decide +kernel
theorem dX0_halfAt_13 : decode cX0_halfAt 13 = .ok (.imul, 1) := by decide +kernel
theorem dX0_halfAt_14 : decode cX0_halfAt 14 = .ok (.iconst 1, 1) := by decide +kernel
theorem dX0_halfAt_15 : decode cX0_halfAt 15 = .ok (.iadd, 1) := by decide +kernel
theorem dX0_halfAt_16 : decode cX0_halfAt 16 = .ok (.invokevirtual 37, 3) := by decide +kernel
theorem dX0_halfAt_19 : decode cX0_halfAt 19 = .ok (.ior, 1) := by decide +kernel
theorem dX0_halfAt_20 : decode cX0_halfAt 20 = .ok (.ireturn, 1) := by decide +kernel
theorem dX0_wordAt_0 : decode cX0_wordAt 0 = .ok (.aload_n 0, 1) := by decide +kernel
theorem dX0_wordAt_1 : decode cX0_wordAt 1 = .ok (.iconst 2, 1) := by decide +kernel
theorem dX0_wordAt_2 : decode cX0_wordAt 2 = .ok (.iload_n 1, 1) := by decide +kernel
theorem dX0_wordAt_3 : decode cX0_wordAt 3 = .ok (.imul, 1) := by decide +kernel
theorem dX0_wordAt_4 : decode cX0_wordAt 4 = .ok (.invokevirtual 41, 3) := by decide +kernel
theorem dX0_wordAt_7 : decode cX0_wordAt 7 = .ok (.bipush 16, 2) := by decide +kernel
theorem dX0_wordAt_9 : decode cX0_wordAt 9 = .ok (.ishl, 1) := by decide +kernel
theorem dX0_wordAt_10 : decode cX0_wordAt 10 = .ok (.aload_n 0, 1) := by decide +kernel
theorem dX0_wordAt_11 : decode cX0_wordAt 11 = .ok (.iconst 2, 1) := by decide +kernel
theorem dX0_wordAt_12 : decode cX0_wordAt 12 = .ok (.iload_n 1, 1) := by decide +kernel
theorem dX0_wordAt_13 : decode cX0_wordAt 13 = .ok (.imul, 1) := by decide +kernel
theorem dX0_wordAt_14 : decode cX0_wordAt 14 = .ok (.iconst 1, 1) := by decide +kernel
theorem dX0_wordAt_15 : decode cX0_wordAt 15 = .ok (.iadd, 1) := by decide +kernel
theorem dX0_wordAt_16 : decode cX0_wordAt 16 = .ok (.invokevirtual 41, 3) := by decide +kernel
theorem dX0_wordAt_19 : decode cX0_wordAt 19 = .ok (.ior, 1) := by decide +kernel
theorem dX0_wordAt_20 : decode cX0_wordAt 20 = .ok (.ireturn, 1) := by decide +kernel
theorem dX1_init_0 : decode cX1_init 0 = .ok (.aload_n 0, 1) := by decide +kernel
theorem dX1_init_1 : decode cX1_init 1 = .ok (.invokespecial 5, 3) := by decide +kernel
theorem dX1_init_4 : decode cX1_init 4 = .ok (.aload_n 0, 1) := by decide +kernel
theorem dX1_init_5 : decode cX1_init 5 = .ok (.sipush 257, 3) := by decide +kernel
theorem dX1_init_8 : decode cX1_init 8 = .ok (.newarray .int, 2) := by decide +kernel
theorem dX1_init_10 : decode cX1_init 10 = .ok (.putfield 13, 3) := by decide +kernel
theorem dX1_init_13 : decode cX1_init 13 = .ok (.aload_n 0, 1) := by decide +kernel
theorem dX1_init_14 : decode cX1_init 14 = .ok (.sipush 257, 3) := by decide +kernel
theorem dX1_init_17 : decode cX1_init 17 = .ok (.newarray .int, 2) := by decide +kernel
theorem dX1_init_19 : decode cX1_init 19 = .ok (.putfield 17, 3) := by decide +kernel
theorem dX1_init_22 : decode cX1_init 22 = .ok (.aload_n 0, 1) := by decide +kernel
theorem dX1_init_23 : decode cX1_init 23 = .ok (.iconst 0, 1) := by decide +kernel
theorem dX1_init_24 : decode cX1_init 24 = .ok (.putfield 20, 3) := by decide +kernel
theorem dX1_init_27 : decode cX1_init 27 = .ok (.aload_n 0, 1) := by decide +kernel
theorem dX1_init_28 : decode cX1_init 28 = .ok (.iconst 0, 1) := by decide +kernel
theorem dX1_init_29 : decode cX1_init 29 = .ok (.newarray .int, 2) := by decide +kernel
theorem dX1_init_31 : decode cX1_init 31 = .ok (.putfield 24, 3) := by decide +kernel
theorem dX1_init_34 : decode cX1_init 34 = .ok (.aload_n 0, 1) := by decide +kernel
theorem dX1_init_35 : decode cX1_init 35 = .ok (.iconst 0, 1) := by decide +kernel
theorem dX1_init_36 : decode cX1_init 36 = .ok (.newarray .int, 2) := by decide +kernel
theorem dX1_init_38 : decode cX1_init 38 = .ok (.putfield 27, 3) := by decide +kernel
theorem dX1_init_41 : decode cX1_init 41 = .ok (.aload_n 0, 1) := by decide +kernel
theorem dX1_init_42 : decode cX1_init 42 = .ok (.iconst 0, 1) := by decide +kernel
theorem dX1_init_43 : decode cX1_init 43 = .ok (.newarray .int, 2) := by decide +kernel
theorem dX1_init_45 : decode cX1_init 45 = .ok (.putfield 30, 3) := by decide +kernel
theorem dX1_init_48 : decode cX1_init 48 = .ok (.return_, 1) := by decide +kernel
theorem dX1_allEnd_0 : decode cX1_allEnd 0 = .ok (.aload_n 0, 1) := by decide +kernel
theorem dX1_allEnd_1 : decode cX1_allEnd 1 = .ok (.aload_n 1, 1) := by decide +kernel
theorem dX1_allEnd_2 : decode cX1_allEnd 2 = .ok (.invokevirtual 33, 3) := by decide +kernel
theorem dX1_allEnd_5 : decode cX1_allEnd 5 = .ok (.aload_n 0, 1) := by decide +kernel
theorem dX1_allEnd_6 : decode cX1_allEnd 6 = .ok (.invokevirtual 37, 3) := by decide +kernel
theorem dX1_allEnd_9 : decode cX1_allEnd 9 = .ok (.iconst 0, 1) := by decide +kernel
theorem dX1_allEnd_10 : decode cX1_allEnd 10 = .ok (.istore_n 2, 1) := by decide +kernel
theorem dX1_allEnd_11 : decode cX1_allEnd 11 = .ok (.iload_n 2, 1) := by decide +kernel
theorem dX1_allEnd_12 : decode cX1_allEnd 12 = .ok (.aload_n 0, 1) := by decide +kernel
theorem dX1_allEnd_13 : decode cX1_allEnd 13 = .ok (.getfield 20, 3) := by decide +kernel
theorem dX1_allEnd_16 : decode cX1_allEnd 16 = .ok (.if_icmp .ge 22, 3) := by decide +kernel
theorem dX1_allEnd_19 : decode cX1_allEnd 19 = .ok (.iload_n 2, 1) := by decide +kernel
theorem dX1_allEnd_20 : decode cX1_allEnd 20 = .ok (.sipush 257, 3) := by decide +kernel
theorem dX1_allEnd_23 : decode cX1_allEnd 23 = .ok (.if_icmp .ge 15, 3) := by decide +kernel
theorem dX1_allEnd_26 : decode cX1_allEnd 26 = .ok (.aload_n 0, 1) := by decide +kernel
theorem dX1_allEnd_27 : decode cX1_allEnd 27 = .ok (.aload_n 1, 1) := by decide +kernel
theorem dX1_allEnd_28 : decode cX1_allEnd 28 = .ok (.iload_n 2, 1) := by decide +kernel
theorem dX1_allEnd_29 : decode cX1_allEnd 29 = .ok (.invokevirtual 40, 3) := by decide +kernel
theorem dX1_allEnd_32 : decode cX1_allEnd 32 = .ok (.iinc 2 1, 3) := by decide +kernel
theorem dX1_allEnd_35 : decode cX1_allEnd 35 = .ok (.goto (-24), 3) := by decide +kernel
theorem dX1_allEnd_38 : decode cX1_allEnd 38 = .ok (.iconst 0, 1) := by decide +kernel
theorem dX1_allEnd_39 : decode cX1_allEnd 39 = .ok (.istore_n 2, 1) := by decide +kernel
theorem dX1_allEnd_40 : decode cX1_allEnd 40 = .ok (.iload_n 2, 1) := by decide +kernel
theorem dX1_allEnd_41 : decode cX1_allEnd 41 = .ok (.sipush 256, 3) := by decide +kernel
theorem dX1_allEnd_44 : decode cX1_allEnd 44 = .ok (.aload_n 0, 1) := by decide +kernel
theorem dX1_allEnd_45 : decode cX1_allEnd 45 = .ok (.getfield 20, 3) := by decide +kernel
theorem dX1_allEnd_48 : decode cX1_allEnd 48 = .ok (.imul, 1) := by decide +kernel
theorem dX1_allEnd_49 : decode cX1_allEnd 49 = .ok (.if_icmp .ge 46, 3) := by decide +kernel
theorem dX1_allEnd_52 : decode cX1_allEnd 52 = .ok (.iload_n 2, 1) := by decide +kernel
theorem dX1_allEnd_53 : decode cX1_allEnd 53 = .ok (.aload_n 0, 1) := by decide +kernel
theorem dX1_allEnd_54 : decode cX1_allEnd 54 = .ok (.getfield 24, 3) := by decide +kernel
theorem dX1_allEnd_57 : decode cX1_allEnd 57 = .ok (.arraylength, 1) := by decide +kernel
theorem dX1_allEnd_58 : decode cX1_allEnd 58 = .ok (.if_icmp .ge 37, 3) := by decide +kernel
theorem dX1_allEnd_61 : decode cX1_allEnd 61 = .ok (.aload_n 0, 1) := by decide +kernel
theorem dX1_allEnd_62 : decode cX1_allEnd 62 = .ok (.getfield 24, 3) := by decide +kernel
theorem dX1_allEnd_65 : decode cX1_allEnd 65 = .ok (.iload_n 2, 1) := by decide +kernel
theorem dX1_allEnd_66 : decode cX1_allEnd 66 = .ok (.iaload, 1) := by decide +kernel
theorem dX1_allEnd_67 : decode cX1_allEnd 67 = .ok (.ifCond .eq 22, 3) := by decide +kernel
theorem dX1_allEnd_70 : decode cX1_allEnd 70 = .ok (.aload_n 0, 1) := by decide +kernel
theorem dX1_allEnd_71 : decode cX1_allEnd 71 = .ok (.iload_n 2, 1) := by decide +kernel
theorem dX1_allEnd_72 : decode cX1_allEnd 72 = .ok (.invokevirtual 44, 3) := by decide +kernel
theorem dX1_allEnd_75 : decode cX1_allEnd 75 = .ok (.ifCond .ne 14, 3) := by decide +kernel
theorem dX1_allEnd_78 : decode cX1_allEnd 78 = .ok (.aload_n 0, 1) := by decide +kernel
theorem dX1_allEnd_79 : decode cX1_allEnd 79 = .ok (.aload_n 1, 1) := by decide +kernel
theorem dX1_allEnd_80 : decode cX1_allEnd 80 = .ok (.iload_n 2, 1) := by decide +kernel
theorem dX1_allEnd_81 : decode cX1_allEnd 81 = .ok (.invokevirtual 48, 3) := by decide +kernel
theorem dX1_allEnd_84 : decode cX1_allEnd 84 = .ok (.ifCond .ne 5, 3) := by decide +kernel
theorem dX1_allEnd_87 : decode cX1_allEnd 87 = .ok (.iconst 0, 1) := by decide +kernel
theorem dX1_allEnd_88 : decode cX1_allEnd 88 = .ok (.ireturn, 1) := by decide +kernel
theorem dX1_allEnd_89 : decode cX1_allEnd 89 = .ok (.iinc 2 1, 3) := by decide +kernel
theorem dX1_allEnd_92 : decode cX1_allEnd 92 = .ok (.goto (-52), 3) := by decide +kernel
theorem dX1_allEnd_95 : decode cX1_allEnd 95 = .ok (.iconst 1, 1) := by decide +kernel
theorem dX1_allEnd_96 : decode cX1_allEnd 96 = .ok (.ireturn, 1) := by decide +kernel
theorem dX1_numberPrograms_0 : decode cX1_numberPrograms 0 = .ok (.aload_n 0, 1) := by decide +kernel
theorem dX1_numberPrograms_1 : decode cX1_numberPrograms 1 = .ok (.iconst 0, 1) := by decide +kernel
theorem dX1_numberPrograms_2 : decode cX1_numberPrograms 2 = .ok (.putfield 20, 3) := by decide +kernel
theorem dX1_numberPrograms_5 : decode cX1_numberPrograms 5 = .ok (.iconst 0, 1) := by decide +kernel
theorem dX1_numberPrograms_6 : decode cX1_numberPrograms 6 = .ok (.istore_n 2, 1) := by decide +kernel
theorem dX1_numberPrograms_7 : decode cX1_numberPrograms 7 = .ok (.iload_n 2, 1) := by decide +kernel
theorem dX1_numberPrograms_8 : decode cX1_numberPrograms 8 = .ok (.sipush 257, 3) := by decide +kernel
theorem dX1_numberPrograms_11 : decode cX1_numberPrograms 11 = .ok (.if_icmp .ge 65, 3) := by decide +kernel
theorem dX1_numberPrograms_14 : decode cX1_numberPrograms 14 = .ok (.aload_n 0, 1) := by decide +kernel
theorem dX1_numberPrograms_15 : decode cX1_numberPrograms 15 = .ok (.getfield 13, 3) := by decide +kernel
theorem dX1_numberPrograms_18 : decode cX1_numberPrograms 18 = .ok (.iload_n 2, 1) := by decide +kernel
theorem dX1_numberPrograms_19 : decode cX1_numberPrograms 19 = .ok (.iconst (-1), 1) := by decide +kernel
theorem dX1_numberPrograms_20 : decode cX1_numberPrograms 20 = .ok (.iastore, 1) := by decide +kernel
theorem dX1_numberPrograms_21 : decode cX1_numberPrograms 21 = .ok (.aload_n 1, 1) := by decide +kernel
theorem dX1_numberPrograms_22 : decode cX1_numberPrograms 22 = .ok (.iload_n 2, 1) := by decide +kernel
theorem dX1_numberPrograms_23 : decode cX1_numberPrograms 23 = .ok (.invokevirtual 52, 3) := by decide +kernel
theorem dX1_numberPrograms_26 : decode cX1_numberPrograms 26 = .ok (.iconst (-1), 1) := by decide +kernel
theorem dX1_numberPrograms_27 : decode cX1_numberPrograms 27 = .ok (.if_icmp .eq 43, 3) := by decide +kernel
theorem dX1_numberPrograms_30 : decode cX1_numberPrograms 30 = .ok (.aload_n 0, 1) := by decide +kernel
theorem dX1_numberPrograms_31 : decode cX1_numberPrograms 31 = .ok (.getfield 20, 3) := by decide +kernel
theorem dX1_numberPrograms_34 : decode cX1_numberPrograms 34 = .ok (.sipush 257, 3) := by decide +kernel
theorem dX1_numberPrograms_37 : decode cX1_numberPrograms 37 = .ok (.if_icmp .ge 33, 3) := by decide +kernel
theorem dX1_numberPrograms_40 : decode cX1_numberPrograms 40 = .ok (.aload_n 0, 1) := by decide +kernel
theorem dX1_numberPrograms_41 : decode cX1_numberPrograms 41 = .ok (.getfield 13, 3) := by decide +kernel
theorem dX1_numberPrograms_44 : decode cX1_numberPrograms 44 = .ok (.iload_n 2, 1) := by decide +kernel
theorem dX1_numberPrograms_45 : decode cX1_numberPrograms 45 = .ok (.aload_n 0, 1) := by decide +kernel
theorem dX1_numberPrograms_46 : decode cX1_numberPrograms 46 = .ok (.getfield 20, 3) := by decide +kernel
theorem dX1_numberPrograms_49 : decode cX1_numberPrograms 49 = .ok (.iastore, 1) := by decide +kernel
theorem dX1_numberPrograms_50 : decode cX1_numberPrograms 50 = .ok (.aload_n 0, 1) := by decide +kernel
theorem dX1_numberPrograms_51 : decode cX1_numberPrograms 51 = .ok (.getfield 17, 3) := by decide +kernel
theorem dX1_numberPrograms_54 : decode cX1_numberPrograms 54 = .ok (.aload_n 0, 1) := by decide +kernel
theorem dX1_numberPrograms_55 : decode cX1_numberPrograms 55 = .ok (.getfield 20, 3) := by decide +kernel
theorem dX1_numberPrograms_58 : decode cX1_numberPrograms 58 = .ok (.iload_n 2, 1) := by decide +kernel
theorem dX1_numberPrograms_59 : decode cX1_numberPrograms 59 = .ok (.iastore, 1) := by decide +kernel
theorem dX1_numberPrograms_60 : decode cX1_numberPrograms 60 = .ok (.aload_n 0, 1) := by decide +kernel
theorem dX1_numberPrograms_61 : decode cX1_numberPrograms 61 = .ok (.dup, 1) := by decide +kernel
theorem dX1_numberPrograms_62 : decode cX1_numberPrograms 62 = .ok (.getfield 20, 3) := by decide +kernel
theorem dX1_numberPrograms_65 : decode cX1_numberPrograms 65 = .ok (.iconst 1, 1) := by decide +kernel
theorem dX1_numberPrograms_66 : decode cX1_numberPrograms 66 = .ok (.iadd, 1) := by decide +kernel
theorem dX1_numberPrograms_67 : decode cX1_numberPrograms 67 = .ok (.putfield 20, 3) := by decide +kernel
theorem dX1_numberPrograms_70 : decode cX1_numberPrograms 70 = .ok (.iinc 2 1, 3) := by decide +kernel
theorem dX1_numberPrograms_73 : decode cX1_numberPrograms 73 = .ok (.goto (-66), 3) := by decide +kernel
theorem dX1_numberPrograms_76 : decode cX1_numberPrograms 76 = .ok (.return_, 1) := by decide +kernel
theorem dX1_clearTables_0 : decode cX1_clearTables 0 = .ok (.sipush 256, 3) := by decide +kernel
theorem dX1_clearTables_3 : decode cX1_clearTables 3 = .ok (.aload_n 0, 1) := by decide +kernel
theorem dX1_clearTables_4 : decode cX1_clearTables 4 = .ok (.getfield 20, 3) := by decide +kernel
theorem dX1_clearTables_7 : decode cX1_clearTables 7 = .ok (.imul, 1) := by decide +kernel
theorem dX1_clearTables_8 : decode cX1_clearTables 8 = .ok (.istore_n 1, 1) := by decide +kernel
theorem dX1_clearTables_9 : decode cX1_clearTables 9 = .ok (.iload_n 1, 1) := by decide +kernel
theorem dX1_clearTables_10 : decode cX1_clearTables 10 = .ok (.aload_n 0, 1) := by decide +kernel
theorem dX1_clearTables_11 : decode cX1_clearTables 11 = .ok (.getfield 24, 3) := by decide +kernel
theorem dX1_clearTables_14 : decode cX1_clearTables 14 = .ok (.arraylength, 1) := by decide +kernel
theorem dX1_clearTables_15 : decode cX1_clearTables 15 = .ok (.if_icmp .le 41, 3) := by decide +kernel
theorem dX1_clearTables_18 : decode cX1_clearTables 18 = .ok (.ldc 55, 2) := by decide +kernel
theorem dX1_clearTables_20 : decode cX1_clearTables 20 = .ok (.iload_n 1, 1) := by decide +kernel
theorem dX1_clearTables_21 : decode cX1_clearTables 21 = .ok (.iconst 2, 1) := by decide +kernel
theorem dX1_clearTables_22 : decode cX1_clearTables 22 = .ok (.aload_n 0, 1) := by decide +kernel
theorem dX1_clearTables_23 : decode cX1_clearTables 23 = .ok (.getfield 24, 3) := by decide +kernel
theorem dX1_clearTables_26 : decode cX1_clearTables 26 = .ok (.arraylength, 1) := by decide +kernel
theorem dX1_clearTables_27 : decode cX1_clearTables 27 = .ok (.imul, 1) := by decide +kernel
theorem dX1_clearTables_28 : decode cX1_clearTables 28 = .ok (.invokestatic 56, 3) := by decide +kernel
theorem dX1_clearTables_31 : decode cX1_clearTables 31 = .ok (.invokestatic 62, 3) := by decide +kernel
theorem dX1_clearTables_34 : decode cX1_clearTables 34 = .ok (.istore_n 2, 1) := by decide +kernel
theorem dX1_clearTables_35 : decode cX1_clearTables 35 = .ok (.aload_n 0, 1) := by decide +kernel
theorem dX1_clearTables_36 : decode cX1_clearTables 36 = .ok (.iload_n 2, 1) := by decide +kernel
theorem dX1_clearTables_37 : decode cX1_clearTables 37 = .ok (.newarray .int, 2) := by decide +kernel
theorem dX1_clearTables_39 : decode cX1_clearTables 39 = .ok (.putfield 24, 3) := by decide +kernel
theorem dX1_clearTables_42 : decode cX1_clearTables 42 = .ok (.aload_n 0, 1) := by decide +kernel
theorem dX1_clearTables_43 : decode cX1_clearTables 43 = .ok (.iload_n 2, 1) := by decide +kernel
theorem dX1_clearTables_44 : decode cX1_clearTables 44 = .ok (.newarray .int, 2) := by decide +kernel
theorem dX1_clearTables_46 : decode cX1_clearTables 46 = .ok (.putfield 27, 3) := by decide +kernel
theorem dX1_clearTables_49 : decode cX1_clearTables 49 = .ok (.aload_n 0, 1) := by decide +kernel
theorem dX1_clearTables_50 : decode cX1_clearTables 50 = .ok (.iload_n 2, 1) := by decide +kernel
theorem dX1_clearTables_51 : decode cX1_clearTables 51 = .ok (.newarray .int, 2) := by decide +kernel
theorem dX1_clearTables_53 : decode cX1_clearTables 53 = .ok (.putfield 30, 3) := by decide +kernel
theorem dX1_clearTables_56 : decode cX1_clearTables 56 = .ok (.iconst 0, 1) := by decide +kernel
theorem dX1_clearTables_57 : decode cX1_clearTables 57 = .ok (.istore_n 2, 1) := by decide +kernel
theorem dX1_clearTables_58 : decode cX1_clearTables 58 = .ok (.iload_n 2, 1) := by decide +kernel
theorem dX1_clearTables_59 : decode cX1_clearTables 59 = .ok (.iload_n 1, 1) := by decide +kernel
theorem dX1_clearTables_60 : decode cX1_clearTables 60 = .ok (.if_icmp .ge 41, 3) := by decide +kernel
theorem dX1_clearTables_63 : decode cX1_clearTables 63 = .ok (.iload_n 2, 1) := by decide +kernel
theorem dX1_clearTables_64 : decode cX1_clearTables 64 = .ok (.aload_n 0, 1) := by decide +kernel
theorem dX1_clearTables_65 : decode cX1_clearTables 65 = .ok (.getfield 24, 3) := by decide +kernel
theorem dX1_clearTables_68 : decode cX1_clearTables 68 = .ok (.arraylength, 1) := by decide +kernel
theorem dX1_clearTables_69 : decode cX1_clearTables 69 = .ok (.if_icmp .ge 32, 3) := by decide +kernel
theorem dX1_clearTables_72 : decode cX1_clearTables 72 = .ok (.iload_n 2, 1) := by decide +kernel
theorem dX1_clearTables_73 : decode cX1_clearTables 73 = .ok (.aload_n 0, 1) := by decide +kernel
theorem dX1_clearTables_74 : decode cX1_clearTables 74 = .ok (.getfield 27, 3) := by decide +kernel
theorem dX1_clearTables_77 : decode cX1_clearTables 77 = .ok (.arraylength, 1) := by decide +kernel
theorem dX1_clearTables_78 : decode cX1_clearTables 78 = .ok (.if_icmp .ge 23, 3) := by decide +kernel
theorem dX1_clearTables_81 : decode cX1_clearTables 81 = .ok (.aload_n 0, 1) := by decide +kernel
theorem dX1_clearTables_82 : decode cX1_clearTables 82 = .ok (.getfield 24, 3) := by decide +kernel
theorem dX1_clearTables_85 : decode cX1_clearTables 85 = .ok (.iload_n 2, 1) := by decide +kernel
theorem dX1_clearTables_86 : decode cX1_clearTables 86 = .ok (.iconst 0, 1) := by decide +kernel
theorem dX1_clearTables_87 : decode cX1_clearTables 87 = .ok (.iastore, 1) := by decide +kernel
theorem dX1_clearTables_88 : decode cX1_clearTables 88 = .ok (.aload_n 0, 1) := by decide +kernel
theorem dX1_clearTables_89 : decode cX1_clearTables 89 = .ok (.getfield 27, 3) := by decide +kernel
theorem dX1_clearTables_92 : decode cX1_clearTables 92 = .ok (.iload_n 2, 1) := by decide +kernel
theorem dX1_clearTables_93 : decode cX1_clearTables 93 = .ok (.iconst 0, 1) := by decide +kernel
theorem dX1_clearTables_94 : decode cX1_clearTables 94 = .ok (.iastore, 1) := by decide +kernel
theorem dX1_clearTables_95 : decode cX1_clearTables 95 = .ok (.iinc 2 1, 3) := by decide +kernel
theorem dX1_clearTables_98 : decode cX1_clearTables 98 = .ok (.goto (-40), 3) := by decide +kernel
theorem dX1_clearTables_101 : decode cX1_clearTables 101 = .ok (.return_, 1) := by decide +kernel
theorem dX1_noteSteps_0 : decode cX1_noteSteps 0 = .ok (.aload_n 1, 1) := by decide +kernel
theorem dX1_noteSteps_1 : decode cX1_noteSteps 1 = .ok (.aload_n 0, 1) := by decide +kernel
theorem dX1_noteSteps_2 : decode cX1_noteSteps 2 = .ok (.getfield 17, 3) := by decide +kernel
theorem dX1_noteSteps_5 : decode cX1_noteSteps 5 = .ok (.iload_n 2, 1) := by decide +kernel
theorem dX1_noteSteps_6 : decode cX1_noteSteps 6 = .ok (.iaload, 1) := by decide +kernel
theorem dX1_noteSteps_7 : decode cX1_noteSteps 7 = .ok (.invokevirtual 52, 3) := by decide +kernel
theorem dX1_noteSteps_10 : decode cX1_noteSteps 10 = .ok (.istore_n 3, 1) := by decide +kernel
theorem dX1_noteSteps_11 : decode cX1_noteSteps 11 = .ok (.iconst 0, 1) := by decide +kernel
theorem dX1_noteSteps_12 : decode cX1_noteSteps 12 = .ok (.istore 4, 2) := by decide +kernel
theorem dX1_noteSteps_14 : decode cX1_noteSteps 14 = .ok (.iload 4, 2) := by decide +kernel
theorem dX1_noteSteps_16 : decode cX1_noteSteps 16 = .ok (.aload_n 1, 1) := by decide +kernel
theorem dX1_noteSteps_17 : decode cX1_noteSteps 17 = .ok (.bipush 6, 2) := by decide +kernel
theorem dX1_noteSteps_19 : decode cX1_noteSteps 19 = .ok (.invokevirtual 65, 3) := by decide +kernel
theorem dX1_noteSteps_22 : decode cX1_noteSteps 22 = .ok (.if_icmp .ge 71, 3) := by decide +kernel
theorem dX1_noteSteps_25 : decode cX1_noteSteps 25 = .ok (.iload_n 3, 1) := by decide +kernel
theorem dX1_noteSteps_26 : decode cX1_noteSteps 26 = .ok (.iconst (-1), 1) := by decide +kernel
theorem dX1_noteSteps_27 : decode cX1_noteSteps 27 = .ok (.if_icmp .eq 66, 3) := by decide +kernel
theorem dX1_noteSteps_30 : decode cX1_noteSteps 30 = .ok (.sipush 256, 3) := by decide +kernel
theorem dX1_noteSteps_33 : decode cX1_noteSteps 33 = .ok (.iload_n 2, 1) := by decide +kernel
theorem dX1_noteSteps_34 : decode cX1_noteSteps 34 = .ok (.imul, 1) := by decide +kernel
theorem dX1_noteSteps_35 : decode cX1_noteSteps 35 = .ok (.aload_n 1, 1) := by decide +kernel
theorem dX1_noteSteps_36 : decode cX1_noteSteps 36 = .ok (.iload_n 3, 1) := by decide +kernel
theorem dX1_noteSteps_37 : decode cX1_noteSteps 37 = .ok (.invokevirtual 68, 3) := by decide +kernel
theorem dX1_noteSteps_40 : decode cX1_noteSteps 40 = .ok (.iadd, 1) := by decide +kernel
theorem dX1_noteSteps_41 : decode cX1_noteSteps 41 = .ok (.istore 5, 2) := by decide +kernel
theorem dX1_noteSteps_43 : decode cX1_noteSteps 43 = .ok (.aload_n 1, 1) := by decide +kernel
theorem dX1_noteSteps_44 : decode cX1_noteSteps 44 = .ok (.iload_n 3, 1) := by decide +kernel
theorem dX1_noteSteps_45 : decode cX1_noteSteps 45 = .ok (.invokevirtual 70, 3) := by decide +kernel
theorem dX1_noteSteps_48 : decode cX1_noteSteps 48 = .ok (.ifCond .ne 33, 3) := by decide +kernel
theorem dX1_noteSteps_51 : decode cX1_noteSteps 51 = .ok (.iload 5, 2) := by decide +kernel
theorem dX1_noteSteps_53 : decode cX1_noteSteps 53 = .ok (.aload_n 0, 1) := by decide +kernel
theorem dX1_noteSteps_54 : decode cX1_noteSteps 54 = .ok (.getfield 24, 3) := by decide +kernel
theorem dX1_noteSteps_57 : decode cX1_noteSteps 57 = .ok (.arraylength, 1) := by decide +kernel
theorem dX1_noteSteps_58 : decode cX1_noteSteps 58 = .ok (.if_icmp .ge 23, 3) := by decide +kernel
theorem dX1_noteSteps_61 : decode cX1_noteSteps 61 = .ok (.aload_n 0, 1) := by decide +kernel
theorem dX1_noteSteps_62 : decode cX1_noteSteps 62 = .ok (.getfield 24, 3) := by decide +kernel
theorem dX1_noteSteps_65 : decode cX1_noteSteps 65 = .ok (.iload 5, 2) := by decide +kernel
theorem dX1_noteSteps_67 : decode cX1_noteSteps 67 = .ok (.iaload, 1) := by decide +kernel
theorem dX1_noteSteps_68 : decode cX1_noteSteps 68 = .ok (.ifCond .ne 13, 3) := by decide +kernel
theorem dX1_noteSteps_71 : decode cX1_noteSteps 71 = .ok (.aload_n 0, 1) := by decide +kernel
theorem dX1_noteSteps_72 : decode cX1_noteSteps 72 = .ok (.getfield 24, 3) := by decide +kernel
theorem dX1_noteSteps_75 : decode cX1_noteSteps 75 = .ok (.iload 5, 2) := by decide +kernel
theorem dX1_noteSteps_77 : decode cX1_noteSteps 77 = .ok (.iload_n 3, 1) := by decide +kernel
theorem dX1_noteSteps_78 : decode cX1_noteSteps 78 = .ok (.iconst 1, 1) := by decide +kernel
theorem dX1_noteSteps_79 : decode cX1_noteSteps 79 = .ok (.iadd, 1) := by decide +kernel
theorem dX1_noteSteps_80 : decode cX1_noteSteps 80 = .ok (.iastore, 1) := by decide +kernel
theorem dX1_noteSteps_81 : decode cX1_noteSteps 81 = .ok (.aload_n 1, 1) := by decide +kernel
theorem dX1_noteSteps_82 : decode cX1_noteSteps 82 = .ok (.iload_n 3, 1) := by decide +kernel
theorem dX1_noteSteps_83 : decode cX1_noteSteps 83 = .ok (.invokevirtual 74, 3) := by decide +kernel
theorem dX1_noteSteps_86 : decode cX1_noteSteps 86 = .ok (.istore_n 3, 1) := by decide +kernel
theorem dX1_noteSteps_87 : decode cX1_noteSteps 87 = .ok (.iinc 4 1, 3) := by decide +kernel
theorem dX1_noteSteps_90 : decode cX1_noteSteps 90 = .ok (.goto (-76), 3) := by decide +kernel
theorem dX1_noteSteps_93 : decode cX1_noteSteps 93 = .ok (.return_, 1) := by decide +kernel
theorem dX1_ends_0 : decode cX1_ends 0 = .ok (.aload_n 0, 1) := by decide +kernel
theorem dX1_ends_1 : decode cX1_ends 1 = .ok (.iload_n 2, 1) := by decide +kernel
theorem dX1_ends_2 : decode cX1_ends 2 = .ok (.iconst 0, 1) := by decide +kernel
theorem dX1_ends_3 : decode cX1_ends 3 = .ok (.invokevirtual 77, 3) := by decide +kernel
theorem dX1_ends_6 : decode cX1_ends 6 = .ok (.istore_n 3, 1) := by decide +kernel
theorem dX1_ends_7 : decode cX1_ends 7 = .ok (.iconst 0, 1) := by decide +kernel
theorem dX1_ends_8 : decode cX1_ends 8 = .ok (.istore 4, 2) := by decide +kernel
theorem dX1_ends_10 : decode cX1_ends 10 = .ok (.iload 4, 2) := by decide +kernel
theorem dX1_ends_12 : decode cX1_ends 12 = .ok (.iconst 3, 1) := by decide +kernel
theorem dX1_ends_13 : decode cX1_ends 13 = .ok (.aload_n 0, 1) := by decide +kernel
theorem dX1_ends_14 : decode cX1_ends 14 = .ok (.getfield 30, 3) := by decide +kernel
theorem dX1_ends_17 : decode cX1_ends 17 = .ok (.arraylength, 1) := by decide +kernel
theorem dX1_ends_18 : decode cX1_ends 18 = .ok (.imul, 1) := by decide +kernel
theorem dX1_ends_19 : decode cX1_ends 19 = .ok (.if_icmp .ge 69, 3) := by decide +kernel
theorem dX1_ends_22 : decode cX1_ends 22 = .ok (.iload_n 3, 1) := by decide +kernel
theorem dX1_ends_23 : decode cX1_ends 23 = .ok (.ifCond .le 65, 3) := by decide +kernel
theorem dX1_ends_26 : decode cX1_ends 26 = .ok (.iload_n 3, 1) := by decide +kernel
theorem dX1_ends_27 : decode cX1_ends 27 = .ok (.aload_n 0, 1) := by decide +kernel
theorem dX1_ends_28 : decode cX1_ends 28 = .ok (.getfield 30, 3) := by decide +kernel
theorem dX1_ends_31 : decode cX1_ends 31 = .ok (.arraylength, 1) := by decide +kernel
theorem dX1_ends_32 : decode cX1_ends 32 = .ok (.if_icmp .gt 56, 3) := by decide +kernel
theorem dX1_ends_35 : decode cX1_ends 35 = .ok (.aload_n 0, 1) := by decide +kernel
theorem dX1_ends_36 : decode cX1_ends 36 = .ok (.aload_n 1, 1) := by decide +kernel
theorem dX1_ends_37 : decode cX1_ends 37 = .ok (.aload_n 0, 1) := by decide +kernel
theorem dX1_ends_38 : decode cX1_ends 38 = .ok (.getfield 30, 3) := by decide +kernel
theorem dX1_ends_41 : decode cX1_ends 41 = .ok (.iload_n 3, 1) := by decide +kernel
theorem dX1_ends_42 : decode cX1_ends 42 = .ok (.iconst 1, 1) := by decide +kernel
theorem dX1_ends_43 : decode cX1_ends 43 = .ok (.isub, 1) := by decide +kernel
theorem dX1_ends_44 : decode cX1_ends 44 = .ok (.iaload, 1) := by decide +kernel
theorem dX1_ends_45 : decode cX1_ends 45 = .ok (.invokevirtual 80, 3) := by decide +kernel
theorem dX1_ends_48 : decode cX1_ends 48 = .ok (.istore 5, 2) := by decide +kernel
theorem dX1_ends_50 : decode cX1_ends 50 = .ok (.iload 5, 2) := by decide +kernel
theorem dX1_ends_52 : decode cX1_ends 52 = .ok (.iconst (-1), 1) := by decide +kernel
theorem dX1_ends_53 : decode cX1_ends 53 = .ok (.if_icmp .ne 9, 3) := by decide +kernel
theorem dX1_ends_56 : decode cX1_ends 56 = .ok (.iinc 3 (-1), 3) := by decide +kernel
theorem dX1_ends_59 : decode cX1_ends 59 = .ok (.goto 23, 3) := by decide +kernel
theorem dX1_ends_62 : decode cX1_ends 62 = .ok (.aload_n 0, 1) := by decide +kernel
theorem dX1_ends_63 : decode cX1_ends 63 = .ok (.iload 5, 2) := by decide +kernel
theorem dX1_ends_65 : decode cX1_ends 65 = .ok (.invokevirtual 44, 3) := by decide +kernel
theorem dX1_ends_68 : decode cX1_ends 68 = .ok (.iconst (-1), 1) := by decide +kernel
theorem dX1_ends_69 : decode cX1_ends 69 = .ok (.if_icmp .ne 5, 3) := by decide +kernel
theorem dX1_ends_72 : decode cX1_ends 72 = .ok (.iconst 0, 1) := by decide +kernel
theorem dX1_ends_73 : decode cX1_ends 73 = .ok (.ireturn, 1) := by decide +kernel
theorem dX1_ends_74 : decode cX1_ends 74 = .ok (.aload_n 0, 1) := by decide +kernel
theorem dX1_ends_75 : decode cX1_ends 75 = .ok (.iload 5, 2) := by decide +kernel
theorem dX1_ends_77 : decode cX1_ends 77 = .ok (.iload_n 3, 1) := by decide +kernel
theorem dX1_ends_78 : decode cX1_ends 78 = .ok (.invokevirtual 77, 3) := by decide +kernel
theorem dX1_ends_81 : decode cX1_ends 81 = .ok (.istore_n 3, 1) := by decide +kernel
theorem dX1_ends_82 : decode cX1_ends 82 = .ok (.iinc 4 1, 3) := by decide +kernel
theorem dX1_ends_85 : decode cX1_ends 85 = .ok (.goto (-75), 3) := by decide +kernel
theorem dX1_ends_88 : decode cX1_ends 88 = .ok (.iload_n 3, 1) := by decide +kernel
theorem dX1_ends_89 : decode cX1_ends 89 = .ok (.ifCond .ne 7, 3) := by decide +kernel
theorem dX1_ends_92 : decode cX1_ends 92 = .ok (.iconst 1, 1) := by decide +kernel
theorem dX1_ends_93 : decode cX1_ends 93 = .ok (.goto 4, 3) := by decide +kernel
theorem dX1_ends_96 : decode cX1_ends 96 = .ok (.iconst 0, 1) := by decide +kernel
theorem dX1_ends_97 : decode cX1_ends 97 = .ok (.ireturn, 1) := by decide +kernel
theorem dX1_awaitAnswer_0 : decode cX1_awaitAnswer 0 = .ok (.iload_n 1, 1) := by decide +kernel
theorem dX1_awaitAnswer_1 : decode cX1_awaitAnswer 1 = .ok (.ifCond .lt 39, 3) := by decide +kernel
theorem dX1_awaitAnswer_4 : decode cX1_awaitAnswer 4 = .ok (.iload_n 1, 1) := by decide +kernel
theorem dX1_awaitAnswer_5 : decode cX1_awaitAnswer 5 = .ok (.aload_n 0, 1) := by decide +kernel
theorem dX1_awaitAnswer_6 : decode cX1_awaitAnswer 6 = .ok (.getfield 27, 3) := by decide +kernel
theorem dX1_awaitAnswer_9 : decode cX1_awaitAnswer 9 = .ok (.arraylength, 1) := by decide +kernel
theorem dX1_awaitAnswer_10 : decode cX1_awaitAnswer 10 = .ok (.if_icmp .ge 30, 3) := by decide +kernel
theorem dX1_awaitAnswer_13 : decode cX1_awaitAnswer 13 = .ok (.iload_n 2, 1) := by decide +kernel
theorem dX1_awaitAnswer_14 : decode cX1_awaitAnswer 14 = .ok (.ifCond .lt 26, 3) := by decide +kernel
theorem dX1_awaitAnswer_17 : decode cX1_awaitAnswer 17 = .ok (.iload_n 2, 1) := by decide +kernel
theorem dX1_awaitAnswer_18 : decode cX1_awaitAnswer 18 = .ok (.aload_n 0, 1) := by decide +kernel
theorem dX1_awaitAnswer_19 : decode cX1_awaitAnswer 19 = .ok (.getfield 30, 3) := by decide +kernel
theorem dX1_awaitAnswer_22 : decode cX1_awaitAnswer 22 = .ok (.arraylength, 1) := by decide +kernel
theorem dX1_awaitAnswer_23 : decode cX1_awaitAnswer 23 = .ok (.if_icmp .ge 17, 3) := by decide +kernel
theorem dX1_awaitAnswer_26 : decode cX1_awaitAnswer 26 = .ok (.aload_n 0, 1) := by decide +kernel
theorem dX1_awaitAnswer_27 : decode cX1_awaitAnswer 27 = .ok (.getfield 27, 3) := by decide +kernel
theorem dX1_awaitAnswer_30 : decode cX1_awaitAnswer 30 = .ok (.iload_n 1, 1) := by decide +kernel
theorem dX1_awaitAnswer_31 : decode cX1_awaitAnswer 31 = .ok (.iconst (-1), 1) := by decide +kernel
theorem dX1_awaitAnswer_32 : decode cX1_awaitAnswer 32 = .ok (.iastore, 1) := by decide +kernel
theorem dX1_awaitAnswer_33 : decode cX1_awaitAnswer 33 = .ok (.aload_n 0, 1) := by decide +kernel
theorem dX1_awaitAnswer_34 : decode cX1_awaitAnswer 34 = .ok (.getfield 30, 3) := by decide +kernel
theorem dX1_awaitAnswer_37 : decode cX1_awaitAnswer 37 = .ok (.iload_n 2, 1) := by decide +kernel
theorem dX1_awaitAnswer_38 : decode cX1_awaitAnswer 38 = .ok (.iload_n 1, 1) := by decide +kernel
theorem dX1_awaitAnswer_39 : decode cX1_awaitAnswer 39 = .ok (.iastore, 1) := by decide +kernel
theorem dX1_awaitAnswer_40 : decode cX1_awaitAnswer 40 = .ok (.iload_n 2, 1) := by decide +kernel
theorem dX1_awaitAnswer_41 : decode cX1_awaitAnswer 41 = .ok (.iconst 1, 1) := by decide +kernel
theorem dX1_awaitAnswer_42 : decode cX1_awaitAnswer 42 = .ok (.iadd, 1) := by decide +kernel
theorem dX1_awaitAnswer_43 : decode cX1_awaitAnswer 43 = .ok (.ireturn, 1) := by decide +kernel
theorem dX1_answer_0 : decode cX1_answer 0 = .ok (.iload_n 2, 1) := by decide +kernel
theorem dX1_answer_1 : decode cX1_answer 1 = .ok (.bipush 8, 2) := by decide +kernel
theorem dX1_answer_3 : decode cX1_answer 3 = .ok (.ishr, 1) := by decide +kernel
theorem dX1_answer_4 : decode cX1_answer 4 = .ok (.istore_n 3, 1) := by decide +kernel
theorem dX1_answer_5 : decode cX1_answer 5 = .ok (.iload_n 2, 1) := by decide +kernel
theorem dX1_answer_6 : decode cX1_answer 6 = .ok (.ifCond .lt 19, 3) := by decide +kernel
theorem dX1_answer_9 : decode cX1_answer 9 = .ok (.iload_n 2, 1) := by decide +kernel
theorem dX1_answer_10 : decode cX1_answer 10 = .ok (.aload_n 0, 1) := by decide +kernel
theorem dX1_answer_11 : decode cX1_answer 11 = .ok (.getfield 24, 3) := by decide +kernel
theorem dX1_answer_14 : decode cX1_answer 14 = .ok (.arraylength, 1) := by decide +kernel
theorem dX1_answer_15 : decode cX1_answer 15 = .ok (.if_icmp .ge 10, 3) := by decide +kernel
theorem dX1_answer_18 : decode cX1_answer 18 = .ok (.iload_n 3, 1) := by decide +kernel
theorem dX1_answer_19 : decode cX1_answer 19 = .ok (.sipush 257, 3) := by decide +kernel
theorem dX1_answer_22 : decode cX1_answer 22 = .ok (.if_icmp .lt 5, 3) := by decide +kernel
theorem dX1_answer_25 : decode cX1_answer 25 = .ok (.iconst (-1), 1) := by decide +kernel
theorem dX1_answer_26 : decode cX1_answer 26 = .ok (.ireturn, 1) := by decide +kernel
theorem dX1_answer_27 : decode cX1_answer 27 = .ok (.aload_n 0, 1) := by decide +kernel
theorem dX1_answer_28 : decode cX1_answer 28 = .ok (.getfield 17, 3) := by decide +kernel
theorem dX1_answer_31 : decode cX1_answer 31 = .ok (.iload_n 3, 1) := by decide +kernel
theorem dX1_answer_32 : decode cX1_answer 32 = .ok (.iaload, 1) := by decide +kernel
theorem dX1_answer_33 : decode cX1_answer 33 = .ok (.istore 4, 2) := by decide +kernel
theorem dX1_answer_35 : decode cX1_answer 35 = .ok (.iload_n 2, 1) := by decide +kernel
theorem dX1_answer_36 : decode cX1_answer 36 = .ok (.sipush 255, 3) := by decide +kernel
theorem dX1_answer_39 : decode cX1_answer 39 = .ok (.iand, 1) := by decide +kernel
theorem dX1_answer_40 : decode cX1_answer 40 = .ok (.istore 5, 2) := by decide +kernel
theorem dX1_answer_42 : decode cX1_answer 42 = .ok (.aload_n 0, 1) := by decide +kernel
theorem dX1_answer_43 : decode cX1_answer 43 = .ok (.getfield 24, 3) := by decide +kernel
theorem dX1_answer_46 : decode cX1_answer 46 = .ok (.iload_n 2, 1) := by decide +kernel
theorem dX1_answer_47 : decode cX1_answer 47 = .ok (.iaload, 1) := by decide +kernel
theorem dX1_answer_48 : decode cX1_answer 48 = .ok (.iconst 1, 1) := by decide +kernel
theorem dX1_answer_49 : decode cX1_answer 49 = .ok (.isub, 1) := by decide +kernel
theorem dX1_answer_50 : decode cX1_answer 50 = .ok (.istore 6, 2) := by decide +kernel
theorem dX1_answer_52 : decode cX1_answer 52 = .ok (.aload_n 1, 1) := by decide +kernel
theorem dX1_answer_53 : decode cX1_answer 53 = .ok (.iload 6, 2) := by decide +kernel
theorem dX1_answer_55 : decode cX1_answer 55 = .ok (.invokevirtual 84, 3) := by decide +kernel
theorem dX1_answer_58 : decode cX1_answer 58 = .ok (.istore 7, 2) := by decide +kernel
theorem dX1_answer_60 : decode cX1_answer 60 = .ok (.aload_n 1, 1) := by decide +kernel
theorem dX1_answer_61 : decode cX1_answer 61 = .ok (.iload 6, 2) := by decide +kernel
theorem dX1_answer_63 : decode cX1_answer 63 = .ok (.invokevirtual 87, 3) := by decide +kernel
theorem dX1_answer_66 : decode cX1_answer 66 = .ok (.istore 8, 2) := by decide +kernel
theorem dX1_answer_68 : decode cX1_answer 68 = .ok (.iload 6, 2) := by decide +kernel
theorem dX1_answer_70 : decode cX1_answer 70 = .ok (.ifCond .lt 25, 3) := by decide +kernel
theorem dX1_answer_73 : decode cX1_answer 73 = .ok (.aload_n 1, 1) := by decide +kernel
theorem dX1_answer_74 : decode cX1_answer 74 = .ok (.iload 6, 2) := by decide +kernel
theorem dX1_answer_76 : decode cX1_answer 76 = .ok (.invokevirtual 90, 3) := by decide +kernel
theorem dX1_answer_79 : decode cX1_answer 79 = .ok (.ifCond .ne 16, 3) := by decide +kernel
theorem dX1_answer_82 : decode cX1_answer 82 = .ok (.iload 7, 2) := by decide +kernel
theorem dX1_answer_84 : decode cX1_answer 84 = .ok (.iconst 5, 1) := by decide +kernel
theorem dX1_answer_85 : decode cX1_answer 85 = .ok (.if_icmp .eq 10, 3) := by decide +kernel
theorem dX1_answer_88 : decode cX1_answer 88 = .ok (.iload 7, 2) := by decide +kernel
theorem dX1_answer_90 : decode cX1_answer 90 = .ok (.bipush 11, 2) := by decide +kernel
theorem dX1_answer_92 : decode cX1_answer 92 = .ok (.if_icmp .ne 11, 3) := by decide +kernel
theorem dX1_answer_95 : decode cX1_answer 95 = .ok (.aload_n 0, 1) := by decide +kernel
theorem dX1_answer_96 : decode cX1_answer 96 = .ok (.iload_n 2, 1) := by decide +kernel
theorem dX1_answer_97 : decode cX1_answer 97 = .ok (.iload 5, 2) := by decide +kernel
theorem dX1_answer_99 : decode cX1_answer 99 = .ok (.invokevirtual 93, 3) := by decide +kernel
theorem dX1_answer_102 : decode cX1_answer 102 = .ok (.ireturn, 1) := by decide +kernel
theorem dX1_answer_103 : decode cX1_answer 103 = .ok (.iload 7, 2) := by decide +kernel
theorem dX1_answer_105 : decode cX1_answer 105 = .ok (.tableswitch 100 1 7 #[43, 53, 63, 100, 100, 100, 43], 43) := by decide +kernel
theorem dX1_answer_148 : decode cX1_answer 148 = .ok (.aload_n 0, 1) := by decide +kernel
theorem dX1_answer_149 : decode cX1_answer 149 = .ok (.iload_n 2, 1) := by decide +kernel
theorem dX1_answer_150 : decode cX1_answer 150 = .ok (.iload 8, 2) := by decide +kernel
theorem dX1_answer_152 : decode cX1_answer 152 = .ok (.iload 5, 2) := by decide +kernel
theorem dX1_answer_154 : decode cX1_answer 154 = .ok (.invokevirtual 96, 3) := by decide +kernel
theorem dX1_answer_157 : decode cX1_answer 157 = .ok (.ireturn, 1) := by decide +kernel
theorem dX1_answer_158 : decode cX1_answer 158 = .ok (.aload_n 0, 1) := by decide +kernel
theorem dX1_answer_159 : decode cX1_answer 159 = .ok (.iload_n 2, 1) := by decide +kernel
theorem dX1_answer_160 : decode cX1_answer 160 = .ok (.iload 4, 2) := by decide +kernel
theorem dX1_answer_162 : decode cX1_answer 162 = .ok (.iload 8, 2) := by decide +kernel
theorem dX1_answer_164 : decode cX1_answer 164 = .ok (.invokevirtual 96, 3) := by decide +kernel
theorem dX1_answer_167 : decode cX1_answer 167 = .ok (.ireturn, 1) := by decide +kernel
theorem dX1_answer_168 : decode cX1_answer 168 = .ok (.aload_n 0, 1) := by decide +kernel
theorem dX1_answer_169 : decode cX1_answer 169 = .ok (.iload 4, 2) := by decide +kernel
theorem dX1_answer_171 : decode cX1_answer 171 = .ok (.iload 8, 2) := by decide +kernel
theorem dX1_answer_173 : decode cX1_answer 173 = .ok (.invokevirtual 100, 3) := by decide +kernel
theorem dX1_answer_176 : decode cX1_answer 176 = .ok (.istore 9, 2) := by decide +kernel
theorem dX1_answer_178 : decode cX1_answer 178 = .ok (.iload 9, 2) := by decide +kernel
theorem dX1_answer_180 : decode cX1_answer 180 = .ok (.iconst (-1), 1) := by decide +kernel
theorem dX1_answer_181 : decode cX1_answer 181 = .ok (.if_icmp .ne 14, 3) := by decide +kernel
theorem dX1_answer_184 : decode cX1_answer 184 = .ok (.aload_n 0, 1) := by decide +kernel
theorem dX1_answer_185 : decode cX1_answer 185 = .ok (.iload 4, 2) := by decide +kernel
theorem dX1_answer_187 : decode cX1_answer 187 = .ok (.iload 8, 2) := by decide +kernel
theorem dX1_answer_189 : decode cX1_answer 189 = .ok (.invokevirtual 103, 3) := by decide +kernel
theorem dX1_answer_192 : decode cX1_answer 192 = .ok (.goto 12, 3) := by decide +kernel
theorem dX1_answer_195 : decode cX1_answer 195 = .ok (.aload_n 0, 1) := by decide +kernel
theorem dX1_answer_196 : decode cX1_answer 196 = .ok (.iload_n 2, 1) := by decide +kernel
theorem dX1_answer_197 : decode cX1_answer 197 = .ok (.iload 9, 2) := by decide +kernel
theorem dX1_answer_199 : decode cX1_answer 199 = .ok (.iload 5, 2) := by decide +kernel
theorem dX1_answer_201 : decode cX1_answer 201 = .ok (.invokevirtual 96, 3) := by decide +kernel
theorem dX1_answer_204 : decode cX1_answer 204 = .ok (.ireturn, 1) := by decide +kernel
theorem dX1_answer_205 : decode cX1_answer 205 = .ok (.aload_n 0, 1) := by decide +kernel
theorem dX1_answer_206 : decode cX1_answer 206 = .ok (.iload_n 2, 1) := by decide +kernel
theorem dX1_answer_207 : decode cX1_answer 207 = .ok (.iload 8, 2) := by decide +kernel
theorem dX1_answer_209 : decode cX1_answer 209 = .ok (.invokevirtual 93, 3) := by decide +kernel
theorem dX1_answer_212 : decode cX1_answer 212 = .ok (.ireturn, 1) := by decide +kernel
theorem dX1_answerAs_0 : decode cX1_answerAs 0 = .ok (.aload_n 0, 1) := by decide +kernel
theorem dX1_answerAs_1 : decode cX1_answerAs 1 = .ok (.iload_n 2, 1) := by decide +kernel
theorem dX1_answerAs_2 : decode cX1_answerAs 2 = .ok (.iload_n 3, 1) := by decide +kernel
theorem dX1_answerAs_3 : decode cX1_answerAs 3 = .ok (.invokevirtual 100, 3) := by decide +kernel
theorem dX1_answerAs_6 : decode cX1_answerAs 6 = .ok (.istore 4, 2) := by decide +kernel
theorem dX1_answerAs_8 : decode cX1_answerAs 8 = .ok (.iload 4, 2) := by decide +kernel
theorem dX1_answerAs_10 : decode cX1_answerAs 10 = .ok (.iconst (-1), 1) := by decide +kernel
theorem dX1_answerAs_11 : decode cX1_answerAs 11 = .ok (.if_icmp .ne 12, 3) := by decide +kernel
theorem dX1_answerAs_14 : decode cX1_answerAs 14 = .ok (.aload_n 0, 1) := by decide +kernel
theorem dX1_answerAs_15 : decode cX1_answerAs 15 = .ok (.iload_n 2, 1) := by decide +kernel
theorem dX1_answerAs_16 : decode cX1_answerAs 16 = .ok (.iload_n 3, 1) := by decide +kernel
theorem dX1_answerAs_17 : decode cX1_answerAs 17 = .ok (.invokevirtual 103, 3) := by decide +kernel
theorem dX1_answerAs_20 : decode cX1_answerAs 20 = .ok (.goto 10, 3) := by decide +kernel
theorem dX1_answerAs_23 : decode cX1_answerAs 23 = .ok (.aload_n 0, 1) := by decide +kernel
theorem dX1_answerAs_24 : decode cX1_answerAs 24 = .ok (.iload_n 1, 1) := by decide +kernel
theorem dX1_answerAs_25 : decode cX1_answerAs 25 = .ok (.iload 4, 2) := by decide +kernel
theorem dX1_answerAs_27 : decode cX1_answerAs 27 = .ok (.invokevirtual 93, 3) := by decide +kernel
theorem dX1_answerAs_30 : decode cX1_answerAs 30 = .ok (.ireturn, 1) := by decide +kernel
theorem dX1_know_0 : decode cX1_know 0 = .ok (.iload_n 1, 1) := by decide +kernel
theorem dX1_know_1 : decode cX1_know 1 = .ok (.ifCond .lt 21, 3) := by decide +kernel
theorem dX1_know_4 : decode cX1_know 4 = .ok (.iload_n 1, 1) := by decide +kernel
theorem dX1_know_5 : decode cX1_know 5 = .ok (.aload_n 0, 1) := by decide +kernel
theorem dX1_know_6 : decode cX1_know 6 = .ok (.getfield 27, 3) := by decide +kernel
theorem dX1_know_9 : decode cX1_know 9 = .ok (.arraylength, 1) := by decide +kernel
theorem dX1_know_10 : decode cX1_know 10 = .ok (.if_icmp .ge 12, 3) := by decide +kernel
theorem dX1_know_13 : decode cX1_know 13 = .ok (.aload_n 0, 1) := by decide +kernel
theorem dX1_know_14 : decode cX1_know 14 = .ok (.getfield 27, 3) := by decide +kernel
theorem dX1_know_17 : decode cX1_know 17 = .ok (.iload_n 1, 1) := by decide +kernel
theorem dX1_know_18 : decode cX1_know 18 = .ok (.iload_n 2, 1) := by decide +kernel
theorem dX1_know_19 : decode cX1_know 19 = .ok (.iconst 1, 1) := by decide +kernel
theorem dX1_know_20 : decode cX1_know 20 = .ok (.iadd, 1) := by decide +kernel
theorem dX1_know_21 : decode cX1_know 21 = .ok (.iastore, 1) := by decide +kernel
theorem dX1_know_22 : decode cX1_know 22 = .ok (.iconst (-1), 1) := by decide +kernel
theorem dX1_know_23 : decode cX1_know 23 = .ok (.ireturn, 1) := by decide +kernel
theorem dX1_endOf_0 : decode cX1_endOf 0 = .ok (.aload_n 0, 1) := by decide +kernel
theorem dX1_endOf_1 : decode cX1_endOf 1 = .ok (.iload_n 1, 1) := by decide +kernel
theorem dX1_endOf_2 : decode cX1_endOf 2 = .ok (.iload_n 2, 1) := by decide +kernel
theorem dX1_endOf_3 : decode cX1_endOf 3 = .ok (.invokevirtual 103, 3) := by decide +kernel
theorem dX1_endOf_6 : decode cX1_endOf 6 = .ok (.istore_n 3, 1) := by decide +kernel
theorem dX1_endOf_7 : decode cX1_endOf 7 = .ok (.iload_n 3, 1) := by decide +kernel
theorem dX1_endOf_8 : decode cX1_endOf 8 = .ok (.iconst (-1), 1) := by decide +kernel
theorem dX1_endOf_9 : decode cX1_endOf 9 = .ok (.if_icmp .ne 5, 3) := by decide +kernel
theorem dX1_endOf_12 : decode cX1_endOf 12 = .ok (.iload_n 2, 1) := by decide +kernel
theorem dX1_endOf_13 : decode cX1_endOf 13 = .ok (.ireturn, 1) := by decide +kernel
theorem dX1_endOf_14 : decode cX1_endOf 14 = .ok (.aload_n 0, 1) := by decide +kernel
theorem dX1_endOf_15 : decode cX1_endOf 15 = .ok (.iload_n 3, 1) := by decide +kernel
theorem dX1_endOf_16 : decode cX1_endOf 16 = .ok (.invokevirtual 44, 3) := by decide +kernel
theorem dX1_endOf_19 : decode cX1_endOf 19 = .ok (.ifCond .le 13, 3) := by decide +kernel
theorem dX1_endOf_22 : decode cX1_endOf 22 = .ok (.aload_n 0, 1) := by decide +kernel
theorem dX1_endOf_23 : decode cX1_endOf 23 = .ok (.iload_n 3, 1) := by decide +kernel
theorem dX1_endOf_24 : decode cX1_endOf 24 = .ok (.invokevirtual 44, 3) := by decide +kernel
theorem dX1_endOf_27 : decode cX1_endOf 27 = .ok (.iconst 1, 1) := by decide +kernel
theorem dX1_endOf_28 : decode cX1_endOf 28 = .ok (.isub, 1) := by decide +kernel
theorem dX1_endOf_29 : decode cX1_endOf 29 = .ok (.goto 4, 3) := by decide +kernel
theorem dX1_endOf_32 : decode cX1_endOf 32 = .ok (.iconst (-1), 1) := by decide +kernel
theorem dX1_endOf_33 : decode cX1_endOf 33 = .ok (.ireturn, 1) := by decide +kernel
theorem dX1_stateOf_0 : decode cX1_stateOf 0 = .ok (.iload_n 1, 1) := by decide +kernel
theorem dX1_stateOf_1 : decode cX1_stateOf 1 = .ok (.ifCond .lt 21, 3) := by decide +kernel
theorem dX1_stateOf_4 : decode cX1_stateOf 4 = .ok (.iload_n 1, 1) := by decide +kernel
theorem dX1_stateOf_5 : decode cX1_stateOf 5 = .ok (.aload_n 0, 1) := by decide +kernel
theorem dX1_stateOf_6 : decode cX1_stateOf 6 = .ok (.getfield 27, 3) := by decide +kernel
theorem dX1_stateOf_9 : decode cX1_stateOf 9 = .ok (.arraylength, 1) := by decide +kernel
theorem dX1_stateOf_10 : decode cX1_stateOf 10 = .ok (.if_icmp .ge 12, 3) := by decide +kernel
theorem dX1_stateOf_13 : decode cX1_stateOf 13 = .ok (.aload_n 0, 1) := by decide +kernel
theorem dX1_stateOf_14 : decode cX1_stateOf 14 = .ok (.getfield 27, 3) := by decide +kernel
theorem dX1_stateOf_17 : decode cX1_stateOf 17 = .ok (.iload_n 1, 1) := by decide +kernel
theorem dX1_stateOf_18 : decode cX1_stateOf 18 = .ok (.iaload, 1) := by decide +kernel
theorem dX1_stateOf_19 : decode cX1_stateOf 19 = .ok (.goto 4, 3) := by decide +kernel
theorem dX1_stateOf_22 : decode cX1_stateOf 22 = .ok (.iconst 0, 1) := by decide +kernel
theorem dX1_stateOf_23 : decode cX1_stateOf 23 = .ok (.ireturn, 1) := by decide +kernel
theorem dX1_pairOf_0 : decode cX1_pairOf 0 = .ok (.iload_n 1, 1) := by decide +kernel
theorem dX1_pairOf_1 : decode cX1_pairOf 1 = .ok (.ifCond .lt 20, 3) := by decide +kernel
theorem dX1_pairOf_4 : decode cX1_pairOf 4 = .ok (.iload_n 1, 1) := by decide +kernel
theorem dX1_pairOf_5 : decode cX1_pairOf 5 = .ok (.sipush 257, 3) := by decide +kernel
theorem dX1_pairOf_8 : decode cX1_pairOf 8 = .ok (.if_icmp .ge 13, 3) := by decide +kernel
theorem dX1_pairOf_11 : decode cX1_pairOf 11 = .ok (.aload_n 0, 1) := by decide +kernel
theorem dX1_pairOf_12 : decode cX1_pairOf 12 = .ok (.getfield 13, 3) := by decide +kernel
theorem dX1_pairOf_15 : decode cX1_pairOf 15 = .ok (.iload_n 1, 1) := by decide +kernel
theorem dX1_pairOf_16 : decode cX1_pairOf 16 = .ok (.iaload, 1) := by decide +kernel
theorem dX1_pairOf_17 : decode cX1_pairOf 17 = .ok (.iconst (-1), 1) := by decide +kernel
theorem dX1_pairOf_18 : decode cX1_pairOf 18 = .ok (.if_icmp .ne 7, 3) := by decide +kernel
theorem dX1_pairOf_21 : decode cX1_pairOf 21 = .ok (.iconst (-1), 1) := by decide +kernel
theorem dX1_pairOf_22 : decode cX1_pairOf 22 = .ok (.goto 15, 3) := by decide +kernel
theorem dX1_pairOf_25 : decode cX1_pairOf 25 = .ok (.sipush 256, 3) := by decide +kernel
theorem dX1_pairOf_28 : decode cX1_pairOf 28 = .ok (.aload_n 0, 1) := by decide +kernel
theorem dX1_pairOf_29 : decode cX1_pairOf 29 = .ok (.getfield 13, 3) := by decide +kernel
theorem dX1_pairOf_32 : decode cX1_pairOf 32 = .ok (.iload_n 1, 1) := by decide +kernel
theorem dX1_pairOf_33 : decode cX1_pairOf 33 = .ok (.iaload, 1) := by decide +kernel
theorem dX1_pairOf_34 : decode cX1_pairOf 34 = .ok (.imul, 1) := by decide +kernel
theorem dX1_pairOf_35 : decode cX1_pairOf 35 = .ok (.iload_n 2, 1) := by decide +kernel
theorem dX1_pairOf_36 : decode cX1_pairOf 36 = .ok (.iadd, 1) := by decide +kernel
theorem dX1_pairOf_37 : decode cX1_pairOf 37 = .ok (.ireturn, 1) := by decide +kernel
theorem dX2_halvesFit_0 : decode cX2_halvesFit 0 = .ok (.aload_n 0, 1) := by decide +kernel
theorem dX2_halvesFit_1 : decode cX2_halvesFit 1 = .ok (.invokevirtual 7, 3) := by decide +kernel
theorem dX2_halvesFit_4 : decode cX2_halvesFit 4 = .ok (.bipush 24, 2) := by decide +kernel
theorem dX2_halvesFit_6 : decode cX2_halvesFit 6 = .ok (.if_icmp .lt 17, 3) := by decide +kernel
theorem dX2_halvesFit_9 : decode cX2_halvesFit 9 = .ok (.aload_n 0, 1) := by decide +kernel
theorem dX2_halvesFit_10 : decode cX2_halvesFit 10 = .ok (.invokevirtual 7, 3) := by decide +kernel
theorem dX2_halvesFit_13 : decode cX2_halvesFit 13 = .ok (.iconst 4, 1) := by decide +kernel
theorem dX2_halvesFit_14 : decode cX2_halvesFit 14 = .ok (.aload_n 0, 1) := by decide +kernel
theorem dX2_halvesFit_15 : decode cX2_halvesFit 15 = .ok (.iconst 0, 1) := by decide +kernel
theorem dX2_halvesFit_16 : decode cX2_halvesFit 16 = .ok (.invokevirtual 13, 3) := by decide +kernel
theorem dX2_halvesFit_19 : decode cX2_halvesFit 19 = .ok (.imul, 1) := by decide +kernel
theorem dX2_halvesFit_20 : decode cX2_halvesFit 20 = .ok (.if_icmp .eq 5, 3) := by decide +kernel
theorem dX2_halvesFit_23 : decode cX2_halvesFit 23 = .ok (.iconst 0, 1) := by decide +kernel
theorem dX2_halvesFit_24 : decode cX2_halvesFit 24 = .ok (.ireturn, 1) := by decide +kernel
theorem dX2_halvesFit_25 : decode cX2_halvesFit 25 = .ok (.iconst 0, 1) := by decide +kernel
theorem dX2_halvesFit_26 : decode cX2_halvesFit 26 = .ok (.istore_n 1, 1) := by decide +kernel
theorem dX2_halvesFit_27 : decode cX2_halvesFit 27 = .ok (.iload_n 1, 1) := by decide +kernel
theorem dX2_halvesFit_28 : decode cX2_halvesFit 28 = .ok (.bipush 12, 2) := by decide +kernel
theorem dX2_halvesFit_30 : decode cX2_halvesFit 30 = .ok (.if_icmp .ge 56, 3) := by decide +kernel
theorem dX2_halvesFit_33 : decode cX2_halvesFit 33 = .ok (.iload_n 1, 1) := by decide +kernel
theorem dX2_halvesFit_34 : decode cX2_halvesFit 34 = .ok (.iconst 1, 1) := by decide +kernel
theorem dX2_halvesFit_35 : decode cX2_halvesFit 35 = .ok (.if_icmp .ne 7, 3) := by decide +kernel
theorem dX2_halvesFit_38 : decode cX2_halvesFit 38 = .ok (.iconst 2, 1) := by decide +kernel
theorem dX2_halvesFit_39 : decode cX2_halvesFit 39 = .ok (.goto 19, 3) := by decide +kernel
theorem dX2_halvesFit_42 : decode cX2_halvesFit 42 = .ok (.iload_n 1, 1) := by decide +kernel
theorem dX2_halvesFit_43 : decode cX2_halvesFit 43 = .ok (.iconst 4, 1) := by decide +kernel
theorem dX2_halvesFit_44 : decode cX2_halvesFit 44 = .ok (.if_icmp .lt 13, 3) := by decide +kernel
theorem dX2_halvesFit_47 : decode cX2_halvesFit 47 = .ok (.iload_n 1, 1) := by decide +kernel
theorem dX2_halvesFit_48 : decode cX2_halvesFit 48 = .ok (.bipush 7, 2) := by decide +kernel
theorem dX2_halvesFit_50 : decode cX2_halvesFit 50 = .ok (.if_icmp .gt 7, 3) := by decide +kernel
theorem dX2_halvesFit_53 : decode cX2_halvesFit 53 = .ok (.iconst 1, 1) := by decide +kernel
theorem dX2_halvesFit_54 : decode cX2_halvesFit 54 = .ok (.goto 4, 3) := by decide +kernel
theorem dX2_halvesFit_57 : decode cX2_halvesFit 57 = .ok (.iconst 0, 1) := by decide +kernel
theorem dX2_halvesFit_58 : decode cX2_halvesFit 58 = .ok (.istore_n 2, 1) := by decide +kernel
theorem dX2_halvesFit_59 : decode cX2_halvesFit 59 = .ok (.aload_n 0, 1) := by decide +kernel
theorem dX2_halvesFit_60 : decode cX2_halvesFit 60 = .ok (.iload_n 1, 1) := by decide +kernel
theorem dX2_halvesFit_61 : decode cX2_halvesFit 61 = .ok (.invokevirtual 13, 3) := by decide +kernel
theorem dX2_halvesFit_64 : decode cX2_halvesFit 64 = .ok (.iload_n 2, 1) := by decide +kernel
theorem dX2_halvesFit_65 : decode cX2_halvesFit 65 = .ok (.if_icmp .lt 13, 3) := by decide +kernel
theorem dX2_halvesFit_68 : decode cX2_halvesFit 68 = .ok (.aload_n 0, 1) := by decide +kernel
theorem dX2_halvesFit_69 : decode cX2_halvesFit 69 = .ok (.iload_n 1, 1) := by decide +kernel
theorem dX2_halvesFit_70 : decode cX2_halvesFit 70 = .ok (.invokevirtual 13, 3) := by decide +kernel
theorem dX2_halvesFit_73 : decode cX2_halvesFit 73 = .ok (.ldc 17, 2) := by decide +kernel
theorem dX2_halvesFit_75 : decode cX2_halvesFit 75 = .ok (.if_icmp .lt 5, 3) := by decide +kernel
theorem dX2_halvesFit_78 : decode cX2_halvesFit 78 = .ok (.iconst 0, 1) := by decide +kernel
theorem dX2_halvesFit_79 : decode cX2_halvesFit 79 = .ok (.ireturn, 1) := by decide +kernel
theorem dX2_halvesFit_80 : decode cX2_halvesFit 80 = .ok (.iinc 1 1, 3) := by decide +kernel
theorem dX2_halvesFit_83 : decode cX2_halvesFit 83 = .ok (.goto (-56), 3) := by decide +kernel
theorem dX2_halvesFit_86 : decode cX2_halvesFit 86 = .ok (.aload_n 0, 1) := by decide +kernel
theorem dX2_halvesFit_87 : decode cX2_halvesFit 87 = .ok (.iconst 3, 1) := by decide +kernel
theorem dX2_halvesFit_88 : decode cX2_halvesFit 88 = .ok (.invokevirtual 13, 3) := by decide +kernel
theorem dX2_halvesFit_91 : decode cX2_halvesFit 91 = .ok (.aload_n 0, 1) := by decide +kernel
theorem dX2_halvesFit_92 : decode cX2_halvesFit 92 = .ok (.iconst 2, 1) := by decide +kernel
theorem dX2_halvesFit_93 : decode cX2_halvesFit 93 = .ok (.invokevirtual 13, 3) := by decide +kernel
theorem dX2_halvesFit_96 : decode cX2_halvesFit 96 = .ok (.isub, 1) := by decide +kernel
theorem dX2_halvesFit_97 : decode cX2_halvesFit 97 = .ok (.iconst 1, 1) := by decide +kernel
theorem dX2_halvesFit_98 : decode cX2_halvesFit 98 = .ok (.iadd, 1) := by decide +kernel
theorem dX2_halvesFit_99 : decode cX2_halvesFit 99 = .ok (.istore_n 1, 1) := by decide +kernel
theorem dX2_halvesFit_100 : decode cX2_halvesFit 100 = .ok (.iload_n 1, 1) := by decide +kernel
theorem dX2_halvesFit_101 : decode cX2_halvesFit 101 = .ok (.ifCond .lt 26, 3) := by decide +kernel
theorem dX2_halvesFit_104 : decode cX2_halvesFit 104 = .ok (.aload_n 0, 1) := by decide +kernel
theorem dX2_halvesFit_105 : decode cX2_halvesFit 105 = .ok (.iconst 3, 1) := by decide +kernel
theorem dX2_halvesFit_106 : decode cX2_halvesFit 106 = .ok (.invokevirtual 13, 3) := by decide +kernel
theorem dX2_halvesFit_109 : decode cX2_halvesFit 109 = .ok (.sipush 255, 3) := by decide +kernel
theorem dX2_halvesFit_112 : decode cX2_halvesFit 112 = .ok (.if_icmp .gt 15, 3) := by decide +kernel
theorem dX2_halvesFit_115 : decode cX2_halvesFit 115 = .ok (.aload_n 0, 1) := by decide +kernel
theorem dX2_halvesFit_116 : decode cX2_halvesFit 116 = .ok (.bipush 10, 2) := by decide +kernel
theorem dX2_halvesFit_118 : decode cX2_halvesFit 118 = .ok (.invokevirtual 13, 3) := by decide +kernel
theorem dX2_halvesFit_121 : decode cX2_halvesFit 121 = .ok (.sipush 256, 3) := by decide +kernel
theorem dX2_halvesFit_124 : decode cX2_halvesFit 124 = .ok (.if_icmp .le 5, 3) := by decide +kernel
theorem dX2_halvesFit_127 : decode cX2_halvesFit 127 = .ok (.iconst 0, 1) := by decide +kernel
theorem dX2_halvesFit_128 : decode cX2_halvesFit 128 = .ok (.ireturn, 1) := by decide +kernel
theorem dX2_halvesFit_129 : decode cX2_halvesFit 129 = .ok (.bipush 6, 2) := by decide +kernel
theorem dX2_halvesFit_131 : decode cX2_halvesFit 131 = .ok (.aload_n 0, 1) := by decide +kernel
theorem dX2_halvesFit_132 : decode cX2_halvesFit 132 = .ok (.iconst 1, 1) := by decide +kernel
theorem dX2_halvesFit_133 : decode cX2_halvesFit 133 = .ok (.invokevirtual 13, 3) := by decide +kernel
theorem dX2_halvesFit_136 : decode cX2_halvesFit 136 = .ok (.iadd, 1) := by decide +kernel
theorem dX2_halvesFit_137 : decode cX2_halvesFit 137 = .ok (.iload_n 1, 1) := by decide +kernel
theorem dX2_halvesFit_138 : decode cX2_halvesFit 138 = .ok (.iadd, 1) := by decide +kernel
theorem dX2_halvesFit_139 : decode cX2_halvesFit 139 = .ok (.istore_n 2, 1) := by decide +kernel
theorem dX2_halvesFit_140 : decode cX2_halvesFit 140 = .ok (.iconst 4, 1) := by decide +kernel
theorem dX2_halvesFit_141 : decode cX2_halvesFit 141 = .ok (.istore_n 3, 1) := by decide +kernel
theorem dX2_halvesFit_142 : decode cX2_halvesFit 142 = .ok (.iload_n 3, 1) := by decide +kernel
theorem dX2_halvesFit_143 : decode cX2_halvesFit 143 = .ok (.bipush 12, 2) := by decide +kernel
theorem dX2_halvesFit_145 : decode cX2_halvesFit 145 = .ok (.if_icmp .ge 17, 3) := by decide +kernel
theorem dX2_halvesFit_148 : decode cX2_halvesFit 148 = .ok (.iload_n 2, 1) := by decide +kernel
theorem dX2_halvesFit_149 : decode cX2_halvesFit 149 = .ok (.aload_n 0, 1) := by decide +kernel
theorem dX2_halvesFit_150 : decode cX2_halvesFit 150 = .ok (.iload_n 3, 1) := by decide +kernel
theorem dX2_halvesFit_151 : decode cX2_halvesFit 151 = .ok (.invokevirtual 13, 3) := by decide +kernel
theorem dX2_halvesFit_154 : decode cX2_halvesFit 154 = .ok (.iadd, 1) := by decide +kernel
theorem dX2_halvesFit_155 : decode cX2_halvesFit 155 = .ok (.istore_n 2, 1) := by decide +kernel
theorem dX2_halvesFit_156 : decode cX2_halvesFit 156 = .ok (.iinc 3 1, 3) := by decide +kernel
theorem dX2_halvesFit_159 : decode cX2_halvesFit 159 = .ok (.goto (-17), 3) := by decide +kernel
theorem dX2_halvesFit_162 : decode cX2_halvesFit 162 = .ok (.iload_n 2, 1) := by decide +kernel
theorem dX2_halvesFit_163 : decode cX2_halvesFit 163 = .ok (.aload_n 0, 1) := by decide +kernel
theorem dX2_halvesFit_164 : decode cX2_halvesFit 164 = .ok (.iconst 0, 1) := by decide +kernel
theorem dX2_halvesFit_165 : decode cX2_halvesFit 165 = .ok (.invokevirtual 13, 3) := by decide +kernel
theorem dX2_halvesFit_168 : decode cX2_halvesFit 168 = .ok (.if_icmp .ne 7, 3) := by decide +kernel
theorem dX2_halvesFit_171 : decode cX2_halvesFit 171 = .ok (.iconst 1, 1) := by decide +kernel
theorem dX2_halvesFit_172 : decode cX2_halvesFit 172 = .ok (.goto 4, 3) := by decide +kernel
theorem dX2_halvesFit_175 : decode cX2_halvesFit 175 = .ok (.iconst 0, 1) := by decide +kernel
theorem dX2_halvesFit_176 : decode cX2_halvesFit 176 = .ok (.ireturn, 1) := by decide +kernel
theorem dX2_faultOf_0 : decode cX2_faultOf 0 = .ok (.aload_n 0, 1) := by decide +kernel
theorem dX2_faultOf_1 : decode cX2_faultOf 1 = .ok (.ifnonnull 5, 3) := by decide +kernel
theorem dX2_faultOf_4 : decode cX2_faultOf 4 = .ok (.iconst 1, 1) := by decide +kernel
theorem dX2_faultOf_5 : decode cX2_faultOf 5 = .ok (.ireturn, 1) := by decide +kernel
theorem dX2_faultOf_6 : decode cX2_faultOf 6 = .ok (.aload_n 0, 1) := by decide +kernel
theorem dX2_faultOf_7 : decode cX2_faultOf 7 = .ok (.invokevirtual 18, 3) := by decide +kernel
theorem dX2_faultOf_10 : decode cX2_faultOf 10 = .ok (.ldc 25, 2) := by decide +kernel
theorem dX2_faultOf_12 : decode cX2_faultOf 12 = .ok (.if_icmp .ge 5, 3) := by decide +kernel
theorem dX2_faultOf_15 : decode cX2_faultOf 15 = .ok (.iconst 2, 1) := by decide +kernel
theorem dX2_faultOf_16 : decode cX2_faultOf 16 = .ok (.ireturn, 1) := by decide +kernel
theorem dX2_faultOf_17 : decode cX2_faultOf 17 = .ok (.aload_n 0, 1) := by decide +kernel
theorem dX2_faultOf_18 : decode cX2_faultOf 18 = .ok (.invokestatic 26, 3) := by decide +kernel
theorem dX2_faultOf_21 : decode cX2_faultOf 21 = .ok (.ifCond .ne 5, 3) := by decide +kernel
theorem dX2_faultOf_24 : decode cX2_faultOf 24 = .ok (.iconst 3, 1) := by decide +kernel
theorem dX2_faultOf_25 : decode cX2_faultOf 25 = .ok (.ireturn, 1) := by decide +kernel
theorem dX2_faultOf_26 : decode cX2_faultOf 26 = .ok (.aload_n 0, 1) := by decide +kernel
theorem dX2_faultOf_27 : decode cX2_faultOf 27 = .ok (.invokestatic 30, 3) := by decide +kernel
theorem dX2_faultOf_30 : decode cX2_faultOf 30 = .ok (.ifCond .ne 5, 3) := by decide +kernel
theorem dX2_faultOf_33 : decode cX2_faultOf 33 = .ok (.iconst 4, 1) := by decide +kernel
theorem dX2_faultOf_34 : decode cX2_faultOf 34 = .ok (.ireturn, 1) := by decide +kernel
theorem dX2_faultOf_35 : decode cX2_faultOf 35 = .ok (.aload_n 0, 1) := by decide +kernel
theorem dX2_faultOf_36 : decode cX2_faultOf 36 = .ok (.invokestatic 33, 3) := by decide +kernel
theorem dX2_faultOf_39 : decode cX2_faultOf 39 = .ok (.ifCond .ne 5, 3) := by decide +kernel
theorem dX2_faultOf_42 : decode cX2_faultOf 42 = .ok (.iconst 5, 1) := by decide +kernel
theorem dX2_faultOf_43 : decode cX2_faultOf 43 = .ok (.ireturn, 1) := by decide +kernel
theorem dX2_faultOf_44 : decode cX2_faultOf 44 = .ok (.aload_n 0, 1) := by decide +kernel
theorem dX2_faultOf_45 : decode cX2_faultOf 45 = .ok (.invokestatic 36, 3) := by decide +kernel
theorem dX2_faultOf_48 : decode cX2_faultOf 48 = .ok (.ifCond .eq 7, 3) := by decide +kernel
theorem dX2_faultOf_51 : decode cX2_faultOf 51 = .ok (.iconst 0, 1) := by decide +kernel
theorem dX2_faultOf_52 : decode cX2_faultOf 52 = .ok (.goto 5, 3) := by decide +kernel
theorem dX2_faultOf_55 : decode cX2_faultOf 55 = .ok (.bipush 6, 2) := by decide +kernel
theorem dX2_faultOf_57 : decode cX2_faultOf 57 = .ok (.ireturn, 1) := by decide +kernel
theorem dX2_infosFit_0 : decode cX2_infosFit 0 = .ok (.iconst 0, 1) := by decide +kernel
theorem dX2_infosFit_1 : decode cX2_infosFit 1 = .ok (.istore_n 1, 1) := by decide +kernel
theorem dX2_infosFit_2 : decode cX2_infosFit 2 = .ok (.iload_n 1, 1) := by decide +kernel
theorem dX2_infosFit_3 : decode cX2_infosFit 3 = .ok (.sipush 256, 3) := by decide +kernel
theorem dX2_infosFit_6 : decode cX2_infosFit 6 = .ok (.if_icmp .ge 35, 3) := by decide +kernel
theorem dX2_infosFit_9 : decode cX2_infosFit 9 = .ok (.aload_n 0, 1) := by decide +kernel
theorem dX2_infosFit_10 : decode cX2_infosFit 10 = .ok (.iload_n 1, 1) := by decide +kernel
theorem dX2_infosFit_11 : decode cX2_infosFit 11 = .ok (.invokevirtual 39, 3) := by decide +kernel
theorem dX2_infosFit_14 : decode cX2_infosFit 14 = .ok (.ifCond .eq 21, 3) := by decide +kernel
theorem dX2_infosFit_17 : decode cX2_infosFit 17 = .ok (.aload_n 0, 1) := by decide +kernel
theorem dX2_infosFit_18 : decode cX2_infosFit 18 = .ok (.iload_n 1, 1) := by decide +kernel
theorem dX2_infosFit_19 : decode cX2_infosFit 19 = .ok (.invokestatic 43, 3) := by decide +kernel
theorem dX2_infosFit_22 : decode cX2_infosFit 22 = .ok (.ifCond .eq 11, 3) := by decide +kernel
theorem dX2_infosFit_25 : decode cX2_infosFit 25 = .ok (.aload_n 0, 1) := by decide +kernel
theorem dX2_infosFit_26 : decode cX2_infosFit 26 = .ok (.iload_n 1, 1) := by decide +kernel
theorem dX2_infosFit_27 : decode cX2_infosFit 27 = .ok (.invokestatic 47, 3) := by decide +kernel
theorem dX2_infosFit_30 : decode cX2_infosFit 30 = .ok (.ifCond .ne 5, 3) := by decide +kernel
theorem dX2_infosFit_33 : decode cX2_infosFit 33 = .ok (.iconst 0, 1) := by decide +kernel
theorem dX2_infosFit_34 : decode cX2_infosFit 34 = .ok (.ireturn, 1) := by decide +kernel
theorem dX2_infosFit_35 : decode cX2_infosFit 35 = .ok (.iinc 1 1, 3) := by decide +kernel
theorem dX2_infosFit_38 : decode cX2_infosFit 38 = .ok (.goto (-36), 3) := by decide +kernel
theorem dX2_infosFit_41 : decode cX2_infosFit 41 = .ok (.iconst 1, 1) := by decide +kernel
theorem dX2_infosFit_42 : decode cX2_infosFit 42 = .ok (.ireturn, 1) := by decide +kernel
theorem dX2_placesFit_0 : decode cX2_placesFit 0 = .ok (.iconst 0, 1) := by decide +kernel
theorem dX2_placesFit_1 : decode cX2_placesFit 1 = .ok (.istore_n 2, 1) := by decide +kernel
theorem dX2_placesFit_2 : decode cX2_placesFit 2 = .ok (.iload_n 2, 1) := by decide +kernel
theorem dX2_placesFit_3 : decode cX2_placesFit 3 = .ok (.iconst 4, 1) := by decide +kernel
theorem dX2_placesFit_4 : decode cX2_placesFit 4 = .ok (.if_icmp .ge 27, 3) := by decide +kernel
theorem dX2_placesFit_7 : decode cX2_placesFit 7 = .ok (.aload_n 0, 1) := by decide +kernel
theorem dX2_placesFit_8 : decode cX2_placesFit 8 = .ok (.iload_n 1, 1) := by decide +kernel
theorem dX2_placesFit_9 : decode cX2_placesFit 9 = .ok (.iload_n 2, 1) := by decide +kernel
theorem dX2_placesFit_10 : decode cX2_placesFit 10 = .ok (.invokevirtual 50, 3) := by decide +kernel
theorem dX2_placesFit_13 : decode cX2_placesFit 13 = .ok (.aload_n 0, 1) := by decide +kernel
theorem dX2_placesFit_14 : decode cX2_placesFit 14 = .ok (.iconst 2, 1) := by decide +kernel
theorem dX2_placesFit_15 : decode cX2_placesFit 15 = .ok (.iload_n 2, 1) := by decide +kernel
theorem dX2_placesFit_16 : decode cX2_placesFit 16 = .ok (.iadd, 1) := by decide +kernel
theorem dX2_placesFit_17 : decode cX2_placesFit 17 = .ok (.invokevirtual 54, 3) := by decide +kernel
theorem dX2_placesFit_20 : decode cX2_placesFit 20 = .ok (.if_icmp .lt 5, 3) := by decide +kernel
theorem dX2_placesFit_23 : decode cX2_placesFit 23 = .ok (.iconst 0, 1) := by decide +kernel
theorem dX2_placesFit_24 : decode cX2_placesFit 24 = .ok (.ireturn, 1) := by decide +kernel
theorem dX2_placesFit_25 : decode cX2_placesFit 25 = .ok (.iinc 2 1, 3) := by decide +kernel
theorem dX2_placesFit_28 : decode cX2_placesFit 28 = .ok (.goto (-26), 3) := by decide +kernel
theorem dX2_placesFit_31 : decode cX2_placesFit 31 = .ok (.iconst 1, 1) := by decide +kernel
theorem dX2_placesFit_32 : decode cX2_placesFit 32 = .ok (.ireturn, 1) := by decide +kernel
theorem dX2_tagFits_0 : decode cX2_tagFits 0 = .ok (.aload_n 0, 1) := by decide +kernel
theorem dX2_tagFits_1 : decode cX2_tagFits 1 = .ok (.iload_n 1, 1) := by decide +kernel
theorem dX2_tagFits_2 : decode cX2_tagFits 2 = .ok (.invokevirtual 57, 3) := by decide +kernel
theorem dX2_tagFits_5 : decode cX2_tagFits 5 = .ok (.istore_n 2, 1) := by decide +kernel
theorem dX2_tagFits_6 : decode cX2_tagFits 6 = .ok (.aload_n 0, 1) := by decide +kernel
theorem dX2_tagFits_7 : decode cX2_tagFits 7 = .ok (.iload_n 1, 1) := by decide +kernel
theorem dX2_tagFits_8 : decode cX2_tagFits 8 = .ok (.invokevirtual 60, 3) := by decide +kernel
theorem dX2_tagFits_11 : decode cX2_tagFits 11 = .ok (.tableswitch 79 1 3 #[25, 41, 63], 25) := by decide +kernel
theorem dX2_tagFits_36 : decode cX2_tagFits 36 = .ok (.iload_n 2, 1) := by decide +kernel
theorem dX2_tagFits_37 : decode cX2_tagFits 37 = .ok (.aload_n 0, 1) := by decide +kernel
theorem dX2_tagFits_38 : decode cX2_tagFits 38 = .ok (.bipush 6, 2) := by decide +kernel
theorem dX2_tagFits_40 : decode cX2_tagFits 40 = .ok (.invokevirtual 54, 3) := by decide +kernel
theorem dX2_tagFits_43 : decode cX2_tagFits 43 = .ok (.if_icmp .ge 7, 3) := by decide +kernel
theorem dX2_tagFits_46 : decode cX2_tagFits 46 = .ok (.iconst 1, 1) := by decide +kernel
theorem dX2_tagFits_47 : decode cX2_tagFits 47 = .ok (.goto 4, 3) := by decide +kernel
theorem dX2_tagFits_50 : decode cX2_tagFits 50 = .ok (.iconst 0, 1) := by decide +kernel
theorem dX2_tagFits_51 : decode cX2_tagFits 51 = .ok (.ireturn, 1) := by decide +kernel
theorem dX2_tagFits_52 : decode cX2_tagFits 52 = .ok (.aload_n 0, 1) := by decide +kernel
theorem dX2_tagFits_53 : decode cX2_tagFits 53 = .ok (.iload_n 2, 1) := by decide +kernel
theorem dX2_tagFits_54 : decode cX2_tagFits 54 = .ok (.invokevirtual 39, 3) := by decide +kernel
theorem dX2_tagFits_57 : decode cX2_tagFits 57 = .ok (.ifCond .eq 15, 3) := by decide +kernel
theorem dX2_tagFits_60 : decode cX2_tagFits 60 = .ok (.aload_n 0, 1) := by decide +kernel
theorem dX2_tagFits_61 : decode cX2_tagFits 61 = .ok (.iload_n 1, 1) := by decide +kernel
theorem dX2_tagFits_62 : decode cX2_tagFits 62 = .ok (.invokestatic 63, 3) := by decide +kernel
theorem dX2_tagFits_65 : decode cX2_tagFits 65 = .ok (.ifCond .eq 7, 3) := by decide +kernel
theorem dX2_tagFits_68 : decode cX2_tagFits 68 = .ok (.iconst 1, 1) := by decide +kernel
theorem dX2_tagFits_69 : decode cX2_tagFits 69 = .ok (.goto 4, 3) := by decide +kernel
theorem dX2_tagFits_72 : decode cX2_tagFits 72 = .ok (.iconst 0, 1) := by decide +kernel
theorem dX2_tagFits_73 : decode cX2_tagFits 73 = .ok (.ireturn, 1) := by decide +kernel
theorem dX2_tagFits_74 : decode cX2_tagFits 74 = .ok (.iload_n 2, 1) := by decide +kernel
theorem dX2_tagFits_75 : decode cX2_tagFits 75 = .ok (.aload_n 0, 1) := by decide +kernel
theorem dX2_tagFits_76 : decode cX2_tagFits 76 = .ok (.bipush 8, 2) := by decide +kernel
theorem dX2_tagFits_78 : decode cX2_tagFits 78 = .ok (.invokevirtual 54, 3) := by decide +kernel
theorem dX2_tagFits_81 : decode cX2_tagFits 81 = .ok (.if_icmp .ge 7, 3) := by decide +kernel
theorem dX2_tagFits_84 : decode cX2_tagFits 84 = .ok (.iconst 1, 1) := by decide +kernel
theorem dX2_tagFits_85 : decode cX2_tagFits 85 = .ok (.goto 4, 3) := by decide +kernel
theorem dX2_tagFits_88 : decode cX2_tagFits 88 = .ok (.iconst 0, 1) := by decide +kernel
theorem dX2_tagFits_89 : decode cX2_tagFits 89 = .ok (.ireturn, 1) := by decide +kernel
theorem dX2_tagFits_90 : decode cX2_tagFits 90 = .ok (.iconst 1, 1) := by decide +kernel
theorem dX2_tagFits_91 : decode cX2_tagFits 91 = .ok (.ireturn, 1) := by decide +kernel
theorem dX2_chainEnds_0 : decode cX2_chainEnds 0 = .ok (.iload_n 1, 1) := by decide +kernel
theorem dX2_chainEnds_1 : decode cX2_chainEnds 1 = .ok (.istore_n 2, 1) := by decide +kernel
theorem dX2_chainEnds_2 : decode cX2_chainEnds 2 = .ok (.iconst 0, 1) := by decide +kernel
theorem dX2_chainEnds_3 : decode cX2_chainEnds 3 = .ok (.istore_n 3, 1) := by decide +kernel
theorem dX2_chainEnds_4 : decode cX2_chainEnds 4 = .ok (.iload_n 3, 1) := by decide +kernel
theorem dX2_chainEnds_5 : decode cX2_chainEnds 5 = .ok (.sipush 256, 3) := by decide +kernel
theorem dX2_chainEnds_8 : decode cX2_chainEnds 8 = .ok (.if_icmp .ge 33, 3) := by decide +kernel
theorem dX2_chainEnds_11 : decode cX2_chainEnds 11 = .ok (.aload_n 0, 1) := by decide +kernel
theorem dX2_chainEnds_12 : decode cX2_chainEnds 12 = .ok (.iload_n 2, 1) := by decide +kernel
theorem dX2_chainEnds_13 : decode cX2_chainEnds 13 = .ok (.invokevirtual 60, 3) := by decide +kernel
theorem dX2_chainEnds_16 : decode cX2_chainEnds 16 = .ok (.iconst 2, 1) := by decide +kernel
theorem dX2_chainEnds_17 : decode cX2_chainEnds 17 = .ok (.if_icmp .eq 5, 3) := by decide +kernel
theorem dX2_chainEnds_20 : decode cX2_chainEnds 20 = .ok (.iconst 1, 1) := by decide +kernel
theorem dX2_chainEnds_21 : decode cX2_chainEnds 21 = .ok (.ireturn, 1) := by decide +kernel
theorem dX2_chainEnds_22 : decode cX2_chainEnds 22 = .ok (.aload_n 0, 1) := by decide +kernel
theorem dX2_chainEnds_23 : decode cX2_chainEnds 23 = .ok (.iload_n 2, 1) := by decide +kernel
theorem dX2_chainEnds_24 : decode cX2_chainEnds 24 = .ok (.invokevirtual 57, 3) := by decide +kernel
theorem dX2_chainEnds_27 : decode cX2_chainEnds 27 = .ok (.istore_n 2, 1) := by decide +kernel
theorem dX2_chainEnds_28 : decode cX2_chainEnds 28 = .ok (.iload_n 2, 1) := by decide +kernel
theorem dX2_chainEnds_29 : decode cX2_chainEnds 29 = .ok (.iload_n 1, 1) := by decide +kernel
theorem dX2_chainEnds_30 : decode cX2_chainEnds 30 = .ok (.if_icmp .ne 5, 3) := by decide +kernel
theorem dX2_chainEnds_33 : decode cX2_chainEnds 33 = .ok (.iconst 0, 1) := by decide +kernel
theorem dX2_chainEnds_34 : decode cX2_chainEnds 34 = .ok (.ireturn, 1) := by decide +kernel
theorem dX2_chainEnds_35 : decode cX2_chainEnds 35 = .ok (.iinc 3 1, 3) := by decide +kernel
theorem dX2_chainEnds_38 : decode cX2_chainEnds 38 = .ok (.goto (-34), 3) := by decide +kernel
theorem dX2_chainEnds_41 : decode cX2_chainEnds 41 = .ok (.iconst 0, 1) := by decide +kernel
theorem dX2_chainEnds_42 : decode cX2_chainEnds 42 = .ok (.ireturn, 1) := by decide +kernel
theorem dX2_fractionsFit_0 : decode cX2_fractionsFit 0 = .ok (.iconst 2, 1) := by decide +kernel
theorem dX2_fractionsFit_1 : decode cX2_fractionsFit 1 = .ok (.istore_n 1, 1) := by decide +kernel
theorem dX2_fractionsFit_2 : decode cX2_fractionsFit 2 = .ok (.iload_n 1, 1) := by decide +kernel
theorem dX2_fractionsFit_3 : decode cX2_fractionsFit 3 = .ok (.iconst 5, 1) := by decide +kernel
theorem dX2_fractionsFit_4 : decode cX2_fractionsFit 4 = .ok (.if_icmp .gt 29, 3) := by decide +kernel
theorem dX2_fractionsFit_7 : decode cX2_fractionsFit 7 = .ok (.aload_n 0, 1) := by decide +kernel
end
section
theorem dX2_fractionsFit_8 : decode cX2_fractionsFit 8 = .ok (.iload_n 1, 1) := by decide +kernel
theorem dX2_fractionsFit_9 : decode cX2_fractionsFit 9 = .ok (.iconst 0, 1) := by decide +kernel
theorem dX2_fractionsFit_10 : decode cX2_fractionsFit 10 = .ok (.invokevirtual 66, 3) := by decide +kernel
theorem dX2_fractionsFit_13 : decode cX2_fractionsFit 13 = .ok (.ifCond .ne 12, 3) := by decide +kernel
theorem dX2_fractionsFit_16 : decode cX2_fractionsFit 16 = .ok (.aload_n 0, 1) := by decide +kernel
theorem dX2_fractionsFit_17 : decode cX2_fractionsFit 17 = .ok (.iload_n 1, 1) := by decide +kernel
theorem dX2_fractionsFit_18 : decode cX2_fractionsFit 18 = .ok (.iconst 1, 1) := by decide +kernel
theorem dX2_fractionsFit_19 : decode cX2_fractionsFit 19 = .ok (.invokestatic 69, 3) := by decide +kernel
theorem dX2_fractionsFit_22 : decode cX2_fractionsFit 22 = .ok (.ifCond .ne 5, 3) := by decide +kernel
theorem dX2_fractionsFit_25 : decode cX2_fractionsFit 25 = .ok (.iconst 0, 1) := by decide +kernel
theorem dX2_fractionsFit_26 : decode cX2_fractionsFit 26 = .ok (.ireturn, 1) := by decide +kernel
theorem dX2_fractionsFit_27 : decode cX2_fractionsFit 27 = .ok (.iinc 1 1, 3) := by decide +kernel
theorem dX2_fractionsFit_30 : decode cX2_fractionsFit 30 = .ok (.goto (-28), 3) := by decide +kernel
theorem dX2_fractionsFit_33 : decode cX2_fractionsFit 33 = .ok (.aload_n 0, 1) := by decide +kernel
theorem dX2_fractionsFit_34 : decode cX2_fractionsFit 34 = .ok (.bipush 7, 2) := by decide +kernel
theorem dX2_fractionsFit_36 : decode cX2_fractionsFit 36 = .ok (.iconst 0, 1) := by decide +kernel
theorem dX2_fractionsFit_37 : decode cX2_fractionsFit 37 = .ok (.invokestatic 69, 3) := by decide +kernel
theorem dX2_fractionsFit_40 : decode cX2_fractionsFit 40 = .ok (.ifCond .eq 17, 3) := by decide +kernel
theorem dX2_fractionsFit_43 : decode cX2_fractionsFit 43 = .ok (.aload_n 0, 1) := by decide +kernel
theorem dX2_fractionsFit_44 : decode cX2_fractionsFit 44 = .ok (.bipush 9, 2) := by decide +kernel
theorem dX2_fractionsFit_46 : decode cX2_fractionsFit 46 = .ok (.iconst 1, 1) := by decide +kernel
theorem dX2_fractionsFit_47 : decode cX2_fractionsFit 47 = .ok (.invokestatic 69, 3) := by decide +kernel
theorem dX2_fractionsFit_50 : decode cX2_fractionsFit 50 = .ok (.ifCond .eq 7, 3) := by decide +kernel
theorem dX2_fractionsFit_53 : decode cX2_fractionsFit 53 = .ok (.iconst 1, 1) := by decide +kernel
theorem dX2_fractionsFit_54 : decode cX2_fractionsFit 54 = .ok (.goto 4, 3) := by decide +kernel
theorem dX2_fractionsFit_57 : decode cX2_fractionsFit 57 = .ok (.iconst 0, 1) := by decide +kernel
theorem dX2_fractionsFit_58 : decode cX2_fractionsFit 58 = .ok (.ireturn, 1) := by decide +kernel
theorem dX2_areFractions_0 : decode cX2_areFractions 0 = .ok (.iload_n 2, 1) := by decide +kernel
theorem dX2_areFractions_1 : decode cX2_areFractions 1 = .ok (.istore_n 3, 1) := by decide +kernel
theorem dX2_areFractions_2 : decode cX2_areFractions 2 = .ok (.iload_n 3, 1) := by decide +kernel
theorem dX2_areFractions_3 : decode cX2_areFractions 3 = .ok (.aload_n 0, 1) := by decide +kernel
theorem dX2_areFractions_4 : decode cX2_areFractions 4 = .ok (.iload_n 1, 1) := by decide +kernel
theorem dX2_areFractions_5 : decode cX2_areFractions 5 = .ok (.invokevirtual 54, 3) := by decide +kernel
theorem dX2_areFractions_8 : decode cX2_areFractions 8 = .ok (.if_icmp .ge 33, 3) := by decide +kernel
theorem dX2_areFractions_11 : decode cX2_areFractions 11 = .ok (.aload_n 0, 1) := by decide +kernel
theorem dX2_areFractions_12 : decode cX2_areFractions 12 = .ok (.iload_n 1, 1) := by decide +kernel
theorem dX2_areFractions_13 : decode cX2_areFractions 13 = .ok (.iload_n 3, 1) := by decide +kernel
theorem dX2_areFractions_14 : decode cX2_areFractions 14 = .ok (.invokevirtual 66, 3) := by decide +kernel
theorem dX2_areFractions_17 : decode cX2_areFractions 17 = .ok (.istore 4, 2) := by decide +kernel
theorem dX2_areFractions_19 : decode cX2_areFractions 19 = .ok (.iload 4, 2) := by decide +kernel
theorem dX2_areFractions_21 : decode cX2_areFractions 21 = .ok (.ldc 73, 2) := by decide +kernel
theorem dX2_areFractions_23 : decode cX2_areFractions 23 = .ok (.if_icmp .lt 10, 3) := by decide +kernel
theorem dX2_areFractions_26 : decode cX2_areFractions 26 = .ok (.iload 4, 2) := by decide +kernel
theorem dX2_areFractions_28 : decode cX2_areFractions 28 = .ok (.ldc 74, 2) := by decide +kernel
theorem dX2_areFractions_30 : decode cX2_areFractions 30 = .ok (.if_icmp .lt 5, 3) := by decide +kernel
theorem dX2_areFractions_33 : decode cX2_areFractions 33 = .ok (.iconst 0, 1) := by decide +kernel
theorem dX2_areFractions_34 : decode cX2_areFractions 34 = .ok (.ireturn, 1) := by decide +kernel
theorem dX2_areFractions_35 : decode cX2_areFractions 35 = .ok (.iinc 3 1, 3) := by decide +kernel
theorem dX2_areFractions_38 : decode cX2_areFractions 38 = .ok (.goto (-36), 3) := by decide +kernel
theorem dX2_areFractions_41 : decode cX2_areFractions 41 = .ok (.iconst 1, 1) := by decide +kernel
theorem dX2_areFractions_42 : decode cX2_areFractions 42 = .ok (.ireturn, 1) := by decide +kernel
theorem dX2_stepsFit_0 : decode cX2_stepsFit 0 = .ok (.iconst 0, 1) := by decide +kernel
theorem dX2_stepsFit_1 : decode cX2_stepsFit 1 = .ok (.istore_n 1, 1) := by decide +kernel
theorem dX2_stepsFit_2 : decode cX2_stepsFit 2 = .ok (.iload_n 1, 1) := by decide +kernel
theorem dX2_stepsFit_3 : decode cX2_stepsFit 3 = .ok (.aload_n 0, 1) := by decide +kernel
theorem dX2_stepsFit_4 : decode cX2_stepsFit 4 = .ok (.bipush 6, 2) := by decide +kernel
theorem dX2_stepsFit_6 : decode cX2_stepsFit 6 = .ok (.invokevirtual 54, 3) := by decide +kernel
theorem dX2_stepsFit_9 : decode cX2_stepsFit 9 = .ok (.if_icmp .ge 38, 3) := by decide +kernel
theorem dX2_stepsFit_12 : decode cX2_stepsFit 12 = .ok (.aload_n 0, 1) := by decide +kernel
theorem dX2_stepsFit_13 : decode cX2_stepsFit 13 = .ok (.iload_n 1, 1) := by decide +kernel
theorem dX2_stepsFit_14 : decode cX2_stepsFit 14 = .ok (.invokevirtual 75, 3) := by decide +kernel
theorem dX2_stepsFit_17 : decode cX2_stepsFit 17 = .ok (.ifCond .eq 14, 3) := by decide +kernel
theorem dX2_stepsFit_20 : decode cX2_stepsFit 20 = .ok (.aload_n 0, 1) := by decide +kernel
theorem dX2_stepsFit_21 : decode cX2_stepsFit 21 = .ok (.iload_n 1, 1) := by decide +kernel
theorem dX2_stepsFit_22 : decode cX2_stepsFit 22 = .ok (.invokestatic 78, 3) := by decide +kernel
theorem dX2_stepsFit_25 : decode cX2_stepsFit 25 = .ok (.ifCond .eq 14, 3) := by decide +kernel
theorem dX2_stepsFit_28 : decode cX2_stepsFit 28 = .ok (.goto 13, 3) := by decide +kernel
theorem dX2_stepsFit_31 : decode cX2_stepsFit 31 = .ok (.aload_n 0, 1) := by decide +kernel
theorem dX2_stepsFit_32 : decode cX2_stepsFit 32 = .ok (.iload_n 1, 1) := by decide +kernel
theorem dX2_stepsFit_33 : decode cX2_stepsFit 33 = .ok (.invokestatic 81, 3) := by decide +kernel
theorem dX2_stepsFit_36 : decode cX2_stepsFit 36 = .ok (.ifCond .ne 5, 3) := by decide +kernel
theorem dX2_stepsFit_39 : decode cX2_stepsFit 39 = .ok (.iconst 0, 1) := by decide +kernel
theorem dX2_stepsFit_40 : decode cX2_stepsFit 40 = .ok (.ireturn, 1) := by decide +kernel
theorem dX2_stepsFit_41 : decode cX2_stepsFit 41 = .ok (.iinc 1 1, 3) := by decide +kernel
theorem dX2_stepsFit_44 : decode cX2_stepsFit 44 = .ok (.goto (-42), 3) := by decide +kernel
theorem dX2_stepsFit_47 : decode cX2_stepsFit 47 = .ok (.iconst 1, 1) := by decide +kernel
theorem dX2_stepsFit_48 : decode cX2_stepsFit 48 = .ok (.ireturn, 1) := by decide +kernel
theorem dX2_jumpFits_0 : decode cX2_jumpFits 0 = .ok (.aload_n 0, 1) := by decide +kernel
theorem dX2_jumpFits_1 : decode cX2_jumpFits 1 = .ok (.iload_n 1, 1) := by decide +kernel
theorem dX2_jumpFits_2 : decode cX2_jumpFits 2 = .ok (.invokevirtual 84, 3) := by decide +kernel
theorem dX2_jumpFits_5 : decode cX2_jumpFits 5 = .ok (.aload_n 0, 1) := by decide +kernel
theorem dX2_jumpFits_6 : decode cX2_jumpFits 6 = .ok (.bipush 6, 2) := by decide +kernel
theorem dX2_jumpFits_8 : decode cX2_jumpFits 8 = .ok (.invokevirtual 54, 3) := by decide +kernel
theorem dX2_jumpFits_11 : decode cX2_jumpFits 11 = .ok (.if_icmp .ge 7, 3) := by decide +kernel
theorem dX2_jumpFits_14 : decode cX2_jumpFits 14 = .ok (.iconst 1, 1) := by decide +kernel
theorem dX2_jumpFits_15 : decode cX2_jumpFits 15 = .ok (.goto 4, 3) := by decide +kernel
theorem dX2_jumpFits_18 : decode cX2_jumpFits 18 = .ok (.iconst 0, 1) := by decide +kernel
theorem dX2_jumpFits_19 : decode cX2_jumpFits 19 = .ok (.ireturn, 1) := by decide +kernel
theorem dX2_deedFits_0 : decode cX2_deedFits 0 = .ok (.aload_n 0, 1) := by decide +kernel
theorem dX2_deedFits_1 : decode cX2_deedFits 1 = .ok (.iload_n 1, 1) := by decide +kernel
theorem dX2_deedFits_2 : decode cX2_deedFits 2 = .ok (.invokevirtual 87, 3) := by decide +kernel
theorem dX2_deedFits_5 : decode cX2_deedFits 5 = .ok (.istore_n 2, 1) := by decide +kernel
theorem dX2_deedFits_6 : decode cX2_deedFits 6 = .ok (.aload_n 0, 1) := by decide +kernel
theorem dX2_deedFits_7 : decode cX2_deedFits 7 = .ok (.iload_n 2, 1) := by decide +kernel
theorem dX2_deedFits_8 : decode cX2_deedFits 8 = .ok (.invokevirtual 39, 3) := by decide +kernel
theorem dX2_deedFits_11 : decode cX2_deedFits 11 = .ok (.ifCond .ne 13, 3) := by decide +kernel
theorem dX2_deedFits_14 : decode cX2_deedFits 14 = .ok (.iload_n 2, 1) := by decide +kernel
theorem dX2_deedFits_15 : decode cX2_deedFits 15 = .ok (.aload_n 0, 1) := by decide +kernel
theorem dX2_deedFits_16 : decode cX2_deedFits 16 = .ok (.invokevirtual 90, 3) := by decide +kernel
theorem dX2_deedFits_19 : decode cX2_deedFits 19 = .ok (.if_icmp .eq 5, 3) := by decide +kernel
theorem dX2_deedFits_22 : decode cX2_deedFits 22 = .ok (.iconst 0, 1) := by decide +kernel
theorem dX2_deedFits_23 : decode cX2_deedFits 23 = .ok (.ireturn, 1) := by decide +kernel
theorem dX2_deedFits_24 : decode cX2_deedFits 24 = .ok (.aload_n 0, 1) := by decide +kernel
theorem dX2_deedFits_25 : decode cX2_deedFits 25 = .ok (.iload_n 1, 1) := by decide +kernel
theorem dX2_deedFits_26 : decode cX2_deedFits 26 = .ok (.invokevirtual 93, 3) := by decide +kernel
theorem dX2_deedFits_29 : decode cX2_deedFits 29 = .ok (.aload_n 0, 1) := by decide +kernel
theorem dX2_deedFits_30 : decode cX2_deedFits 30 = .ok (.bipush 6, 2) := by decide +kernel
theorem dX2_deedFits_32 : decode cX2_deedFits 32 = .ok (.invokevirtual 54, 3) := by decide +kernel
theorem dX2_deedFits_35 : decode cX2_deedFits 35 = .ok (.if_icmp .lt 5, 3) := by decide +kernel
theorem dX2_deedFits_38 : decode cX2_deedFits 38 = .ok (.iconst 0, 1) := by decide +kernel
theorem dX2_deedFits_39 : decode cX2_deedFits 39 = .ok (.ireturn, 1) := by decide +kernel
theorem dX2_deedFits_40 : decode cX2_deedFits 40 = .ok (.aload_n 0, 1) := by decide +kernel
theorem dX2_deedFits_41 : decode cX2_deedFits 41 = .ok (.iload_n 1, 1) := by decide +kernel
theorem dX2_deedFits_42 : decode cX2_deedFits 42 = .ok (.invokevirtual 96, 3) := by decide +kernel
theorem dX2_deedFits_45 : decode cX2_deedFits 45 = .ok (.ifCond .eq 23, 3) := by decide +kernel
theorem dX2_deedFits_48 : decode cX2_deedFits 48 = .ok (.aload_n 0, 1) := by decide +kernel
theorem dX2_deedFits_49 : decode cX2_deedFits 49 = .ok (.iload_n 1, 1) := by decide +kernel
theorem dX2_deedFits_50 : decode cX2_deedFits 50 = .ok (.invokevirtual 99, 3) := by decide +kernel
theorem dX2_deedFits_53 : decode cX2_deedFits 53 = .ok (.aload_n 0, 1) := by decide +kernel
theorem dX2_deedFits_54 : decode cX2_deedFits 54 = .ok (.bipush 7, 2) := by decide +kernel
theorem dX2_deedFits_56 : decode cX2_deedFits 56 = .ok (.invokevirtual 54, 3) := by decide +kernel
theorem dX2_deedFits_59 : decode cX2_deedFits 59 = .ok (.if_icmp .ge 7, 3) := by decide +kernel
theorem dX2_deedFits_62 : decode cX2_deedFits 62 = .ok (.iconst 1, 1) := by decide +kernel
theorem dX2_deedFits_63 : decode cX2_deedFits 63 = .ok (.goto 4, 3) := by decide +kernel
theorem dX2_deedFits_66 : decode cX2_deedFits 66 = .ok (.iconst 0, 1) := by decide +kernel
theorem dX2_deedFits_67 : decode cX2_deedFits 67 = .ok (.ireturn, 1) := by decide +kernel
theorem dX2_deedFits_68 : decode cX2_deedFits 68 = .ok (.aload_n 0, 1) := by decide +kernel
theorem dX2_deedFits_69 : decode cX2_deedFits 69 = .ok (.aload_n 0, 1) := by decide +kernel
theorem dX2_deedFits_70 : decode cX2_deedFits 70 = .ok (.iload_n 1, 1) := by decide +kernel
theorem dX2_deedFits_71 : decode cX2_deedFits 71 = .ok (.invokevirtual 102, 3) := by decide +kernel
theorem dX2_deedFits_74 : decode cX2_deedFits 74 = .ok (.invokevirtual 39, 3) := by decide +kernel
theorem dX2_deedFits_77 : decode cX2_deedFits 77 = .ok (.ifCond .eq 18, 3) := by decide +kernel
theorem dX2_deedFits_80 : decode cX2_deedFits 80 = .ok (.aload_n 0, 1) := by decide +kernel
theorem dX2_deedFits_81 : decode cX2_deedFits 81 = .ok (.iload_n 1, 1) := by decide +kernel
theorem dX2_deedFits_82 : decode cX2_deedFits 82 = .ok (.invokevirtual 105, 3) := by decide +kernel
theorem dX2_deedFits_85 : decode cX2_deedFits 85 = .ok (.invokestatic 108, 3) := by decide +kernel
theorem dX2_deedFits_88 : decode cX2_deedFits 88 = .ok (.ifCond .eq 7, 3) := by decide +kernel
theorem dX2_deedFits_91 : decode cX2_deedFits 91 = .ok (.iconst 1, 1) := by decide +kernel
theorem dX2_deedFits_92 : decode cX2_deedFits 92 = .ok (.goto 4, 3) := by decide +kernel
theorem dX2_deedFits_95 : decode cX2_deedFits 95 = .ok (.iconst 0, 1) := by decide +kernel
theorem dX2_deedFits_96 : decode cX2_deedFits 96 = .ok (.ireturn, 1) := by decide +kernel
theorem dX2_isLigature_0 : decode cX2_isLigature 0 = .ok (.iload_n 0, 1) := by decide +kernel
theorem dX2_isLigature_1 : decode cX2_isLigature 1 = .ok (.iconst 3, 1) := by decide +kernel
theorem dX2_isLigature_2 : decode cX2_isLigature 2 = .ok (.if_icmp .le 20, 3) := by decide +kernel
theorem dX2_isLigature_5 : decode cX2_isLigature 5 = .ok (.iload_n 0, 1) := by decide +kernel
theorem dX2_isLigature_6 : decode cX2_isLigature 6 = .ok (.iconst 5, 1) := by decide +kernel
theorem dX2_isLigature_7 : decode cX2_isLigature 7 = .ok (.if_icmp .lt 9, 3) := by decide +kernel
theorem dX2_isLigature_10 : decode cX2_isLigature 10 = .ok (.iload_n 0, 1) := by decide +kernel
theorem dX2_isLigature_11 : decode cX2_isLigature 11 = .ok (.bipush 7, 2) := by decide +kernel
theorem dX2_isLigature_13 : decode cX2_isLigature 13 = .ok (.if_icmp .le 9, 3) := by decide +kernel
theorem dX2_isLigature_16 : decode cX2_isLigature 16 = .ok (.iload_n 0, 1) := by decide +kernel
theorem dX2_isLigature_17 : decode cX2_isLigature 17 = .ok (.bipush 11, 2) := by decide +kernel
theorem dX2_isLigature_19 : decode cX2_isLigature 19 = .ok (.if_icmp .ne 7, 3) := by decide +kernel
theorem dX2_isLigature_22 : decode cX2_isLigature 22 = .ok (.iconst 1, 1) := by decide +kernel
theorem dX2_isLigature_23 : decode cX2_isLigature 23 = .ok (.goto 4, 3) := by decide +kernel
theorem dX2_isLigature_26 : decode cX2_isLigature 26 = .ok (.iconst 0, 1) := by decide +kernel
theorem dX2_isLigature_27 : decode cX2_isLigature 27 = .ok (.ireturn, 1) := by decide +kernel
theorem dX2_piecesFit_0 : decode cX2_piecesFit 0 = .ok (.iconst 0, 1) := by decide +kernel
theorem dX2_piecesFit_1 : decode cX2_piecesFit 1 = .ok (.istore_n 1, 1) := by decide +kernel
theorem dX2_piecesFit_2 : decode cX2_piecesFit 2 = .ok (.iload_n 1, 1) := by decide +kernel
theorem dX2_piecesFit_3 : decode cX2_piecesFit 3 = .ok (.aload_n 0, 1) := by decide +kernel
theorem dX2_piecesFit_4 : decode cX2_piecesFit 4 = .ok (.bipush 8, 2) := by decide +kernel
theorem dX2_piecesFit_6 : decode cX2_piecesFit 6 = .ok (.invokevirtual 54, 3) := by decide +kernel
theorem dX2_piecesFit_9 : decode cX2_piecesFit 9 = .ok (.if_icmp .ge 72, 3) := by decide +kernel
theorem dX2_piecesFit_12 : decode cX2_piecesFit 12 = .ok (.aload_n 0, 1) := by decide +kernel
theorem dX2_piecesFit_13 : decode cX2_piecesFit 13 = .ok (.bipush 8, 2) := by decide +kernel
theorem dX2_piecesFit_15 : decode cX2_piecesFit 15 = .ok (.iload_n 1, 1) := by decide +kernel
theorem dX2_piecesFit_16 : decode cX2_piecesFit 16 = .ok (.invokevirtual 66, 3) := by decide +kernel
theorem dX2_piecesFit_19 : decode cX2_piecesFit 19 = .ok (.istore_n 2, 1) := by decide +kernel
theorem dX2_piecesFit_20 : decode cX2_piecesFit 20 = .ok (.aload_n 0, 1) := by decide +kernel
theorem dX2_piecesFit_21 : decode cX2_piecesFit 21 = .ok (.iload_n 2, 1) := by decide +kernel
theorem dX2_piecesFit_22 : decode cX2_piecesFit 22 = .ok (.bipush 24, 2) := by decide +kernel
theorem dX2_piecesFit_24 : decode cX2_piecesFit 24 = .ok (.iushr, 1) := by decide +kernel
theorem dX2_piecesFit_25 : decode cX2_piecesFit 25 = .ok (.invokestatic 111, 3) := by decide +kernel
theorem dX2_piecesFit_28 : decode cX2_piecesFit 28 = .ok (.ifCond .eq 45, 3) := by decide +kernel
theorem dX2_piecesFit_31 : decode cX2_piecesFit 31 = .ok (.aload_n 0, 1) := by decide +kernel
theorem dX2_piecesFit_32 : decode cX2_piecesFit 32 = .ok (.iload_n 2, 1) := by decide +kernel
theorem dX2_piecesFit_33 : decode cX2_piecesFit 33 = .ok (.bipush 16, 2) := by decide +kernel
theorem dX2_piecesFit_35 : decode cX2_piecesFit 35 = .ok (.iushr, 1) := by decide +kernel
theorem dX2_piecesFit_36 : decode cX2_piecesFit 36 = .ok (.sipush 255, 3) := by decide +kernel
theorem dX2_piecesFit_39 : decode cX2_piecesFit 39 = .ok (.iand, 1) := by decide +kernel
theorem dX2_piecesFit_40 : decode cX2_piecesFit 40 = .ok (.invokestatic 111, 3) := by decide +kernel
theorem dX2_piecesFit_43 : decode cX2_piecesFit 43 = .ok (.ifCond .eq 30, 3) := by decide +kernel
theorem dX2_piecesFit_46 : decode cX2_piecesFit 46 = .ok (.aload_n 0, 1) := by decide +kernel
theorem dX2_piecesFit_47 : decode cX2_piecesFit 47 = .ok (.iload_n 2, 1) := by decide +kernel
theorem dX2_piecesFit_48 : decode cX2_piecesFit 48 = .ok (.bipush 8, 2) := by decide +kernel
theorem dX2_piecesFit_50 : decode cX2_piecesFit 50 = .ok (.iushr, 1) := by decide +kernel
theorem dX2_piecesFit_51 : decode cX2_piecesFit 51 = .ok (.sipush 255, 3) := by decide +kernel
theorem dX2_piecesFit_54 : decode cX2_piecesFit 54 = .ok (.iand, 1) := by decide +kernel
theorem dX2_piecesFit_55 : decode cX2_piecesFit 55 = .ok (.invokestatic 111, 3) := by decide +kernel
theorem dX2_piecesFit_58 : decode cX2_piecesFit 58 = .ok (.ifCond .eq 15, 3) := by decide +kernel
theorem dX2_piecesFit_61 : decode cX2_piecesFit 61 = .ok (.aload_n 0, 1) := by decide +kernel
theorem dX2_piecesFit_62 : decode cX2_piecesFit 62 = .ok (.iload_n 2, 1) := by decide +kernel
theorem dX2_piecesFit_63 : decode cX2_piecesFit 63 = .ok (.sipush 255, 3) := by decide +kernel
theorem dX2_piecesFit_66 : decode cX2_piecesFit 66 = .ok (.iand, 1) := by decide +kernel
theorem dX2_piecesFit_67 : decode cX2_piecesFit 67 = .ok (.invokevirtual 39, 3) := by decide +kernel
theorem dX2_piecesFit_70 : decode cX2_piecesFit 70 = .ok (.ifCond .ne 5, 3) := by decide +kernel
theorem dX2_piecesFit_73 : decode cX2_piecesFit 73 = .ok (.iconst 0, 1) := by decide +kernel
theorem dX2_piecesFit_74 : decode cX2_piecesFit 74 = .ok (.ireturn, 1) := by decide +kernel
theorem dX2_piecesFit_75 : decode cX2_piecesFit 75 = .ok (.iinc 1 1, 3) := by decide +kernel
theorem dX2_piecesFit_78 : decode cX2_piecesFit 78 = .ok (.goto (-76), 3) := by decide +kernel
theorem dX2_piecesFit_81 : decode cX2_piecesFit 81 = .ok (.iconst 1, 1) := by decide +kernel
theorem dX2_piecesFit_82 : decode cX2_piecesFit 82 = .ok (.ireturn, 1) := by decide +kernel
theorem dX2_partFits_0 : decode cX2_partFits 0 = .ok (.iload_n 1, 1) := by decide +kernel
theorem dX2_partFits_1 : decode cX2_partFits 1 = .ok (.ifCond .eq 11, 3) := by decide +kernel
theorem dX2_partFits_4 : decode cX2_partFits 4 = .ok (.aload_n 0, 1) := by decide +kernel
theorem dX2_partFits_5 : decode cX2_partFits 5 = .ok (.iload_n 1, 1) := by decide +kernel
theorem dX2_partFits_6 : decode cX2_partFits 6 = .ok (.invokevirtual 39, 3) := by decide +kernel
theorem dX2_partFits_9 : decode cX2_partFits 9 = .ok (.ifCond .eq 7, 3) := by decide +kernel
theorem dX2_partFits_12 : decode cX2_partFits 12 = .ok (.iconst 1, 1) := by decide +kernel
theorem dX2_partFits_13 : decode cX2_partFits 13 = .ok (.goto 4, 3) := by decide +kernel
theorem dX2_partFits_16 : decode cX2_partFits 16 = .ok (.iconst 0, 1) := by decide +kernel
theorem dX2_partFits_17 : decode cX2_partFits 17 = .ok (.ireturn, 1) := by decide +kernel
theorem dX3_init_0 : decode cX3_init 0 = .ok (.aload_n 0, 1) := by decide +kernel
theorem dX3_init_1 : decode cX3_init 1 = .ok (.invokespecial 3, 3) := by decide +kernel
theorem dX3_init_4 : decode cX3_init 4 = .ok (.aload_n 0, 1) := by decide +kernel
theorem dX3_init_5 : decode cX3_init 5 = .ok (.bipush 10, 2) := by decide +kernel
theorem dX3_init_7 : decode cX3_init 7 = .ok (.newarray .int, 2) := by decide +kernel
theorem dX3_init_9 : decode cX3_init 9 = .ok (.putfield 11, 3) := by decide +kernel
theorem dX3_init_12 : decode cX3_init 12 = .ok (.aload_n 0, 1) := by decide +kernel
theorem dX3_init_13 : decode cX3_init 13 = .ok (.bipush 10, 2) := by decide +kernel
theorem dX3_init_15 : decode cX3_init 15 = .ok (.newarray .int, 2) := by decide +kernel
theorem dX3_init_17 : decode cX3_init 17 = .ok (.putfield 15, 3) := by decide +kernel
theorem dX3_init_20 : decode cX3_init 20 = .ok (.aload_n 0, 1) := by decide +kernel
theorem dX3_init_21 : decode cX3_init 21 = .ok (.sipush 256, 3) := by decide +kernel
theorem dX3_init_24 : decode cX3_init 24 = .ok (.newarray .int, 2) := by decide +kernel
theorem dX3_init_26 : decode cX3_init 26 = .ok (.putfield 18, 3) := by decide +kernel
theorem dX3_init_29 : decode cX3_init 29 = .ok (.aload_n 0, 1) := by decide +kernel
theorem dX3_init_30 : decode cX3_init 30 = .ok (.iconst 0, 1) := by decide +kernel
theorem dX3_init_31 : decode cX3_init 31 = .ok (.putfield 21, 3) := by decide +kernel
theorem dX3_init_34 : decode cX3_init 34 = .ok (.aload_n 0, 1) := by decide +kernel
theorem dX3_init_35 : decode cX3_init 35 = .ok (.aload_n 1, 1) := by decide +kernel
theorem dX3_init_36 : decode cX3_init 36 = .ok (.invokevirtual 25, 3) := by decide +kernel
theorem dX3_init_39 : decode cX3_init 39 = .ok (.iconst 4, 1) := by decide +kernel
theorem dX3_init_40 : decode cX3_init 40 = .ok (.idiv, 1) := by decide +kernel
theorem dX3_init_41 : decode cX3_init 41 = .ok (.newarray .int, 2) := by decide +kernel
theorem dX3_init_43 : decode cX3_init 43 = .ok (.putfield 30, 3) := by decide +kernel
theorem dX3_init_46 : decode cX3_init 46 = .ok (.iconst 0, 1) := by decide +kernel
theorem dX3_init_47 : decode cX3_init 47 = .ok (.istore_n 2, 1) := by decide +kernel
theorem dX3_init_48 : decode cX3_init 48 = .ok (.iload_n 2, 1) := by decide +kernel
theorem dX3_init_49 : decode cX3_init 49 = .ok (.aload_n 0, 1) := by decide +kernel
theorem dX3_init_50 : decode cX3_init 50 = .ok (.getfield 30, 3) := by decide +kernel
theorem dX3_init_53 : decode cX3_init 53 = .ok (.arraylength, 1) := by decide +kernel
theorem dX3_init_54 : decode cX3_init 54 = .ok (.if_icmp .ge 20, 3) := by decide +kernel
theorem dX3_init_57 : decode cX3_init 57 = .ok (.aload_n 0, 1) := by decide +kernel
theorem dX3_init_58 : decode cX3_init 58 = .ok (.getfield 30, 3) := by decide +kernel
theorem dX3_init_61 : decode cX3_init 61 = .ok (.iload_n 2, 1) := by decide +kernel
theorem dX3_init_62 : decode cX3_init 62 = .ok (.aload_n 1, 1) := by decide +kernel
theorem dX3_init_63 : decode cX3_init 63 = .ok (.iload_n 2, 1) := by decide +kernel
theorem dX3_init_64 : decode cX3_init 64 = .ok (.invokevirtual 33, 3) := by decide +kernel
theorem dX3_init_67 : decode cX3_init 67 = .ok (.iastore, 1) := by decide +kernel
theorem dX3_init_68 : decode cX3_init 68 = .ok (.iinc 2 1, 3) := by decide +kernel
theorem dX3_init_71 : decode cX3_init 71 = .ok (.goto (-23), 3) := by decide +kernel
theorem dX3_init_74 : decode cX3_init 74 = .ok (.aload_n 1, 1) := by decide +kernel
theorem dX3_init_75 : decode cX3_init 75 = .ok (.iconst 2, 1) := by decide +kernel
theorem dX3_init_76 : decode cX3_init 76 = .ok (.invokevirtual 37, 3) := by decide +kernel
theorem dX3_init_79 : decode cX3_init 79 = .ok (.istore_n 2, 1) := by decide +kernel
theorem dX3_init_80 : decode cX3_init 80 = .ok (.aload_n 0, 1) := by decide +kernel
theorem dX3_init_81 : decode cX3_init 81 = .ok (.getfield 15, 3) := by decide +kernel
theorem dX3_init_84 : decode cX3_init 84 = .ok (.iconst 0, 1) := by decide +kernel
theorem dX3_init_85 : decode cX3_init 85 = .ok (.aload_n 1, 1) := by decide +kernel
theorem dX3_init_86 : decode cX3_init 86 = .ok (.iconst 1, 1) := by decide +kernel
theorem dX3_init_87 : decode cX3_init 87 = .ok (.invokevirtual 37, 3) := by decide +kernel
theorem dX3_init_90 : decode cX3_init 90 = .ok (.iastore, 1) := by decide +kernel
theorem dX3_init_91 : decode cX3_init 91 = .ok (.aload_n 0, 1) := by decide +kernel
theorem dX3_init_92 : decode cX3_init 92 = .ok (.getfield 15, 3) := by decide +kernel
theorem dX3_init_95 : decode cX3_init 95 = .ok (.iconst 1, 1) := by decide +kernel
theorem dX3_init_96 : decode cX3_init 96 = .ok (.aload_n 1, 1) := by decide +kernel
theorem dX3_init_97 : decode cX3_init 97 = .ok (.iconst 3, 1) := by decide +kernel
theorem dX3_init_98 : decode cX3_init 98 = .ok (.invokevirtual 37, 3) := by decide +kernel
theorem dX3_init_101 : decode cX3_init 101 = .ok (.iload_n 2, 1) := by decide +kernel
theorem dX3_init_102 : decode cX3_init 102 = .ok (.isub, 1) := by decide +kernel
theorem dX3_init_103 : decode cX3_init 103 = .ok (.iconst 1, 1) := by decide +kernel
theorem dX3_init_104 : decode cX3_init 104 = .ok (.iadd, 1) := by decide +kernel
theorem dX3_init_105 : decode cX3_init 105 = .ok (.iastore, 1) := by decide +kernel
theorem dX3_init_106 : decode cX3_init 106 = .ok (.iconst 2, 1) := by decide +kernel
theorem dX3_init_107 : decode cX3_init 107 = .ok (.istore_n 3, 1) := by decide +kernel
theorem dX3_init_108 : decode cX3_init 108 = .ok (.iload_n 3, 1) := by decide +kernel
theorem dX3_init_109 : decode cX3_init 109 = .ok (.bipush 10, 2) := by decide +kernel
theorem dX3_init_111 : decode cX3_init 111 = .ok (.if_icmp .ge 22, 3) := by decide +kernel
theorem dX3_init_114 : decode cX3_init 114 = .ok (.aload_n 0, 1) := by decide +kernel
theorem dX3_init_115 : decode cX3_init 115 = .ok (.getfield 15, 3) := by decide +kernel
theorem dX3_init_118 : decode cX3_init 118 = .ok (.iload_n 3, 1) := by decide +kernel
theorem dX3_init_119 : decode cX3_init 119 = .ok (.aload_n 1, 1) := by decide +kernel
theorem dX3_init_120 : decode cX3_init 120 = .ok (.iload_n 3, 1) := by decide +kernel
theorem dX3_init_121 : decode cX3_init 121 = .ok (.iconst 2, 1) := by decide +kernel
theorem dX3_init_122 : decode cX3_init 122 = .ok (.iadd, 1) := by decide +kernel
theorem dX3_init_123 : decode cX3_init 123 = .ok (.invokevirtual 37, 3) := by decide +kernel
theorem dX3_init_126 : decode cX3_init 126 = .ok (.iastore, 1) := by decide +kernel
theorem dX3_init_127 : decode cX3_init 127 = .ok (.iinc 3 1, 3) := by decide +kernel
theorem dX3_init_130 : decode cX3_init 130 = .ok (.goto (-22), 3) := by decide +kernel
theorem dX3_init_133 : decode cX3_init 133 = .ok (.bipush 6, 2) := by decide +kernel
theorem dX3_init_135 : decode cX3_init 135 = .ok (.istore_n 3, 1) := by decide +kernel
theorem dX3_init_136 : decode cX3_init 136 = .ok (.iconst 0, 1) := by decide +kernel
theorem dX3_init_137 : decode cX3_init 137 = .ok (.istore 4, 2) := by decide +kernel
theorem dX3_init_139 : decode cX3_init 139 = .ok (.iload 4, 2) := by decide +kernel
theorem dX3_init_141 : decode cX3_init 141 = .ok (.bipush 10, 2) := by decide +kernel
theorem dX3_init_143 : decode cX3_init 143 = .ok (.if_icmp .ge 27, 3) := by decide +kernel
theorem dX3_init_146 : decode cX3_init 146 = .ok (.aload_n 0, 1) := by decide +kernel
theorem dX3_init_147 : decode cX3_init 147 = .ok (.getfield 11, 3) := by decide +kernel
theorem dX3_init_150 : decode cX3_init 150 = .ok (.iload 4, 2) := by decide +kernel
theorem dX3_init_152 : decode cX3_init 152 = .ok (.iload_n 3, 1) := by decide +kernel
theorem dX3_init_153 : decode cX3_init 153 = .ok (.iastore, 1) := by decide +kernel
theorem dX3_init_154 : decode cX3_init 154 = .ok (.iload_n 3, 1) := by decide +kernel
theorem dX3_init_155 : decode cX3_init 155 = .ok (.aload_n 0, 1) := by decide +kernel
theorem dX3_init_156 : decode cX3_init 156 = .ok (.getfield 15, 3) := by decide +kernel
theorem dX3_init_159 : decode cX3_init 159 = .ok (.iload 4, 2) := by decide +kernel
theorem dX3_init_161 : decode cX3_init 161 = .ok (.iaload, 1) := by decide +kernel
theorem dX3_init_162 : decode cX3_init 162 = .ok (.iadd, 1) := by decide +kernel
theorem dX3_init_163 : decode cX3_init 163 = .ok (.istore_n 3, 1) := by decide +kernel
theorem dX3_init_164 : decode cX3_init 164 = .ok (.iinc 4 1, 3) := by decide +kernel
theorem dX3_init_167 : decode cX3_init 167 = .ok (.goto (-28), 3) := by decide +kernel
theorem dX3_init_170 : decode cX3_init 170 = .ok (.iconst 0, 1) := by decide +kernel
theorem dX3_init_171 : decode cX3_init 171 = .ok (.istore 4, 2) := by decide +kernel
theorem dX3_init_173 : decode cX3_init 173 = .ok (.iload 4, 2) := by decide +kernel
theorem dX3_init_175 : decode cX3_init 175 = .ok (.sipush 256, 3) := by decide +kernel
theorem dX3_init_178 : decode cX3_init 178 = .ok (.if_icmp .ge 41, 3) := by decide +kernel
theorem dX3_init_181 : decode cX3_init 181 = .ok (.aload_n 0, 1) := by decide +kernel
theorem dX3_init_182 : decode cX3_init 182 = .ok (.iconst 1, 1) := by decide +kernel
theorem dX3_init_183 : decode cX3_init 183 = .ok (.iload 4, 2) := by decide +kernel
theorem dX3_init_185 : decode cX3_init 185 = .ok (.iload_n 2, 1) := by decide +kernel
theorem dX3_init_186 : decode cX3_init 186 = .ok (.isub, 1) := by decide +kernel
theorem dX3_init_187 : decode cX3_init 187 = .ok (.invokevirtual 40, 3) := by decide +kernel
theorem dX3_init_190 : decode cX3_init 190 = .ok (.istore 5, 2) := by decide +kernel
theorem dX3_init_192 : decode cX3_init 192 = .ok (.aload_n 0, 1) := by decide +kernel
theorem dX3_init_193 : decode cX3_init 193 = .ok (.getfield 18, 3) := by decide +kernel
theorem dX3_init_196 : decode cX3_init 196 = .ok (.iload 4, 2) := by decide +kernel
theorem dX3_init_198 : decode cX3_init 198 = .ok (.iload 5, 2) := by decide +kernel
theorem dX3_init_200 : decode cX3_init 200 = .ok (.bipush 24, 2) := by decide +kernel
theorem dX3_init_202 : decode cX3_init 202 = .ok (.iushr, 1) := by decide +kernel
theorem dX3_init_203 : decode cX3_init 203 = .ok (.ifCond .ne 7, 3) := by decide +kernel
theorem dX3_init_206 : decode cX3_init 206 = .ok (.iconst 0, 1) := by decide +kernel
theorem dX3_init_207 : decode cX3_init 207 = .ok (.goto 5, 3) := by decide +kernel
theorem dX3_init_210 : decode cX3_init 210 = .ok (.iload 5, 2) := by decide +kernel
theorem dX3_init_212 : decode cX3_init 212 = .ok (.iastore, 1) := by decide +kernel
theorem dX3_init_213 : decode cX3_init 213 = .ok (.iinc 4 1, 3) := by decide +kernel
theorem dX3_init_216 : decode cX3_init 216 = .ok (.goto (-43), 3) := by decide +kernel
theorem dX3_init_219 : decode cX3_init 219 = .ok (.return_, 1) := by decide +kernel
theorem dX3_scaleTo_0 : decode cX3_scaleTo 0 = .ok (.aload_n 0, 1) := by decide +kernel
theorem dX3_scaleTo_1 : decode cX3_scaleTo 1 = .ok (.iload_n 1, 1) := by decide +kernel
theorem dX3_scaleTo_2 : decode cX3_scaleTo 2 = .ok (.ifCond .ne 12, 3) := by decide +kernel
theorem dX3_scaleTo_5 : decode cX3_scaleTo 5 = .ok (.aload_n 0, 1) := by decide +kernel
theorem dX3_scaleTo_6 : decode cX3_scaleTo 6 = .ok (.invokevirtual 43, 3) := by decide +kernel
theorem dX3_scaleTo_9 : decode cX3_scaleTo 9 = .ok (.iconst 4, 1) := by decide +kernel
theorem dX3_scaleTo_10 : decode cX3_scaleTo 10 = .ok (.ishr, 1) := by decide +kernel
theorem dX3_scaleTo_11 : decode cX3_scaleTo 11 = .ok (.goto 4, 3) := by decide +kernel
theorem dX3_scaleTo_14 : decode cX3_scaleTo 14 = .ok (.iload_n 1, 1) := by decide +kernel
theorem dX3_scaleTo_15 : decode cX3_scaleTo 15 = .ok (.putfield 21, 3) := by decide +kernel
theorem dX3_scaleTo_18 : decode cX3_scaleTo 18 = .ok (.return_, 1) := by decide +kernel
theorem dX3_rowLength_0 : decode cX3_rowLength 0 = .ok (.iload_n 1, 1) := by decide +kernel
theorem dX3_rowLength_1 : decode cX3_rowLength 1 = .ok (.ifCond .lt 18, 3) := by decide +kernel
theorem dX3_rowLength_4 : decode cX3_rowLength 4 = .ok (.iload_n 1, 1) := by decide +kernel
theorem dX3_rowLength_5 : decode cX3_rowLength 5 = .ok (.bipush 10, 2) := by decide +kernel
theorem dX3_rowLength_7 : decode cX3_rowLength 7 = .ok (.if_icmp .ge 12, 3) := by decide +kernel
theorem dX3_rowLength_10 : decode cX3_rowLength 10 = .ok (.aload_n 0, 1) := by decide +kernel
theorem dX3_rowLength_11 : decode cX3_rowLength 11 = .ok (.getfield 15, 3) := by decide +kernel
theorem dX3_rowLength_14 : decode cX3_rowLength 14 = .ok (.iload_n 1, 1) := by decide +kernel
theorem dX3_rowLength_15 : decode cX3_rowLength 15 = .ok (.iaload, 1) := by decide +kernel
theorem dX3_rowLength_16 : decode cX3_rowLength 16 = .ok (.goto 4, 3) := by decide +kernel
theorem dX3_rowLength_19 : decode cX3_rowLength 19 = .ok (.iconst 0, 1) := by decide +kernel
theorem dX3_rowLength_20 : decode cX3_rowLength 20 = .ok (.ireturn, 1) := by decide +kernel
theorem dX3_wordAt_0 : decode cX3_wordAt 0 = .ok (.iload_n 1, 1) := by decide +kernel
theorem dX3_wordAt_1 : decode cX3_wordAt 1 = .ok (.ifCond .lt 23, 3) := by decide +kernel
theorem dX3_wordAt_4 : decode cX3_wordAt 4 = .ok (.iload_n 1, 1) := by decide +kernel
theorem dX3_wordAt_5 : decode cX3_wordAt 5 = .ok (.bipush 10, 2) := by decide +kernel
theorem dX3_wordAt_7 : decode cX3_wordAt 7 = .ok (.if_icmp .ge 17, 3) := by decide +kernel
theorem dX3_wordAt_10 : decode cX3_wordAt 10 = .ok (.iload_n 2, 1) := by decide +kernel
theorem dX3_wordAt_11 : decode cX3_wordAt 11 = .ok (.ifCond .lt 13, 3) := by decide +kernel
theorem dX3_wordAt_14 : decode cX3_wordAt 14 = .ok (.iload_n 2, 1) := by decide +kernel
theorem dX3_wordAt_15 : decode cX3_wordAt 15 = .ok (.aload_n 0, 1) := by decide +kernel
theorem dX3_wordAt_16 : decode cX3_wordAt 16 = .ok (.getfield 15, 3) := by decide +kernel
theorem dX3_wordAt_19 : decode cX3_wordAt 19 = .ok (.iload_n 1, 1) := by decide +kernel
theorem dX3_wordAt_20 : decode cX3_wordAt 20 = .ok (.iaload, 1) := by decide +kernel
theorem dX3_wordAt_21 : decode cX3_wordAt 21 = .ok (.if_icmp .lt 5, 3) := by decide +kernel
theorem dX3_wordAt_24 : decode cX3_wordAt 24 = .ok (.iconst 0, 1) := by decide +kernel
theorem dX3_wordAt_25 : decode cX3_wordAt 25 = .ok (.ireturn, 1) := by decide +kernel
theorem dX3_wordAt_26 : decode cX3_wordAt 26 = .ok (.aload_n 0, 1) := by decide +kernel
theorem dX3_wordAt_27 : decode cX3_wordAt 27 = .ok (.getfield 11, 3) := by decide +kernel
theorem dX3_wordAt_30 : decode cX3_wordAt 30 = .ok (.iload_n 1, 1) := by decide +kernel
theorem dX3_wordAt_31 : decode cX3_wordAt 31 = .ok (.iaload, 1) := by decide +kernel
theorem dX3_wordAt_32 : decode cX3_wordAt 32 = .ok (.iload_n 2, 1) := by decide +kernel
theorem dX3_wordAt_33 : decode cX3_wordAt 33 = .ok (.iadd, 1) := by decide +kernel
theorem dX3_wordAt_34 : decode cX3_wordAt 34 = .ok (.istore_n 3, 1) := by decide +kernel
theorem dX3_wordAt_35 : decode cX3_wordAt 35 = .ok (.iload_n 3, 1) := by decide +kernel
theorem dX3_wordAt_36 : decode cX3_wordAt 36 = .ok (.ifCond .lt 21, 3) := by decide +kernel
theorem dX3_wordAt_39 : decode cX3_wordAt 39 = .ok (.iload_n 3, 1) := by decide +kernel
theorem dX3_wordAt_40 : decode cX3_wordAt 40 = .ok (.aload_n 0, 1) := by decide +kernel
theorem dX3_wordAt_41 : decode cX3_wordAt 41 = .ok (.getfield 30, 3) := by decide +kernel
theorem dX3_wordAt_44 : decode cX3_wordAt 44 = .ok (.arraylength, 1) := by decide +kernel
theorem dX3_wordAt_45 : decode cX3_wordAt 45 = .ok (.if_icmp .ge 12, 3) := by decide +kernel
theorem dX3_wordAt_48 : decode cX3_wordAt 48 = .ok (.aload_n 0, 1) := by decide +kernel
theorem dX3_wordAt_49 : decode cX3_wordAt 49 = .ok (.getfield 30, 3) := by decide +kernel
theorem dX3_wordAt_52 : decode cX3_wordAt 52 = .ok (.iload_n 3, 1) := by decide +kernel
theorem dX3_wordAt_53 : decode cX3_wordAt 53 = .ok (.iaload, 1) := by decide +kernel
theorem dX3_wordAt_54 : decode cX3_wordAt 54 = .ok (.goto 4, 3) := by decide +kernel
theorem dX3_wordAt_57 : decode cX3_wordAt 57 = .ok (.iconst 0, 1) := by decide +kernel
theorem dX3_wordAt_58 : decode cX3_wordAt 58 = .ok (.ireturn, 1) := by decide +kernel
theorem dX3_designSize_0 : decode cX3_designSize 0 = .ok (.aload_n 0, 1) := by decide +kernel
theorem dX3_designSize_1 : decode cX3_designSize 1 = .ok (.iconst 0, 1) := by decide +kernel
theorem dX3_designSize_2 : decode cX3_designSize 2 = .ok (.iconst 1, 1) := by decide +kernel
theorem dX3_designSize_3 : decode cX3_designSize 3 = .ok (.invokevirtual 40, 3) := by decide +kernel
theorem dX3_designSize_6 : decode cX3_designSize 6 = .ok (.ireturn, 1) := by decide +kernel
theorem dX3_infoOf_0 : decode cX3_infoOf 0 = .ok (.iload_n 1, 1) := by decide +kernel
theorem dX3_infoOf_1 : decode cX3_infoOf 1 = .ok (.ifCond .lt 19, 3) := by decide +kernel
theorem dX3_infoOf_4 : decode cX3_infoOf 4 = .ok (.iload_n 1, 1) := by decide +kernel
theorem dX3_infoOf_5 : decode cX3_infoOf 5 = .ok (.sipush 256, 3) := by decide +kernel
theorem dX3_infoOf_8 : decode cX3_infoOf 8 = .ok (.if_icmp .ge 12, 3) := by decide +kernel
theorem dX3_infoOf_11 : decode cX3_infoOf 11 = .ok (.aload_n 0, 1) := by decide +kernel
theorem dX3_infoOf_12 : decode cX3_infoOf 12 = .ok (.getfield 18, 3) := by decide +kernel
theorem dX3_infoOf_15 : decode cX3_infoOf 15 = .ok (.iload_n 1, 1) := by decide +kernel
theorem dX3_infoOf_16 : decode cX3_infoOf 16 = .ok (.iaload, 1) := by decide +kernel
theorem dX3_infoOf_17 : decode cX3_infoOf 17 = .ok (.goto 4, 3) := by decide +kernel
theorem dX3_infoOf_20 : decode cX3_infoOf 20 = .ok (.iconst 0, 1) := by decide +kernel
theorem dX3_infoOf_21 : decode cX3_infoOf 21 = .ok (.ireturn, 1) := by decide +kernel
theorem dX3_hasCharacter_0 : decode cX3_hasCharacter 0 = .ok (.aload_n 0, 1) := by decide +kernel
theorem dX3_hasCharacter_1 : decode cX3_hasCharacter 1 = .ok (.iload_n 1, 1) := by decide +kernel
theorem dX3_hasCharacter_2 : decode cX3_hasCharacter 2 = .ok (.invokevirtual 46, 3) := by decide +kernel
theorem dX3_hasCharacter_5 : decode cX3_hasCharacter 5 = .ok (.ifCond .eq 7, 3) := by decide +kernel
theorem dX3_hasCharacter_8 : decode cX3_hasCharacter 8 = .ok (.iconst 1, 1) := by decide +kernel
theorem dX3_hasCharacter_9 : decode cX3_hasCharacter 9 = .ok (.goto 4, 3) := by decide +kernel
theorem dX3_hasCharacter_12 : decode cX3_hasCharacter 12 = .ok (.iconst 0, 1) := by decide +kernel
theorem dX3_hasCharacter_13 : decode cX3_hasCharacter 13 = .ok (.ireturn, 1) := by decide +kernel
theorem dX3_tagOf_0 : decode cX3_tagOf 0 = .ok (.aload_n 0, 1) := by decide +kernel
theorem dX3_tagOf_1 : decode cX3_tagOf 1 = .ok (.iload_n 1, 1) := by decide +kernel
theorem dX3_tagOf_2 : decode cX3_tagOf 2 = .ok (.invokevirtual 46, 3) := by decide +kernel
theorem dX3_tagOf_5 : decode cX3_tagOf 5 = .ok (.bipush 8, 2) := by decide +kernel
theorem dX3_tagOf_7 : decode cX3_tagOf 7 = .ok (.iushr, 1) := by decide +kernel
theorem dX3_tagOf_8 : decode cX3_tagOf 8 = .ok (.iconst 3, 1) := by decide +kernel
theorem dX3_tagOf_9 : decode cX3_tagOf 9 = .ok (.iand, 1) := by decide +kernel
theorem dX3_tagOf_10 : decode cX3_tagOf 10 = .ok (.ireturn, 1) := by decide +kernel
theorem dX3_restOf_0 : decode cX3_restOf 0 = .ok (.aload_n 0, 1) := by decide +kernel
theorem dX3_restOf_1 : decode cX3_restOf 1 = .ok (.iload_n 1, 1) := by decide +kernel
theorem dX3_restOf_2 : decode cX3_restOf 2 = .ok (.invokevirtual 46, 3) := by decide +kernel
theorem dX3_restOf_5 : decode cX3_restOf 5 = .ok (.sipush 255, 3) := by decide +kernel
theorem dX3_restOf_8 : decode cX3_restOf 8 = .ok (.iand, 1) := by decide +kernel
theorem dX3_restOf_9 : decode cX3_restOf 9 = .ok (.ireturn, 1) := by decide +kernel
theorem dX3_placeOf_0 : decode cX3_placeOf 0 = .ok (.aload_n 0, 1) := by decide +kernel
theorem dX3_placeOf_1 : decode cX3_placeOf 1 = .ok (.iload_n 1, 1) := by decide +kernel
theorem dX3_placeOf_2 : decode cX3_placeOf 2 = .ok (.invokevirtual 46, 3) := by decide +kernel
theorem dX3_placeOf_5 : decode cX3_placeOf 5 = .ok (.istore_n 3, 1) := by decide +kernel
theorem dX3_placeOf_6 : decode cX3_placeOf 6 = .ok (.iload_n 2, 1) := by decide +kernel
theorem dX3_placeOf_7 : decode cX3_placeOf 7 = .ok (.tableswitch 46 0 2 #[25, 30, 38], 25) := by decide +kernel
theorem dX3_placeOf_32 : decode cX3_placeOf 32 = .ok (.iload_n 3, 1) := by decide +kernel
theorem dX3_placeOf_33 : decode cX3_placeOf 33 = .ok (.bipush 24, 2) := by decide +kernel
theorem dX3_placeOf_35 : decode cX3_placeOf 35 = .ok (.iushr, 1) := by decide +kernel
theorem dX3_placeOf_36 : decode cX3_placeOf 36 = .ok (.ireturn, 1) := by decide +kernel
theorem dX3_placeOf_37 : decode cX3_placeOf 37 = .ok (.iload_n 3, 1) := by decide +kernel
theorem dX3_placeOf_38 : decode cX3_placeOf 38 = .ok (.bipush 20, 2) := by decide +kernel
theorem dX3_placeOf_40 : decode cX3_placeOf 40 = .ok (.iushr, 1) := by decide +kernel
theorem dX3_placeOf_41 : decode cX3_placeOf 41 = .ok (.bipush 15, 2) := by decide +kernel
theorem dX3_placeOf_43 : decode cX3_placeOf 43 = .ok (.iand, 1) := by decide +kernel
theorem dX3_placeOf_44 : decode cX3_placeOf 44 = .ok (.ireturn, 1) := by decide +kernel
theorem dX3_placeOf_45 : decode cX3_placeOf 45 = .ok (.iload_n 3, 1) := by decide +kernel
theorem dX3_placeOf_46 : decode cX3_placeOf 46 = .ok (.bipush 16, 2) := by decide +kernel
theorem dX3_placeOf_48 : decode cX3_placeOf 48 = .ok (.iushr, 1) := by decide +kernel
theorem dX3_placeOf_49 : decode cX3_placeOf 49 = .ok (.bipush 15, 2) := by decide +kernel
theorem dX3_placeOf_51 : decode cX3_placeOf 51 = .ok (.iand, 1) := by decide +kernel
theorem dX3_placeOf_52 : decode cX3_placeOf 52 = .ok (.ireturn, 1) := by decide +kernel
theorem dX3_placeOf_53 : decode cX3_placeOf 53 = .ok (.iload_n 3, 1) := by decide +kernel
theorem dX3_placeOf_54 : decode cX3_placeOf 54 = .ok (.bipush 10, 2) := by decide +kernel
theorem dX3_placeOf_56 : decode cX3_placeOf 56 = .ok (.iushr, 1) := by decide +kernel
theorem dX3_placeOf_57 : decode cX3_placeOf 57 = .ok (.bipush 63, 2) := by decide +kernel
theorem dX3_placeOf_59 : decode cX3_placeOf 59 = .ok (.iand, 1) := by decide +kernel
theorem dX3_placeOf_60 : decode cX3_placeOf 60 = .ok (.ireturn, 1) := by decide +kernel
theorem dX3_scaled_0 : decode cX3_scaled 0 = .ok (.iload_n 1, 1) := by decide +kernel
theorem dX3_scaled_1 : decode cX3_scaled 1 = .ok (.i2l, 1) := by decide +kernel
theorem dX3_scaled_2 : decode cX3_scaled 2 = .ok (.aload_n 0, 1) := by decide +kernel
theorem dX3_scaled_3 : decode cX3_scaled 3 = .ok (.getfield 21, 3) := by decide +kernel
theorem dX3_scaled_6 : decode cX3_scaled 6 = .ok (.i2l, 1) := by decide +kernel
theorem dX3_scaled_7 : decode cX3_scaled 7 = .ok (.lmul, 1) := by decide +kernel
theorem dX3_scaled_8 : decode cX3_scaled 8 = .ok (.bipush 20, 2) := by decide +kernel
theorem dX3_scaled_10 : decode cX3_scaled 10 = .ok (.lshr, 1) := by decide +kernel
theorem dX3_scaled_11 : decode cX3_scaled 11 = .ok (.l2i, 1) := by decide +kernel
theorem dX3_scaled_12 : decode cX3_scaled 12 = .ok (.ireturn, 1) := by decide +kernel
theorem dX3_measure_0 : decode cX3_measure 0 = .ok (.iload_n 2, 1) := by decide +kernel
theorem dX3_measure_1 : decode cX3_measure 1 = .ok (.iconst 4, 1) := by decide +kernel
theorem dX3_measure_2 : decode cX3_measure 2 = .ok (.if_icmp .ne 9, 3) := by decide +kernel
theorem dX3_measure_5 : decode cX3_measure 5 = .ok (.aload_n 0, 1) := by decide +kernel
theorem dX3_measure_6 : decode cX3_measure 6 = .ok (.iload_n 1, 1) := by decide +kernel
theorem dX3_measure_7 : decode cX3_measure 7 = .ok (.invokevirtual 49, 3) := by decide +kernel
theorem dX3_measure_10 : decode cX3_measure 10 = .ok (.ireturn, 1) := by decide +kernel
theorem dX3_measure_11 : decode cX3_measure 11 = .ok (.iload_n 2, 1) := by decide +kernel
theorem dX3_measure_12 : decode cX3_measure 12 = .ok (.iconst 5, 1) := by decide +kernel
theorem dX3_measure_13 : decode cX3_measure 13 = .ok (.if_icmp .ne 21, 3) := by decide +kernel
theorem dX3_measure_16 : decode cX3_measure 16 = .ok (.aload_n 0, 1) := by decide +kernel
theorem dX3_measure_17 : decode cX3_measure 17 = .ok (.iload_n 1, 1) := by decide +kernel
theorem dX3_measure_18 : decode cX3_measure 18 = .ok (.invokevirtual 49, 3) := by decide +kernel
theorem dX3_measure_21 : decode cX3_measure 21 = .ok (.ifCond .ne 7, 3) := by decide +kernel
theorem dX3_measure_24 : decode cX3_measure 24 = .ok (.iconst 0, 1) := by decide +kernel
theorem dX3_measure_25 : decode cX3_measure 25 = .ok (.goto 8, 3) := by decide +kernel
theorem dX3_measure_28 : decode cX3_measure 28 = .ok (.aload_n 0, 1) := by decide +kernel
theorem dX3_measure_29 : decode cX3_measure 29 = .ok (.iload_n 1, 1) := by decide +kernel
theorem dX3_measure_30 : decode cX3_measure 30 = .ok (.invokevirtual 52, 3) := by decide +kernel
theorem dX3_measure_33 : decode cX3_measure 33 = .ok (.ireturn, 1) := by decide +kernel
theorem dX3_measure_34 : decode cX3_measure 34 = .ok (.aload_n 0, 1) := by decide +kernel
theorem dX3_measure_35 : decode cX3_measure 35 = .ok (.aload_n 0, 1) := by decide +kernel
theorem dX3_measure_36 : decode cX3_measure 36 = .ok (.iconst 2, 1) := by decide +kernel
theorem dX3_measure_37 : decode cX3_measure 37 = .ok (.iload_n 2, 1) := by decide +kernel
theorem dX3_measure_38 : decode cX3_measure 38 = .ok (.iadd, 1) := by decide +kernel
theorem dX3_measure_39 : decode cX3_measure 39 = .ok (.aload_n 0, 1) := by decide +kernel
theorem dX3_measure_40 : decode cX3_measure 40 = .ok (.iload_n 1, 1) := by decide +kernel
theorem dX3_measure_41 : decode cX3_measure 41 = .ok (.iload_n 2, 1) := by decide +kernel
theorem dX3_measure_42 : decode cX3_measure 42 = .ok (.invokevirtual 55, 3) := by decide +kernel
theorem dX3_measure_45 : decode cX3_measure 45 = .ok (.invokevirtual 40, 3) := by decide +kernel
theorem dX3_measure_48 : decode cX3_measure 48 = .ok (.invokevirtual 58, 3) := by decide +kernel
theorem dX3_measure_51 : decode cX3_measure 51 = .ok (.ireturn, 1) := by decide +kernel
theorem dX3_scaledParameter_0 : decode cX3_scaledParameter 0 = .ok (.aload_n 0, 1) := by decide +kernel
theorem dX3_scaledParameter_1 : decode cX3_scaledParameter 1 = .ok (.bipush 9, 2) := by decide +kernel
theorem dX3_scaledParameter_3 : decode cX3_scaledParameter 3 = .ok (.iload_n 1, 1) := by decide +kernel
theorem dX3_scaledParameter_4 : decode cX3_scaledParameter 4 = .ok (.iconst 1, 1) := by decide +kernel
theorem dX3_scaledParameter_5 : decode cX3_scaledParameter 5 = .ok (.isub, 1) := by decide +kernel
theorem dX3_scaledParameter_6 : decode cX3_scaledParameter 6 = .ok (.invokevirtual 40, 3) := by decide +kernel
theorem dX3_scaledParameter_9 : decode cX3_scaledParameter 9 = .ok (.istore_n 2, 1) := by decide +kernel
theorem dX3_scaledParameter_10 : decode cX3_scaledParameter 10 = .ok (.iload_n 1, 1) := by decide +kernel
theorem dX3_scaledParameter_11 : decode cX3_scaledParameter 11 = .ok (.iconst 1, 1) := by decide +kernel
theorem dX3_scaledParameter_12 : decode cX3_scaledParameter 12 = .ok (.if_icmp .ne 9, 3) := by decide +kernel
theorem dX3_scaledParameter_15 : decode cX3_scaledParameter 15 = .ok (.iload_n 2, 1) := by decide +kernel
theorem dX3_scaledParameter_16 : decode cX3_scaledParameter 16 = .ok (.iconst 4, 1) := by decide +kernel
theorem dX3_scaledParameter_17 : decode cX3_scaledParameter 17 = .ok (.ishr, 1) := by decide +kernel
theorem dX3_scaledParameter_18 : decode cX3_scaledParameter 18 = .ok (.goto 8, 3) := by decide +kernel
theorem dX3_scaledParameter_21 : decode cX3_scaledParameter 21 = .ok (.aload_n 0, 1) := by decide +kernel
theorem dX3_scaledParameter_22 : decode cX3_scaledParameter 22 = .ok (.iload_n 2, 1) := by decide +kernel
theorem dX3_scaledParameter_23 : decode cX3_scaledParameter 23 = .ok (.invokevirtual 58, 3) := by decide +kernel
theorem dX3_scaledParameter_26 : decode cX3_scaledParameter 26 = .ok (.ireturn, 1) := by decide +kernel
theorem dX3_skipOf_0 : decode cX3_skipOf 0 = .ok (.aload_n 0, 1) := by decide +kernel
theorem dX3_skipOf_1 : decode cX3_skipOf 1 = .ok (.bipush 6, 2) := by decide +kernel
theorem dX3_skipOf_3 : decode cX3_skipOf 3 = .ok (.iload_n 1, 1) := by decide +kernel
theorem dX3_skipOf_4 : decode cX3_skipOf 4 = .ok (.invokevirtual 40, 3) := by decide +kernel
theorem dX3_skipOf_7 : decode cX3_skipOf 7 = .ok (.bipush 24, 2) := by decide +kernel
theorem dX3_skipOf_9 : decode cX3_skipOf 9 = .ok (.iushr, 1) := by decide +kernel
theorem dX3_skipOf_10 : decode cX3_skipOf 10 = .ok (.ireturn, 1) := by decide +kernel
theorem dX3_signOf_0 : decode cX3_signOf 0 = .ok (.aload_n 0, 1) := by decide +kernel
theorem dX3_signOf_1 : decode cX3_signOf 1 = .ok (.bipush 6, 2) := by decide +kernel
theorem dX3_signOf_3 : decode cX3_signOf 3 = .ok (.iload_n 1, 1) := by decide +kernel
theorem dX3_signOf_4 : decode cX3_signOf 4 = .ok (.invokevirtual 40, 3) := by decide +kernel
theorem dX3_signOf_7 : decode cX3_signOf 7 = .ok (.bipush 16, 2) := by decide +kernel
theorem dX3_signOf_9 : decode cX3_signOf 9 = .ok (.iushr, 1) := by decide +kernel
theorem dX3_signOf_10 : decode cX3_signOf 10 = .ok (.sipush 255, 3) := by decide +kernel
theorem dX3_signOf_13 : decode cX3_signOf 13 = .ok (.iand, 1) := by decide +kernel
theorem dX3_signOf_14 : decode cX3_signOf 14 = .ok (.ireturn, 1) := by decide +kernel
theorem dX3_deedOf_0 : decode cX3_deedOf 0 = .ok (.aload_n 0, 1) := by decide +kernel
theorem dX3_deedOf_1 : decode cX3_deedOf 1 = .ok (.bipush 6, 2) := by decide +kernel
theorem dX3_deedOf_3 : decode cX3_deedOf 3 = .ok (.iload_n 1, 1) := by decide +kernel
theorem dX3_deedOf_4 : decode cX3_deedOf 4 = .ok (.invokevirtual 40, 3) := by decide +kernel
theorem dX3_deedOf_7 : decode cX3_deedOf 7 = .ok (.bipush 8, 2) := by decide +kernel
theorem dX3_deedOf_9 : decode cX3_deedOf 9 = .ok (.iushr, 1) := by decide +kernel
theorem dX3_deedOf_10 : decode cX3_deedOf 10 = .ok (.sipush 255, 3) := by decide +kernel
theorem dX3_deedOf_13 : decode cX3_deedOf 13 = .ok (.iand, 1) := by decide +kernel
theorem dX3_deedOf_14 : decode cX3_deedOf 14 = .ok (.ireturn, 1) := by decide +kernel
theorem dX3_remainderOf_0 : decode cX3_remainderOf 0 = .ok (.aload_n 0, 1) := by decide +kernel
theorem dX3_remainderOf_1 : decode cX3_remainderOf 1 = .ok (.bipush 6, 2) := by decide +kernel
theorem dX3_remainderOf_3 : decode cX3_remainderOf 3 = .ok (.iload_n 1, 1) := by decide +kernel
theorem dX3_remainderOf_4 : decode cX3_remainderOf 4 = .ok (.invokevirtual 40, 3) := by decide +kernel
theorem dX3_remainderOf_7 : decode cX3_remainderOf 7 = .ok (.sipush 255, 3) := by decide +kernel
theorem dX3_remainderOf_10 : decode cX3_remainderOf 10 = .ok (.iand, 1) := by decide +kernel
theorem dX3_remainderOf_11 : decode cX3_remainderOf 11 = .ok (.ireturn, 1) := by decide +kernel
theorem dX3_isJump_0 : decode cX3_isJump 0 = .ok (.aload_n 0, 1) := by decide +kernel
theorem dX3_isJump_1 : decode cX3_isJump 1 = .ok (.iload_n 1, 1) := by decide +kernel
theorem dX3_isJump_2 : decode cX3_isJump 2 = .ok (.invokevirtual 61, 3) := by decide +kernel
theorem dX3_isJump_5 : decode cX3_isJump 5 = .ok (.sipush 128, 3) := by decide +kernel
theorem dX3_isJump_8 : decode cX3_isJump 8 = .ok (.if_icmp .le 7, 3) := by decide +kernel
theorem dX3_isJump_11 : decode cX3_isJump 11 = .ok (.iconst 1, 1) := by decide +kernel
theorem dX3_isJump_12 : decode cX3_isJump 12 = .ok (.goto 4, 3) := by decide +kernel
theorem dX3_isJump_15 : decode cX3_isJump 15 = .ok (.iconst 0, 1) := by decide +kernel
theorem dX3_isJump_16 : decode cX3_isJump 16 = .ok (.ireturn, 1) := by decide +kernel
theorem dX3_targetOf_0 : decode cX3_targetOf 0 = .ok (.sipush 256, 3) := by decide +kernel
theorem dX3_targetOf_3 : decode cX3_targetOf 3 = .ok (.aload_n 0, 1) := by decide +kernel
theorem dX3_targetOf_4 : decode cX3_targetOf 4 = .ok (.iload_n 1, 1) := by decide +kernel
theorem dX3_targetOf_5 : decode cX3_targetOf 5 = .ok (.invokevirtual 64, 3) := by decide +kernel
theorem dX3_targetOf_8 : decode cX3_targetOf 8 = .ok (.imul, 1) := by decide +kernel
theorem dX3_targetOf_9 : decode cX3_targetOf 9 = .ok (.aload_n 0, 1) := by decide +kernel
theorem dX3_targetOf_10 : decode cX3_targetOf 10 = .ok (.iload_n 1, 1) := by decide +kernel
theorem dX3_targetOf_11 : decode cX3_targetOf 11 = .ok (.invokevirtual 67, 3) := by decide +kernel
theorem dX3_targetOf_14 : decode cX3_targetOf 14 = .ok (.iadd, 1) := by decide +kernel
theorem dX3_targetOf_15 : decode cX3_targetOf 15 = .ok (.ireturn, 1) := by decide +kernel
theorem dX3_isKern_0 : decode cX3_isKern 0 = .ok (.aload_n 0, 1) := by decide +kernel
theorem dX3_isKern_1 : decode cX3_isKern 1 = .ok (.iload_n 1, 1) := by decide +kernel
theorem dX3_isKern_2 : decode cX3_isKern 2 = .ok (.invokevirtual 64, 3) := by decide +kernel
theorem dX3_isKern_5 : decode cX3_isKern 5 = .ok (.sipush 128, 3) := by decide +kernel
theorem dX3_isKern_8 : decode cX3_isKern 8 = .ok (.if_icmp .lt 7, 3) := by decide +kernel
theorem dX3_isKern_11 : decode cX3_isKern 11 = .ok (.iconst 1, 1) := by decide +kernel
theorem dX3_isKern_12 : decode cX3_isKern 12 = .ok (.goto 4, 3) := by decide +kernel
theorem dX3_isKern_15 : decode cX3_isKern 15 = .ok (.iconst 0, 1) := by decide +kernel
theorem dX3_isKern_16 : decode cX3_isKern 16 = .ok (.ireturn, 1) := by decide +kernel
theorem dX3_kernPlaceOf_0 : decode cX3_kernPlaceOf 0 = .ok (.sipush 256, 3) := by decide +kernel
theorem dX3_kernPlaceOf_3 : decode cX3_kernPlaceOf 3 = .ok (.aload_n 0, 1) := by decide +kernel
theorem dX3_kernPlaceOf_4 : decode cX3_kernPlaceOf 4 = .ok (.iload_n 1, 1) := by decide +kernel
theorem dX3_kernPlaceOf_5 : decode cX3_kernPlaceOf 5 = .ok (.invokevirtual 64, 3) := by decide +kernel
theorem dX3_kernPlaceOf_8 : decode cX3_kernPlaceOf 8 = .ok (.sipush 128, 3) := by decide +kernel
theorem dX3_kernPlaceOf_11 : decode cX3_kernPlaceOf 11 = .ok (.isub, 1) := by decide +kernel
theorem dX3_kernPlaceOf_12 : decode cX3_kernPlaceOf 12 = .ok (.imul, 1) := by decide +kernel
theorem dX3_kernPlaceOf_13 : decode cX3_kernPlaceOf 13 = .ok (.aload_n 0, 1) := by decide +kernel
theorem dX3_kernPlaceOf_14 : decode cX3_kernPlaceOf 14 = .ok (.iload_n 1, 1) := by decide +kernel
theorem dX3_kernPlaceOf_15 : decode cX3_kernPlaceOf 15 = .ok (.invokevirtual 67, 3) := by decide +kernel
theorem dX3_kernPlaceOf_18 : decode cX3_kernPlaceOf 18 = .ok (.iadd, 1) := by decide +kernel
theorem dX3_kernPlaceOf_19 : decode cX3_kernPlaceOf 19 = .ok (.ireturn, 1) := by decide +kernel
theorem dX3_scaledKern_0 : decode cX3_scaledKern 0 = .ok (.aload_n 0, 1) := by decide +kernel
theorem dX3_scaledKern_1 : decode cX3_scaledKern 1 = .ok (.aload_n 0, 1) := by decide +kernel
theorem dX3_scaledKern_2 : decode cX3_scaledKern 2 = .ok (.bipush 7, 2) := by decide +kernel
theorem dX3_scaledKern_4 : decode cX3_scaledKern 4 = .ok (.aload_n 0, 1) := by decide +kernel
theorem dX3_scaledKern_5 : decode cX3_scaledKern 5 = .ok (.iload_n 1, 1) := by decide +kernel
theorem dX3_scaledKern_6 : decode cX3_scaledKern 6 = .ok (.invokevirtual 70, 3) := by decide +kernel
theorem dX3_scaledKern_9 : decode cX3_scaledKern 9 = .ok (.invokevirtual 40, 3) := by decide +kernel
theorem dX3_scaledKern_12 : decode cX3_scaledKern 12 = .ok (.invokevirtual 58, 3) := by decide +kernel
theorem dX3_scaledKern_15 : decode cX3_scaledKern 15 = .ok (.ireturn, 1) := by decide +kernel
theorem dX3_boundary_0 : decode cX3_boundary 0 = .ok (.aload_n 0, 1) := by decide +kernel
theorem dX3_boundary_1 : decode cX3_boundary 1 = .ok (.iconst 0, 1) := by decide +kernel
theorem dX3_boundary_2 : decode cX3_boundary 2 = .ok (.invokevirtual 61, 3) := by decide +kernel
theorem dX3_boundary_5 : decode cX3_boundary 5 = .ok (.sipush 255, 3) := by decide +kernel
theorem dX3_boundary_8 : decode cX3_boundary 8 = .ok (.if_icmp .ne 11, 3) := by decide +kernel
theorem dX3_boundary_11 : decode cX3_boundary 11 = .ok (.aload_n 0, 1) := by decide +kernel
theorem dX3_boundary_12 : decode cX3_boundary 12 = .ok (.iconst 0, 1) := by decide +kernel
theorem dX3_boundary_13 : decode cX3_boundary 13 = .ok (.invokevirtual 73, 3) := by decide +kernel
theorem dX3_boundary_16 : decode cX3_boundary 16 = .ok (.goto 4, 3) := by decide +kernel
theorem dX3_boundary_19 : decode cX3_boundary 19 = .ok (.iconst (-1), 1) := by decide +kernel
theorem dX3_boundary_20 : decode cX3_boundary 20 = .ok (.ireturn, 1) := by decide +kernel
theorem dX3_programStart_0 : decode cX3_programStart 0 = .ok (.iconst (-1), 1) := by decide +kernel
theorem dX3_programStart_1 : decode cX3_programStart 1 = .ok (.istore_n 2, 1) := by decide +kernel
theorem dX3_programStart_2 : decode cX3_programStart 2 = .ok (.iload_n 1, 1) := by decide +kernel
theorem dX3_programStart_3 : decode cX3_programStart 3 = .ok (.sipush 256, 3) := by decide +kernel
theorem dX3_programStart_6 : decode cX3_programStart 6 = .ok (.if_icmp .ne 32, 3) := by decide +kernel
theorem dX3_programStart_9 : decode cX3_programStart 9 = .ok (.aload_n 0, 1) := by decide +kernel
theorem dX3_programStart_10 : decode cX3_programStart 10 = .ok (.bipush 6, 2) := by decide +kernel
theorem dX3_programStart_12 : decode cX3_programStart 12 = .ok (.invokevirtual 76, 3) := by decide +kernel
theorem dX3_programStart_15 : decode cX3_programStart 15 = .ok (.iconst 1, 1) := by decide +kernel
theorem dX3_programStart_16 : decode cX3_programStart 16 = .ok (.isub, 1) := by decide +kernel
theorem dX3_programStart_17 : decode cX3_programStart 17 = .ok (.istore_n 3, 1) := by decide +kernel
theorem dX3_programStart_18 : decode cX3_programStart 18 = .ok (.aload_n 0, 1) := by decide +kernel
theorem dX3_programStart_19 : decode cX3_programStart 19 = .ok (.iload_n 3, 1) := by decide +kernel
theorem dX3_programStart_20 : decode cX3_programStart 20 = .ok (.invokevirtual 61, 3) := by decide +kernel
theorem dX3_programStart_23 : decode cX3_programStart 23 = .ok (.sipush 255, 3) := by decide +kernel
theorem dX3_programStart_26 : decode cX3_programStart 26 = .ok (.if_icmp .ne 7, 3) := by decide +kernel
theorem dX3_programStart_29 : decode cX3_programStart 29 = .ok (.iload_n 3, 1) := by decide +kernel
theorem dX3_programStart_30 : decode cX3_programStart 30 = .ok (.goto 4, 3) := by decide +kernel
theorem dX3_programStart_33 : decode cX3_programStart 33 = .ok (.iconst (-1), 1) := by decide +kernel
theorem dX3_programStart_34 : decode cX3_programStart 34 = .ok (.istore_n 2, 1) := by decide +kernel
theorem dX3_programStart_35 : decode cX3_programStart 35 = .ok (.goto 18, 3) := by decide +kernel
theorem dX3_programStart_38 : decode cX3_programStart 38 = .ok (.aload_n 0, 1) := by decide +kernel
theorem dX3_programStart_39 : decode cX3_programStart 39 = .ok (.iload_n 1, 1) := by decide +kernel
theorem dX3_programStart_40 : decode cX3_programStart 40 = .ok (.invokevirtual 49, 3) := by decide +kernel
theorem dX3_programStart_43 : decode cX3_programStart 43 = .ok (.iconst 1, 1) := by decide +kernel
theorem dX3_programStart_44 : decode cX3_programStart 44 = .ok (.if_icmp .ne 9, 3) := by decide +kernel
theorem dX3_programStart_47 : decode cX3_programStart 47 = .ok (.aload_n 0, 1) := by decide +kernel
theorem dX3_programStart_48 : decode cX3_programStart 48 = .ok (.iload_n 1, 1) := by decide +kernel
theorem dX3_programStart_49 : decode cX3_programStart 49 = .ok (.invokevirtual 52, 3) := by decide +kernel
theorem dX3_programStart_52 : decode cX3_programStart 52 = .ok (.istore_n 2, 1) := by decide +kernel
theorem dX3_programStart_53 : decode cX3_programStart 53 = .ok (.aload_n 0, 1) := by decide +kernel
theorem dX3_programStart_54 : decode cX3_programStart 54 = .ok (.iload_n 2, 1) := by decide +kernel
theorem dX3_programStart_55 : decode cX3_programStart 55 = .ok (.invokevirtual 79, 3) := by decide +kernel
theorem dX3_programStart_58 : decode cX3_programStart 58 = .ok (.ifCond .ne 5, 3) := by decide +kernel
theorem dX3_programStart_61 : decode cX3_programStart 61 = .ok (.iload_n 2, 1) := by decide +kernel
theorem dX3_programStart_62 : decode cX3_programStart 62 = .ok (.ireturn, 1) := by decide +kernel
theorem dX3_programStart_63 : decode cX3_programStart 63 = .ok (.aload_n 0, 1) := by decide +kernel
theorem dX3_programStart_64 : decode cX3_programStart 64 = .ok (.iload_n 2, 1) := by decide +kernel
theorem dX3_programStart_65 : decode cX3_programStart 65 = .ok (.invokevirtual 83, 3) := by decide +kernel
theorem dX3_programStart_68 : decode cX3_programStart 68 = .ok (.istore_n 3, 1) := by decide +kernel
theorem dX3_programStart_69 : decode cX3_programStart 69 = .ok (.aload_n 0, 1) := by decide +kernel
theorem dX3_programStart_70 : decode cX3_programStart 70 = .ok (.iload_n 3, 1) := by decide +kernel
theorem dX3_programStart_71 : decode cX3_programStart 71 = .ok (.invokevirtual 79, 3) := by decide +kernel
theorem dX3_programStart_74 : decode cX3_programStart 74 = .ok (.ifCond .eq 7, 3) := by decide +kernel
theorem dX3_programStart_77 : decode cX3_programStart 77 = .ok (.iconst (-1), 1) := by decide +kernel
theorem dX3_programStart_78 : decode cX3_programStart 78 = .ok (.goto 4, 3) := by decide +kernel
theorem dX3_programStart_81 : decode cX3_programStart 81 = .ok (.iload_n 3, 1) := by decide +kernel
theorem dX3_programStart_82 : decode cX3_programStart 82 = .ok (.ireturn, 1) := by decide +kernel
theorem dX3_nextStep_0 : decode cX3_nextStep 0 = .ok (.aload_n 0, 1) := by decide +kernel
theorem dX3_nextStep_1 : decode cX3_nextStep 1 = .ok (.iload_n 1, 1) := by decide +kernel
theorem dX3_nextStep_2 : decode cX3_nextStep 2 = .ok (.invokevirtual 61, 3) := by decide +kernel
theorem dX3_nextStep_5 : decode cX3_nextStep 5 = .ok (.istore_n 2, 1) := by decide +kernel
theorem dX3_nextStep_6 : decode cX3_nextStep 6 = .ok (.iload_n 2, 1) := by decide +kernel
theorem dX3_nextStep_7 : decode cX3_nextStep 7 = .ok (.sipush 128, 3) := by decide +kernel
theorem dX3_nextStep_10 : decode cX3_nextStep 10 = .ok (.if_icmp .lt 7, 3) := by decide +kernel
theorem dX3_nextStep_13 : decode cX3_nextStep 13 = .ok (.iconst (-1), 1) := by decide +kernel
theorem dX3_nextStep_14 : decode cX3_nextStep 14 = .ok (.goto 8, 3) := by decide +kernel
theorem dX3_nextStep_17 : decode cX3_nextStep 17 = .ok (.iload_n 1, 1) := by decide +kernel
theorem dX3_nextStep_18 : decode cX3_nextStep 18 = .ok (.iload_n 2, 1) := by decide +kernel
theorem dX3_nextStep_19 : decode cX3_nextStep 19 = .ok (.iadd, 1) := by decide +kernel
theorem dX3_nextStep_20 : decode cX3_nextStep 20 = .ok (.iconst 1, 1) := by decide +kernel
theorem dX3_nextStep_21 : decode cX3_nextStep 21 = .ok (.iadd, 1) := by decide +kernel
theorem dX3_nextStep_22 : decode cX3_nextStep 22 = .ok (.ireturn, 1) := by decide +kernel
theorem dX3_stepFor_0 : decode cX3_stepFor 0 = .ok (.aload_n 0, 1) := by decide +kernel
theorem dX3_stepFor_1 : decode cX3_stepFor 1 = .ok (.iload_n 1, 1) := by decide +kernel
theorem dX3_stepFor_2 : decode cX3_stepFor 2 = .ok (.invokevirtual 86, 3) := by decide +kernel
theorem dX3_stepFor_5 : decode cX3_stepFor 5 = .ok (.istore_n 3, 1) := by decide +kernel
theorem dX3_stepFor_6 : decode cX3_stepFor 6 = .ok (.iconst 0, 1) := by decide +kernel
theorem dX3_stepFor_7 : decode cX3_stepFor 7 = .ok (.istore 4, 2) := by decide +kernel
theorem dX3_stepFor_9 : decode cX3_stepFor 9 = .ok (.iload 4, 2) := by decide +kernel
theorem dX3_stepFor_11 : decode cX3_stepFor 11 = .ok (.aload_n 0, 1) := by decide +kernel
theorem dX3_stepFor_12 : decode cX3_stepFor 12 = .ok (.bipush 6, 2) := by decide +kernel
theorem dX3_stepFor_14 : decode cX3_stepFor 14 = .ok (.invokevirtual 76, 3) := by decide +kernel
theorem dX3_stepFor_17 : decode cX3_stepFor 17 = .ok (.if_icmp .ge 39, 3) := by decide +kernel
theorem dX3_stepFor_20 : decode cX3_stepFor 20 = .ok (.iload_n 3, 1) := by decide +kernel
theorem dX3_stepFor_21 : decode cX3_stepFor 21 = .ok (.iconst (-1), 1) := by decide +kernel
theorem dX3_stepFor_22 : decode cX3_stepFor 22 = .ok (.if_icmp .eq 34, 3) := by decide +kernel
theorem dX3_stepFor_25 : decode cX3_stepFor 25 = .ok (.aload_n 0, 1) := by decide +kernel
theorem dX3_stepFor_26 : decode cX3_stepFor 26 = .ok (.iload_n 3, 1) := by decide +kernel
theorem dX3_stepFor_27 : decode cX3_stepFor 27 = .ok (.invokevirtual 79, 3) := by decide +kernel
theorem dX3_stepFor_30 : decode cX3_stepFor 30 = .ok (.ifCond .ne 14, 3) := by decide +kernel
theorem dX3_stepFor_33 : decode cX3_stepFor 33 = .ok (.aload_n 0, 1) := by decide +kernel
theorem dX3_stepFor_34 : decode cX3_stepFor 34 = .ok (.iload_n 3, 1) := by decide +kernel
theorem dX3_stepFor_35 : decode cX3_stepFor 35 = .ok (.invokevirtual 73, 3) := by decide +kernel
theorem dX3_stepFor_38 : decode cX3_stepFor 38 = .ok (.iload_n 2, 1) := by decide +kernel
theorem dX3_stepFor_39 : decode cX3_stepFor 39 = .ok (.if_icmp .ne 5, 3) := by decide +kernel
theorem dX3_stepFor_42 : decode cX3_stepFor 42 = .ok (.iload_n 3, 1) := by decide +kernel
theorem dX3_stepFor_43 : decode cX3_stepFor 43 = .ok (.ireturn, 1) := by decide +kernel
theorem dX3_stepFor_44 : decode cX3_stepFor 44 = .ok (.aload_n 0, 1) := by decide +kernel
theorem dX3_stepFor_45 : decode cX3_stepFor 45 = .ok (.iload_n 3, 1) := by decide +kernel
theorem dX3_stepFor_46 : decode cX3_stepFor 46 = .ok (.invokevirtual 89, 3) := by decide +kernel
theorem dX3_stepFor_49 : decode cX3_stepFor 49 = .ok (.istore_n 3, 1) := by decide +kernel
theorem dX3_stepFor_50 : decode cX3_stepFor 50 = .ok (.iinc 4 1, 3) := by decide +kernel
theorem dX3_stepFor_53 : decode cX3_stepFor 53 = .ok (.goto (-44), 3) := by decide +kernel
theorem dX3_stepFor_56 : decode cX3_stepFor 56 = .ok (.iconst (-1), 1) := by decide +kernel
theorem dX3_stepFor_57 : decode cX3_stepFor 57 = .ok (.ireturn, 1) := by decide +kernel
theorem dX3_tally_0 : decode cX3_tally 0 = .ok (.iload_n 1, 1) := by decide +kernel
theorem dX3_tally_1 : decode cX3_tally 1 = .ok (.tableswitch 43 2 4 #[27, 33, 38], 27) := by decide +kernel
theorem dX3_tally_28 : decode cX3_tally 28 = .ok (.aload_n 0, 1) := by decide +kernel
theorem dX3_tally_29 : decode cX3_tally 29 = .ok (.getfield 30, 3) := by decide +kernel
theorem dX3_tally_32 : decode cX3_tally 32 = .ok (.arraylength, 1) := by decide +kernel
theorem dX3_tally_33 : decode cX3_tally 33 = .ok (.ireturn, 1) := by decide +kernel
theorem dX3_tally_34 : decode cX3_tally 34 = .ok (.aload_n 0, 1) := by decide +kernel
theorem dX3_tally_35 : decode cX3_tally 35 = .ok (.invokevirtual 92, 3) := by decide +kernel
theorem dX3_tally_38 : decode cX3_tally 38 = .ok (.ireturn, 1) := by decide +kernel
theorem dX3_tally_39 : decode cX3_tally 39 = .ok (.aload_n 0, 1) := by decide +kernel
theorem dX3_tally_40 : decode cX3_tally 40 = .ok (.getfield 21, 3) := by decide +kernel
theorem dX3_tally_43 : decode cX3_tally 43 = .ok (.ireturn, 1) := by decide +kernel
theorem dX3_tally_44 : decode cX3_tally 44 = .ok (.aload_n 0, 1) := by decide +kernel
theorem dX3_tally_45 : decode cX3_tally 45 = .ok (.invokevirtual 95, 3) := by decide +kernel
theorem dX3_tally_48 : decode cX3_tally 48 = .ok (.ireturn, 1) := by decide +kernel
theorem dX3_characterCount_0 : decode cX3_characterCount 0 = .ok (.iconst 0, 1) := by decide +kernel
theorem dX3_characterCount_1 : decode cX3_characterCount 1 = .ok (.istore_n 1, 1) := by decide +kernel
theorem dX3_characterCount_2 : decode cX3_characterCount 2 = .ok (.iconst 0, 1) := by decide +kernel
theorem dX3_characterCount_3 : decode cX3_characterCount 3 = .ok (.istore_n 2, 1) := by decide +kernel
theorem dX3_characterCount_4 : decode cX3_characterCount 4 = .ok (.iload_n 2, 1) := by decide +kernel
theorem dX3_characterCount_5 : decode cX3_characterCount 5 = .ok (.sipush 256, 3) := by decide +kernel
theorem dX3_characterCount_8 : decode cX3_characterCount 8 = .ok (.if_icmp .ge 21, 3) := by decide +kernel
theorem dX3_characterCount_11 : decode cX3_characterCount 11 = .ok (.aload_n 0, 1) := by decide +kernel
theorem dX3_characterCount_12 : decode cX3_characterCount 12 = .ok (.getfield 18, 3) := by decide +kernel
theorem dX3_characterCount_15 : decode cX3_characterCount 15 = .ok (.iload_n 2, 1) := by decide +kernel
theorem dX3_characterCount_16 : decode cX3_characterCount 16 = .ok (.iaload, 1) := by decide +kernel
theorem dX3_characterCount_17 : decode cX3_characterCount 17 = .ok (.ifCond .eq 6, 3) := by decide +kernel
theorem dX3_characterCount_20 : decode cX3_characterCount 20 = .ok (.iinc 1 1, 3) := by decide +kernel
theorem dX3_characterCount_23 : decode cX3_characterCount 23 = .ok (.iinc 2 1, 3) := by decide +kernel
theorem dX3_characterCount_26 : decode cX3_characterCount 26 = .ok (.goto (-22), 3) := by decide +kernel
theorem dX3_characterCount_29 : decode cX3_characterCount 29 = .ok (.iload_n 1, 1) := by decide +kernel
theorem dX3_characterCount_30 : decode cX3_characterCount 30 = .ok (.ireturn, 1) := by decide +kernel
theorem dX4_init_0 : decode cX4_init 0 = .ok (.aload_n 0, 1) := by decide +kernel
theorem dX4_init_1 : decode cX4_init 1 = .ok (.invokespecial 3, 3) := by decide +kernel
theorem dX4_init_4 : decode cX4_init 4 = .ok (.aload_n 0, 1) := by decide +kernel
theorem dX4_init_5 : decode cX4_init 5 = .ok (.sipush 1000, 3) := by decide +kernel
theorem dX4_init_8 : decode cX4_init 8 = .ok (.newarray .int, 2) := by decide +kernel
theorem dX4_init_10 : decode cX4_init 10 = .ok (.putfield 11, 3) := by decide +kernel
theorem dX4_init_13 : decode cX4_init 13 = .ok (.aload_n 0, 1) := by decide +kernel
theorem dX4_init_14 : decode cX4_init 14 = .ok (.sipush 1000, 3) := by decide +kernel
theorem dX4_init_17 : decode cX4_init 17 = .ok (.newarray .int, 2) := by decide +kernel
theorem dX4_init_19 : decode cX4_init 19 = .ok (.putfield 15, 3) := by decide +kernel
theorem dX4_init_22 : decode cX4_init 22 = .ok (.aload_n 0, 1) := by decide +kernel
theorem dX4_init_23 : decode cX4_init 23 = .ok (.iconst 0, 1) := by decide +kernel
theorem dX4_init_24 : decode cX4_init 24 = .ok (.putfield 18, 3) := by decide +kernel
theorem dX4_init_27 : decode cX4_init 27 = .ok (.aload_n 0, 1) := by decide +kernel
theorem dX4_init_28 : decode cX4_init 28 = .ok (.lconst 0, 1) := by decide +kernel
theorem dX4_init_29 : decode cX4_init 29 = .ok (.putfield 22, 3) := by decide +kernel
theorem dX4_init_32 : decode cX4_init 32 = .ok (.aload_n 0, 1) := by decide +kernel
theorem dX4_init_33 : decode cX4_init 33 = .ok (.iconst 3, 1) := by decide +kernel
theorem dX4_init_34 : decode cX4_init 34 = .ok (.putfield 26, 3) := by decide +kernel
theorem dX4_init_37 : decode cX4_init 37 = .ok (.aload_n 0, 1) := by decide +kernel
theorem dX4_init_38 : decode cX4_init 38 = .ok (.sipush 256, 3) := by decide +kernel
theorem dX4_init_41 : decode cX4_init 41 = .ok (.putfield 31, 3) := by decide +kernel
theorem dX4_init_44 : decode cX4_init 44 = .ok (.aload_n 0, 1) := by decide +kernel
theorem dX4_init_45 : decode cX4_init 45 = .ok (.sipush 1000, 3) := by decide +kernel
theorem dX4_init_48 : decode cX4_init 48 = .ok (.newarray .int, 2) := by decide +kernel
theorem dX4_init_50 : decode cX4_init 50 = .ok (.putfield 34, 3) := by decide +kernel
theorem dX4_init_53 : decode cX4_init 53 = .ok (.aload_n 0, 1) := by decide +kernel
theorem dX4_init_54 : decode cX4_init 54 = .ok (.sipush 1000, 3) := by decide +kernel
theorem dX4_init_57 : decode cX4_init 57 = .ok (.newarray .int, 2) := by decide +kernel
theorem dX4_init_59 : decode cX4_init 59 = .ok (.putfield 37, 3) := by decide +kernel
theorem dX4_init_62 : decode cX4_init 62 = .ok (.aload_n 0, 1) := by decide +kernel
theorem dX4_init_63 : decode cX4_init 63 = .ok (.iconst 0, 1) := by decide +kernel
theorem dX4_init_64 : decode cX4_init 64 = .ok (.putfield 40, 3) := by decide +kernel
theorem dX4_init_67 : decode cX4_init 67 = .ok (.aload_n 0, 1) := by decide +kernel
theorem dX4_init_68 : decode cX4_init 68 = .ok (.iconst 0, 1) := by decide +kernel
theorem dX4_init_69 : decode cX4_init 69 = .ok (.putfield 43, 3) := by decide +kernel
theorem dX4_init_72 : decode cX4_init 72 = .ok (.return_, 1) := by decide +kernel
theorem dX4_forget_0 : decode cX4_forget 0 = .ok (.aload_n 0, 1) := by decide +kernel
theorem dX4_forget_1 : decode cX4_forget 1 = .ok (.iconst 0, 1) := by decide +kernel
theorem dX4_forget_2 : decode cX4_forget 2 = .ok (.putfield 18, 3) := by decide +kernel
theorem dX4_forget_5 : decode cX4_forget 5 = .ok (.aload_n 0, 1) := by decide +kernel
theorem dX4_forget_6 : decode cX4_forget 6 = .ok (.lconst 0, 1) := by decide +kernel
theorem dX4_forget_7 : decode cX4_forget 7 = .ok (.putfield 22, 3) := by decide +kernel
theorem dX4_forget_10 : decode cX4_forget 10 = .ok (.return_, 1) := by decide +kernel
theorem dX4_begin_0 : decode cX4_begin 0 = .ok (.aload_n 0, 1) := by decide +kernel
theorem dX4_begin_1 : decode cX4_begin 1 = .ok (.invokevirtual 46, 3) := by decide +kernel
theorem dX4_begin_4 : decode cX4_begin 4 = .ok (.aload_n 2, 1) := by decide +kernel
theorem dX4_begin_5 : decode cX4_begin 5 = .ok (.invokevirtual 49, 3) := by decide +kernel
theorem dX4_begin_8 : decode cX4_begin 8 = .ok (.sipush 200, 3) := by decide +kernel
theorem dX4_begin_11 : decode cX4_begin 11 = .ok (.if_icmp .le 5, 3) := by decide +kernel
theorem dX4_begin_14 : decode cX4_begin 14 = .ok (.iconst 0, 1) := by decide +kernel
theorem dX4_begin_15 : decode cX4_begin 15 = .ok (.ireturn, 1) := by decide +kernel
theorem dX4_begin_16 : decode cX4_begin 16 = .ok (.aload_n 0, 1) := by decide +kernel
theorem dX4_begin_17 : decode cX4_begin 17 = .ok (.iconst 0, 1) := by decide +kernel
theorem dX4_begin_18 : decode cX4_begin 18 = .ok (.putfield 40, 3) := by decide +kernel
theorem dX4_begin_21 : decode cX4_begin 21 = .ok (.aload_n 0, 1) := by decide +kernel
theorem dX4_begin_22 : decode cX4_begin 22 = .ok (.iconst 3, 1) := by decide +kernel
theorem dX4_begin_23 : decode cX4_begin 23 = .ok (.aload_n 1, 1) := by decide +kernel
theorem dX4_begin_24 : decode cX4_begin 24 = .ok (.invokevirtual 55, 3) := by decide +kernel
theorem dX4_begin_27 : decode cX4_begin 27 = .ok (.invokevirtual 58, 3) := by decide +kernel
theorem dX4_begin_30 : decode cX4_begin 30 = .ok (.aload_n 2, 1) := by decide +kernel
theorem dX4_begin_31 : decode cX4_begin 31 = .ok (.invokevirtual 49, 3) := by decide +kernel
theorem dX4_begin_34 : decode cX4_begin 34 = .ok (.iconst 1, 1) := by decide +kernel
theorem dX4_begin_35 : decode cX4_begin 35 = .ok (.isub, 1) := by decide +kernel
theorem dX4_begin_36 : decode cX4_begin 36 = .ok (.istore_n 3, 1) := by decide +kernel
theorem dX4_begin_37 : decode cX4_begin 37 = .ok (.iload_n 3, 1) := by decide +kernel
theorem dX4_begin_38 : decode cX4_begin 38 = .ok (.ifCond .lt 33, 3) := by decide +kernel
theorem dX4_begin_41 : decode cX4_begin 41 = .ok (.aload_n 1, 1) := by decide +kernel
theorem dX4_begin_42 : decode cX4_begin 42 = .ok (.aload_n 2, 1) := by decide +kernel
theorem dX4_begin_43 : decode cX4_begin 43 = .ok (.iload_n 3, 1) := by decide +kernel
theorem dX4_begin_44 : decode cX4_begin 44 = .ok (.invokevirtual 62, 3) := by decide +kernel
theorem dX4_begin_47 : decode cX4_begin 47 = .ok (.invokevirtual 66, 3) := by decide +kernel
theorem dX4_begin_50 : decode cX4_begin 50 = .ok (.ifCond .ne 5, 3) := by decide +kernel
theorem dX4_begin_53 : decode cX4_begin 53 = .ok (.iconst 0, 1) := by decide +kernel
theorem dX4_begin_54 : decode cX4_begin 54 = .ok (.ireturn, 1) := by decide +kernel
theorem dX4_begin_55 : decode cX4_begin 55 = .ok (.aload_n 0, 1) := by decide +kernel
theorem dX4_begin_56 : decode cX4_begin 56 = .ok (.iconst 0, 1) := by decide +kernel
theorem dX4_begin_57 : decode cX4_begin 57 = .ok (.aload_n 2, 1) := by decide +kernel
theorem dX4_begin_58 : decode cX4_begin 58 = .ok (.iload_n 3, 1) := by decide +kernel
theorem dX4_begin_59 : decode cX4_begin 59 = .ok (.invokevirtual 62, 3) := by decide +kernel
theorem dX4_begin_62 : decode cX4_begin 62 = .ok (.invokevirtual 58, 3) := by decide +kernel
theorem dX4_begin_65 : decode cX4_begin 65 = .ok (.iinc 3 (-1), 3) := by decide +kernel
theorem dX4_begin_68 : decode cX4_begin 68 = .ok (.goto (-31), 3) := by decide +kernel
theorem dX4_begin_71 : decode cX4_begin 71 = .ok (.aload_n 0, 1) := by decide +kernel
theorem dX4_begin_72 : decode cX4_begin 72 = .ok (.iconst 3, 1) := by decide +kernel
theorem dX4_begin_73 : decode cX4_begin 73 = .ok (.putfield 26, 3) := by decide +kernel
theorem dX4_begin_76 : decode cX4_begin 76 = .ok (.aload_n 0, 1) := by decide +kernel
theorem dX4_begin_77 : decode cX4_begin 77 = .ok (.sipush 256, 3) := by decide +kernel
theorem dX4_begin_80 : decode cX4_begin 80 = .ok (.putfield 31, 3) := by decide +kernel
theorem dX4_begin_83 : decode cX4_begin 83 = .ok (.aload_n 0, 1) := by decide +kernel
theorem dX4_begin_84 : decode cX4_begin 84 = .ok (.aload_n 2, 1) := by decide +kernel
theorem dX4_begin_85 : decode cX4_begin 85 = .ok (.invokevirtual 49, 3) := by decide +kernel
theorem dX4_begin_88 : decode cX4_begin 88 = .ok (.iconst 2, 1) := by decide +kernel
theorem dX4_begin_89 : decode cX4_begin 89 = .ok (.iadd, 1) := by decide +kernel
theorem dX4_begin_90 : decode cX4_begin 90 = .ok (.putfield 43, 3) := by decide +kernel
theorem dX4_begin_93 : decode cX4_begin 93 = .ok (.iconst 1, 1) := by decide +kernel
theorem dX4_begin_94 : decode cX4_begin 94 = .ok (.ireturn, 1) := by decide +kernel
theorem dX4_run_0 : decode cX4_run 0 = .ok (.iconst 0, 1) := by decide +kernel
theorem dX4_run_1 : decode cX4_run 1 = .ok (.istore_n 2, 1) := by decide +kernel
theorem dX4_run_2 : decode cX4_run 2 = .ok (.iload_n 2, 1) := by decide +kernel
theorem dX4_run_3 : decode cX4_run 3 = .ok (.sipush 10000, 3) := by decide +kernel
theorem dX4_run_6 : decode cX4_run 6 = .ok (.if_icmp .ge 85, 3) := by decide +kernel
theorem dX4_run_9 : decode cX4_run 9 = .ok (.aload_n 0, 1) := by decide +kernel
theorem dX4_run_10 : decode cX4_run 10 = .ok (.getfield 40, 3) := by decide +kernel
theorem dX4_run_13 : decode cX4_run 13 = .ok (.ifCond .le 78, 3) := by decide +kernel
theorem dX4_run_16 : decode cX4_run 16 = .ok (.aload_n 0, 1) := by decide +kernel
theorem dX4_run_17 : decode cX4_run 17 = .ok (.getfield 43, 3) := by decide +kernel
theorem dX4_run_20 : decode cX4_run 20 = .ok (.sipush 1000, 3) := by decide +kernel
theorem dX4_run_23 : decode cX4_run 23 = .ok (.if_icmp .gt 68, 3) := by decide +kernel
theorem dX4_run_26 : decode cX4_run 26 = .ok (.aload_n 1, 1) := by decide +kernel
theorem dX4_run_27 : decode cX4_run 27 = .ok (.aload_n 0, 1) := by decide +kernel
theorem dX4_run_28 : decode cX4_run 28 = .ok (.getfield 31, 3) := by decide +kernel
theorem dX4_run_31 : decode cX4_run 31 = .ok (.aload_n 0, 1) := by decide +kernel
theorem dX4_run_32 : decode cX4_run 32 = .ok (.invokevirtual 70, 3) := by decide +kernel
theorem dX4_run_35 : decode cX4_run 35 = .ok (.invokevirtual 73, 3) := by decide +kernel
theorem dX4_run_38 : decode cX4_run 38 = .ok (.istore_n 3, 1) := by decide +kernel
theorem dX4_run_39 : decode cX4_run 39 = .ok (.iload_n 3, 1) := by decide +kernel
theorem dX4_run_40 : decode cX4_run 40 = .ok (.iconst (-1), 1) := by decide +kernel
theorem dX4_run_41 : decode cX4_run 41 = .ok (.if_icmp .ne 10, 3) := by decide +kernel
theorem dX4_run_44 : decode cX4_run 44 = .ok (.aload_n 0, 1) := by decide +kernel
theorem dX4_run_45 : decode cX4_run 45 = .ok (.invokevirtual 77, 3) := by decide +kernel
theorem dX4_run_48 : decode cX4_run 48 = .ok (.goto 37, 3) := by decide +kernel
theorem dX4_run_51 : decode cX4_run 51 = .ok (.aload_n 1, 1) := by decide +kernel
theorem dX4_run_52 : decode cX4_run 52 = .ok (.iload_n 3, 1) := by decide +kernel
theorem dX4_run_53 : decode cX4_run 53 = .ok (.invokevirtual 80, 3) := by decide +kernel
theorem dX4_run_56 : decode cX4_run 56 = .ok (.ifCond .eq 15, 3) := by decide +kernel
theorem dX4_run_59 : decode cX4_run 59 = .ok (.aload_n 0, 1) := by decide +kernel
theorem dX4_run_60 : decode cX4_run 60 = .ok (.aload_n 1, 1) := by decide +kernel
theorem dX4_run_61 : decode cX4_run 61 = .ok (.iload_n 3, 1) := by decide +kernel
theorem dX4_run_62 : decode cX4_run 62 = .ok (.invokevirtual 83, 3) := by decide +kernel
theorem dX4_run_65 : decode cX4_run 65 = .ok (.invokevirtual 86, 3) := by decide +kernel
theorem dX4_run_68 : decode cX4_run 68 = .ok (.goto 17, 3) := by decide +kernel
theorem dX4_run_71 : decode cX4_run 71 = .ok (.aload_n 0, 1) := by decide +kernel
theorem dX4_run_72 : decode cX4_run 72 = .ok (.aload_n 1, 1) := by decide +kernel
theorem dX4_run_73 : decode cX4_run 73 = .ok (.iload_n 3, 1) := by decide +kernel
theorem dX4_run_74 : decode cX4_run 74 = .ok (.invokevirtual 90, 3) := by decide +kernel
theorem dX4_run_77 : decode cX4_run 77 = .ok (.aload_n 1, 1) := by decide +kernel
theorem dX4_run_78 : decode cX4_run 78 = .ok (.iload_n 3, 1) := by decide +kernel
theorem dX4_run_79 : decode cX4_run 79 = .ok (.invokevirtual 93, 3) := by decide +kernel
theorem dX4_run_82 : decode cX4_run 82 = .ok (.invokevirtual 96, 3) := by decide +kernel
theorem dX4_run_85 : decode cX4_run 85 = .ok (.iinc 2 1, 3) := by decide +kernel
theorem dX4_run_88 : decode cX4_run 88 = .ok (.goto (-86), 3) := by decide +kernel
theorem dX4_run_91 : decode cX4_run 91 = .ok (.aload_n 0, 1) := by decide +kernel
theorem dX4_run_92 : decode cX4_run 92 = .ok (.getfield 40, 3) := by decide +kernel
theorem dX4_run_95 : decode cX4_run 95 = .ok (.ifCond .gt 13, 3) := by decide +kernel
theorem dX4_run_98 : decode cX4_run 98 = .ok (.aload_n 0, 1) := by decide +kernel
theorem dX4_run_99 : decode cX4_run 99 = .ok (.getfield 43, 3) := by decide +kernel
theorem dX4_run_102 : decode cX4_run 102 = .ok (.sipush 1000, 3) := by decide +kernel
theorem dX4_run_105 : decode cX4_run 105 = .ok (.if_icmp .le 5, 3) := by decide +kernel
theorem dX4_run_108 : decode cX4_run 108 = .ok (.iconst 0, 1) := by decide +kernel
theorem dX4_run_109 : decode cX4_run 109 = .ok (.ireturn, 1) := by decide +kernel
theorem dX4_run_110 : decode cX4_run 110 = .ok (.aload_n 0, 1) := by decide +kernel
theorem dX4_run_111 : decode cX4_run 111 = .ok (.invokevirtual 99, 3) := by decide +kernel
theorem dX4_run_114 : decode cX4_run 114 = .ok (.aload_n 0, 1) := by decide +kernel
theorem dX4_run_115 : decode cX4_run 115 = .ok (.aload_n 1, 1) := by decide +kernel
theorem dX4_run_116 : decode cX4_run 116 = .ok (.invokevirtual 102, 3) := by decide +kernel
end
section
theorem dX4_run_119 : decode cX4_run 119 = .ok (.iconst 1, 1) := by decide +kernel
theorem dX4_run_120 : decode cX4_run 120 = .ok (.ireturn, 1) := by decide +kernel
theorem dX4_nextCode_0 : decode cX4_nextCode 0 = .ok (.aload_n 0, 1) := by decide +kernel
theorem dX4_nextCode_1 : decode cX4_nextCode 1 = .ok (.getfield 40, 3) := by decide +kernel
theorem dX4_nextCode_4 : decode cX4_nextCode 4 = .ok (.ifCond .le 27, 3) := by decide +kernel
theorem dX4_nextCode_7 : decode cX4_nextCode 7 = .ok (.aload_n 0, 1) := by decide +kernel
theorem dX4_nextCode_8 : decode cX4_nextCode 8 = .ok (.getfield 40, 3) := by decide +kernel
theorem dX4_nextCode_11 : decode cX4_nextCode 11 = .ok (.sipush 1000, 3) := by decide +kernel
theorem dX4_nextCode_14 : decode cX4_nextCode 14 = .ok (.if_icmp .gt 17, 3) := by decide +kernel
theorem dX4_nextCode_17 : decode cX4_nextCode 17 = .ok (.aload_n 0, 1) := by decide +kernel
theorem dX4_nextCode_18 : decode cX4_nextCode 18 = .ok (.getfield 37, 3) := by decide +kernel
theorem dX4_nextCode_21 : decode cX4_nextCode 21 = .ok (.aload_n 0, 1) := by decide +kernel
theorem dX4_nextCode_22 : decode cX4_nextCode 22 = .ok (.getfield 40, 3) := by decide +kernel
theorem dX4_nextCode_25 : decode cX4_nextCode 25 = .ok (.iconst 1, 1) := by decide +kernel
theorem dX4_nextCode_26 : decode cX4_nextCode 26 = .ok (.isub, 1) := by decide +kernel
theorem dX4_nextCode_27 : decode cX4_nextCode 27 = .ok (.iaload, 1) := by decide +kernel
theorem dX4_nextCode_28 : decode cX4_nextCode 28 = .ok (.goto 4, 3) := by decide +kernel
theorem dX4_nextCode_31 : decode cX4_nextCode 31 = .ok (.iconst (-1), 1) := by decide +kernel
theorem dX4_nextCode_32 : decode cX4_nextCode 32 = .ok (.ireturn, 1) := by decide +kernel
theorem dX4_kern_0 : decode cX4_kern 0 = .ok (.aload_n 0, 1) := by decide +kernel
theorem dX4_kern_1 : decode cX4_kern 1 = .ok (.dup, 1) := by decide +kernel
theorem dX4_kern_2 : decode cX4_kern 2 = .ok (.getfield 43, 3) := by decide +kernel
theorem dX4_kern_5 : decode cX4_kern 5 = .ok (.iconst 1, 1) := by decide +kernel
theorem dX4_kern_6 : decode cX4_kern 6 = .ok (.iadd, 1) := by decide +kernel
theorem dX4_kern_7 : decode cX4_kern 7 = .ok (.putfield 43, 3) := by decide +kernel
theorem dX4_kern_10 : decode cX4_kern 10 = .ok (.aload_n 0, 1) := by decide +kernel
theorem dX4_kern_11 : decode cX4_kern 11 = .ok (.getfield 43, 3) := by decide +kernel
theorem dX4_kern_14 : decode cX4_kern 14 = .ok (.sipush 1000, 3) := by decide +kernel
theorem dX4_kern_17 : decode cX4_kern 17 = .ok (.if_icmp .le 4, 3) := by decide +kernel
theorem dX4_kern_20 : decode cX4_kern 20 = .ok (.return_, 1) := by decide +kernel
theorem dX4_kern_21 : decode cX4_kern 21 = .ok (.aload_n 0, 1) := by decide +kernel
theorem dX4_kern_22 : decode cX4_kern 22 = .ok (.invokevirtual 99, 3) := by decide +kernel
theorem dX4_kern_25 : decode cX4_kern 25 = .ok (.aload_n 0, 1) := by decide +kernel
theorem dX4_kern_26 : decode cX4_kern 26 = .ok (.iconst 2, 1) := by decide +kernel
theorem dX4_kern_27 : decode cX4_kern 27 = .ok (.iload_n 1, 1) := by decide +kernel
theorem dX4_kern_28 : decode cX4_kern 28 = .ok (.invokevirtual 106, 3) := by decide +kernel
theorem dX4_kern_31 : decode cX4_kern 31 = .ok (.aload_n 0, 1) := by decide +kernel
theorem dX4_kern_32 : decode cX4_kern 32 = .ok (.invokevirtual 109, 3) := by decide +kernel
theorem dX4_kern_35 : decode cX4_kern 35 = .ok (.return_, 1) := by decide +kernel
theorem dX4_ligature_0 : decode cX4_ligature 0 = .ok (.iload_n 1, 1) := by decide +kernel
theorem dX4_ligature_1 : decode cX4_ligature 1 = .ok (.tableswitch 92 0 6 #[43, 65, 73, 92, 92, 65, 73], 43) := by decide +kernel
theorem dX4_ligature_44 : decode cX4_ligature 44 = .ok (.aload_n 0, 1) := by decide +kernel
theorem dX4_ligature_45 : decode cX4_ligature 45 = .ok (.invokevirtual 109, 3) := by decide +kernel
theorem dX4_ligature_48 : decode cX4_ligature 48 = .ok (.aload_n 0, 1) := by decide +kernel
theorem dX4_ligature_49 : decode cX4_ligature 49 = .ok (.dup, 1) := by decide +kernel
theorem dX4_ligature_50 : decode cX4_ligature 50 = .ok (.getfield 43, 3) := by decide +kernel
theorem dX4_ligature_53 : decode cX4_ligature 53 = .ok (.iconst 1, 1) := by decide +kernel
theorem dX4_ligature_54 : decode cX4_ligature 54 = .ok (.isub, 1) := by decide +kernel
theorem dX4_ligature_55 : decode cX4_ligature 55 = .ok (.putfield 43, 3) := by decide +kernel
theorem dX4_ligature_58 : decode cX4_ligature 58 = .ok (.aload_n 0, 1) := by decide +kernel
theorem dX4_ligature_59 : decode cX4_ligature 59 = .ok (.iload_n 2, 1) := by decide +kernel
theorem dX4_ligature_60 : decode cX4_ligature 60 = .ok (.invokevirtual 112, 3) := by decide +kernel
theorem dX4_ligature_63 : decode cX4_ligature 63 = .ok (.goto 46, 3) := by decide +kernel
theorem dX4_ligature_66 : decode cX4_ligature 66 = .ok (.aload_n 0, 1) := by decide +kernel
theorem dX4_ligature_67 : decode cX4_ligature 67 = .ok (.iload_n 2, 1) := by decide +kernel
theorem dX4_ligature_68 : decode cX4_ligature 68 = .ok (.invokevirtual 112, 3) := by decide +kernel
theorem dX4_ligature_71 : decode cX4_ligature 71 = .ok (.goto 38, 3) := by decide +kernel
theorem dX4_ligature_74 : decode cX4_ligature 74 = .ok (.aload_n 0, 1) := by decide +kernel
theorem dX4_ligature_75 : decode cX4_ligature 75 = .ok (.dup, 1) := by decide +kernel
theorem dX4_ligature_76 : decode cX4_ligature 76 = .ok (.getfield 40, 3) := by decide +kernel
theorem dX4_ligature_79 : decode cX4_ligature 79 = .ok (.iconst 1, 1) := by decide +kernel
theorem dX4_ligature_80 : decode cX4_ligature 80 = .ok (.isub, 1) := by decide +kernel
theorem dX4_ligature_81 : decode cX4_ligature 81 = .ok (.putfield 40, 3) := by decide +kernel
theorem dX4_ligature_84 : decode cX4_ligature 84 = .ok (.aload_n 0, 1) := by decide +kernel
theorem dX4_ligature_85 : decode cX4_ligature 85 = .ok (.iconst 1, 1) := by decide +kernel
theorem dX4_ligature_86 : decode cX4_ligature 86 = .ok (.iload_n 2, 1) := by decide +kernel
theorem dX4_ligature_87 : decode cX4_ligature 87 = .ok (.invokevirtual 58, 3) := by decide +kernel
theorem dX4_ligature_90 : decode cX4_ligature 90 = .ok (.goto 19, 3) := by decide +kernel
theorem dX4_ligature_93 : decode cX4_ligature 93 = .ok (.aload_n 0, 1) := by decide +kernel
theorem dX4_ligature_94 : decode cX4_ligature 94 = .ok (.dup, 1) := by decide +kernel
theorem dX4_ligature_95 : decode cX4_ligature 95 = .ok (.getfield 43, 3) := by decide +kernel
theorem dX4_ligature_98 : decode cX4_ligature 98 = .ok (.iconst 1, 1) := by decide +kernel
theorem dX4_ligature_99 : decode cX4_ligature 99 = .ok (.iadd, 1) := by decide +kernel
theorem dX4_ligature_100 : decode cX4_ligature 100 = .ok (.putfield 43, 3) := by decide +kernel
theorem dX4_ligature_103 : decode cX4_ligature 103 = .ok (.aload_n 0, 1) := by decide +kernel
theorem dX4_ligature_104 : decode cX4_ligature 104 = .ok (.iconst 1, 1) := by decide +kernel
theorem dX4_ligature_105 : decode cX4_ligature 105 = .ok (.iload_n 2, 1) := by decide +kernel
theorem dX4_ligature_106 : decode cX4_ligature 106 = .ok (.invokevirtual 58, 3) := by decide +kernel
theorem dX4_ligature_109 : decode cX4_ligature 109 = .ok (.iload_n 1, 1) := by decide +kernel
theorem dX4_ligature_110 : decode cX4_ligature 110 = .ok (.bipush 11, 2) := by decide +kernel
theorem dX4_ligature_112 : decode cX4_ligature 112 = .ok (.if_icmp .ne 7, 3) := by decide +kernel
theorem dX4_ligature_115 : decode cX4_ligature 115 = .ok (.iconst 2, 1) := by decide +kernel
theorem dX4_ligature_116 : decode cX4_ligature 116 = .ok (.goto 13, 3) := by decide +kernel
theorem dX4_ligature_119 : decode cX4_ligature 119 = .ok (.iload_n 1, 1) := by decide +kernel
theorem dX4_ligature_120 : decode cX4_ligature 120 = .ok (.iconst 5, 1) := by decide +kernel
theorem dX4_ligature_121 : decode cX4_ligature 121 = .ok (.if_icmp .lt 7, 3) := by decide +kernel
theorem dX4_ligature_124 : decode cX4_ligature 124 = .ok (.iconst 1, 1) := by decide +kernel
theorem dX4_ligature_125 : decode cX4_ligature 125 = .ok (.goto 4, 3) := by decide +kernel
theorem dX4_ligature_128 : decode cX4_ligature 128 = .ok (.iconst 0, 1) := by decide +kernel
theorem dX4_ligature_129 : decode cX4_ligature 129 = .ok (.istore_n 3, 1) := by decide +kernel
theorem dX4_ligature_130 : decode cX4_ligature 130 = .ok (.iconst 0, 1) := by decide +kernel
theorem dX4_ligature_131 : decode cX4_ligature 131 = .ok (.istore 4, 2) := by decide +kernel
theorem dX4_ligature_133 : decode cX4_ligature 133 = .ok (.iload 4, 2) := by decide +kernel
theorem dX4_ligature_135 : decode cX4_ligature 135 = .ok (.iload_n 3, 1) := by decide +kernel
theorem dX4_ligature_136 : decode cX4_ligature 136 = .ok (.if_icmp .ge 23, 3) := by decide +kernel
theorem dX4_ligature_139 : decode cX4_ligature 139 = .ok (.aload_n 0, 1) := by decide +kernel
theorem dX4_ligature_140 : decode cX4_ligature 140 = .ok (.getfield 43, 3) := by decide +kernel
theorem dX4_ligature_143 : decode cX4_ligature 143 = .ok (.sipush 1000, 3) := by decide +kernel
theorem dX4_ligature_146 : decode cX4_ligature 146 = .ok (.if_icmp .gt 13, 3) := by decide +kernel
theorem dX4_ligature_149 : decode cX4_ligature 149 = .ok (.aload_n 0, 1) := by decide +kernel
theorem dX4_ligature_150 : decode cX4_ligature 150 = .ok (.invokevirtual 77, 3) := by decide +kernel
theorem dX4_ligature_153 : decode cX4_ligature 153 = .ok (.iinc 4 1, 3) := by decide +kernel
theorem dX4_ligature_156 : decode cX4_ligature 156 = .ok (.goto (-23), 3) := by decide +kernel
theorem dX4_ligature_159 : decode cX4_ligature 159 = .ok (.return_, 1) := by decide +kernel
theorem dX4_becomeLigature_0 : decode cX4_becomeLigature 0 = .ok (.aload_n 0, 1) := by decide +kernel
theorem dX4_becomeLigature_1 : decode cX4_becomeLigature 1 = .ok (.iconst 1, 1) := by decide +kernel
theorem dX4_becomeLigature_2 : decode cX4_becomeLigature 2 = .ok (.putfield 26, 3) := by decide +kernel
theorem dX4_becomeLigature_5 : decode cX4_becomeLigature 5 = .ok (.aload_n 0, 1) := by decide +kernel
theorem dX4_becomeLigature_6 : decode cX4_becomeLigature 6 = .ok (.iload_n 1, 1) := by decide +kernel
theorem dX4_becomeLigature_7 : decode cX4_becomeLigature 7 = .ok (.putfield 31, 3) := by decide +kernel
theorem dX4_becomeLigature_10 : decode cX4_becomeLigature 10 = .ok (.return_, 1) := by decide +kernel
theorem dX4_goOn_0 : decode cX4_goOn 0 = .ok (.aload_n 0, 1) := by decide +kernel
theorem dX4_goOn_1 : decode cX4_goOn 1 = .ok (.invokevirtual 99, 3) := by decide +kernel
theorem dX4_goOn_4 : decode cX4_goOn 4 = .ok (.aload_n 0, 1) := by decide +kernel
theorem dX4_goOn_5 : decode cX4_goOn 5 = .ok (.invokevirtual 109, 3) := by decide +kernel
theorem dX4_goOn_8 : decode cX4_goOn 8 = .ok (.return_, 1) := by decide +kernel
theorem dX4_passSign_0 : decode cX4_passSign 0 = .ok (.aload_n 0, 1) := by decide +kernel
theorem dX4_passSign_1 : decode cX4_passSign 1 = .ok (.getfield 26, 3) := by decide +kernel
theorem dX4_passSign_4 : decode cX4_passSign 4 = .ok (.iconst 3, 1) := by decide +kernel
theorem dX4_passSign_5 : decode cX4_passSign 5 = .ok (.if_icmp .eq 15, 3) := by decide +kernel
theorem dX4_passSign_8 : decode cX4_passSign 8 = .ok (.aload_n 0, 1) := by decide +kernel
theorem dX4_passSign_9 : decode cX4_passSign 9 = .ok (.aload_n 0, 1) := by decide +kernel
theorem dX4_passSign_10 : decode cX4_passSign 10 = .ok (.getfield 26, 3) := by decide +kernel
theorem dX4_passSign_13 : decode cX4_passSign 13 = .ok (.aload_n 0, 1) := by decide +kernel
theorem dX4_passSign_14 : decode cX4_passSign 14 = .ok (.getfield 31, 3) := by decide +kernel
theorem dX4_passSign_17 : decode cX4_passSign 17 = .ok (.invokevirtual 106, 3) := by decide +kernel
theorem dX4_passSign_20 : decode cX4_passSign 20 = .ok (.return_, 1) := by decide +kernel
theorem dX4_addItem_0 : decode cX4_addItem 0 = .ok (.aload_n 0, 1) := by decide +kernel
theorem dX4_addItem_1 : decode cX4_addItem 1 = .ok (.getfield 18, 3) := by decide +kernel
theorem dX4_addItem_4 : decode cX4_addItem 4 = .ok (.ifCond .lt 43, 3) := by decide +kernel
theorem dX4_addItem_7 : decode cX4_addItem 7 = .ok (.aload_n 0, 1) := by decide +kernel
theorem dX4_addItem_8 : decode cX4_addItem 8 = .ok (.getfield 18, 3) := by decide +kernel
theorem dX4_addItem_11 : decode cX4_addItem 11 = .ok (.sipush 1000, 3) := by decide +kernel
theorem dX4_addItem_14 : decode cX4_addItem 14 = .ok (.if_icmp .ge 33, 3) := by decide +kernel
theorem dX4_addItem_17 : decode cX4_addItem 17 = .ok (.aload_n 0, 1) := by decide +kernel
theorem dX4_addItem_18 : decode cX4_addItem 18 = .ok (.getfield 11, 3) := by decide +kernel
theorem dX4_addItem_21 : decode cX4_addItem 21 = .ok (.aload_n 0, 1) := by decide +kernel
theorem dX4_addItem_22 : decode cX4_addItem 22 = .ok (.getfield 18, 3) := by decide +kernel
theorem dX4_addItem_25 : decode cX4_addItem 25 = .ok (.iload_n 1, 1) := by decide +kernel
theorem dX4_addItem_26 : decode cX4_addItem 26 = .ok (.iastore, 1) := by decide +kernel
theorem dX4_addItem_27 : decode cX4_addItem 27 = .ok (.aload_n 0, 1) := by decide +kernel
theorem dX4_addItem_28 : decode cX4_addItem 28 = .ok (.getfield 15, 3) := by decide +kernel
theorem dX4_addItem_31 : decode cX4_addItem 31 = .ok (.aload_n 0, 1) := by decide +kernel
theorem dX4_addItem_32 : decode cX4_addItem 32 = .ok (.getfield 18, 3) := by decide +kernel
theorem dX4_addItem_35 : decode cX4_addItem 35 = .ok (.iload_n 2, 1) := by decide +kernel
theorem dX4_addItem_36 : decode cX4_addItem 36 = .ok (.iastore, 1) := by decide +kernel
theorem dX4_addItem_37 : decode cX4_addItem 37 = .ok (.aload_n 0, 1) := by decide +kernel
theorem dX4_addItem_38 : decode cX4_addItem 38 = .ok (.dup, 1) := by decide +kernel
theorem dX4_addItem_39 : decode cX4_addItem 39 = .ok (.getfield 18, 3) := by decide +kernel
theorem dX4_addItem_42 : decode cX4_addItem 42 = .ok (.iconst 1, 1) := by decide +kernel
theorem dX4_addItem_43 : decode cX4_addItem 43 = .ok (.iadd, 1) := by decide +kernel
theorem dX4_addItem_44 : decode cX4_addItem 44 = .ok (.putfield 18, 3) := by decide +kernel
theorem dX4_addItem_47 : decode cX4_addItem 47 = .ok (.return_, 1) := by decide +kernel
theorem dX4_addUp_0 : decode cX4_addUp 0 = .ok (.iconst 0, 1) := by decide +kernel
theorem dX4_addUp_1 : decode cX4_addUp 1 = .ok (.istore_n 2, 1) := by decide +kernel
theorem dX4_addUp_2 : decode cX4_addUp 2 = .ok (.iload_n 2, 1) := by decide +kernel
theorem dX4_addUp_3 : decode cX4_addUp 3 = .ok (.aload_n 0, 1) := by decide +kernel
theorem dX4_addUp_4 : decode cX4_addUp 4 = .ok (.getfield 18, 3) := by decide +kernel
theorem dX4_addUp_7 : decode cX4_addUp 7 = .ok (.if_icmp .ge 57, 3) := by decide +kernel
theorem dX4_addUp_10 : decode cX4_addUp 10 = .ok (.iload_n 2, 1) := by decide +kernel
theorem dX4_addUp_11 : decode cX4_addUp 11 = .ok (.sipush 1000, 3) := by decide +kernel
theorem dX4_addUp_14 : decode cX4_addUp 14 = .ok (.if_icmp .ge 50, 3) := by decide +kernel
theorem dX4_addUp_17 : decode cX4_addUp 17 = .ok (.aload_n 0, 1) := by decide +kernel
theorem dX4_addUp_18 : decode cX4_addUp 18 = .ok (.dup, 1) := by decide +kernel
theorem dX4_addUp_19 : decode cX4_addUp 19 = .ok (.getfield 22, 3) := by decide +kernel
theorem dX4_addUp_22 : decode cX4_addUp 22 = .ok (.aload_n 0, 1) := by decide +kernel
theorem dX4_addUp_23 : decode cX4_addUp 23 = .ok (.getfield 11, 3) := by decide +kernel
theorem dX4_addUp_26 : decode cX4_addUp 26 = .ok (.iload_n 2, 1) := by decide +kernel
theorem dX4_addUp_27 : decode cX4_addUp 27 = .ok (.iaload, 1) := by decide +kernel
theorem dX4_addUp_28 : decode cX4_addUp 28 = .ok (.iconst 2, 1) := by decide +kernel
theorem dX4_addUp_29 : decode cX4_addUp 29 = .ok (.if_icmp .ne 13, 3) := by decide +kernel
theorem dX4_addUp_32 : decode cX4_addUp 32 = .ok (.aload_n 0, 1) := by decide +kernel
theorem dX4_addUp_33 : decode cX4_addUp 33 = .ok (.getfield 15, 3) := by decide +kernel
theorem dX4_addUp_36 : decode cX4_addUp 36 = .ok (.iload_n 2, 1) := by decide +kernel
theorem dX4_addUp_37 : decode cX4_addUp 37 = .ok (.iaload, 1) := by decide +kernel
theorem dX4_addUp_38 : decode cX4_addUp 38 = .ok (.i2l, 1) := by decide +kernel
theorem dX4_addUp_39 : decode cX4_addUp 39 = .ok (.goto 15, 3) := by decide +kernel
theorem dX4_addUp_42 : decode cX4_addUp 42 = .ok (.aload_n 1, 1) := by decide +kernel
theorem dX4_addUp_43 : decode cX4_addUp 43 = .ok (.aload_n 0, 1) := by decide +kernel
theorem dX4_addUp_44 : decode cX4_addUp 44 = .ok (.getfield 15, 3) := by decide +kernel
theorem dX4_addUp_47 : decode cX4_addUp 47 = .ok (.iload_n 2, 1) := by decide +kernel
theorem dX4_addUp_48 : decode cX4_addUp 48 = .ok (.iaload, 1) := by decide +kernel
theorem dX4_addUp_49 : decode cX4_addUp 49 = .ok (.iconst 0, 1) := by decide +kernel
theorem dX4_addUp_50 : decode cX4_addUp 50 = .ok (.invokevirtual 115, 3) := by decide +kernel
theorem dX4_addUp_53 : decode cX4_addUp 53 = .ok (.i2l, 1) := by decide +kernel
theorem dX4_addUp_54 : decode cX4_addUp 54 = .ok (.ladd, 1) := by decide +kernel
theorem dX4_addUp_55 : decode cX4_addUp 55 = .ok (.putfield 22, 3) := by decide +kernel
theorem dX4_addUp_58 : decode cX4_addUp 58 = .ok (.iinc 2 1, 3) := by decide +kernel
theorem dX4_addUp_61 : decode cX4_addUp 61 = .ok (.goto (-59), 3) := by decide +kernel
theorem dX4_addUp_64 : decode cX4_addUp 64 = .ok (.return_, 1) := by decide +kernel
theorem dX4_push_0 : decode cX4_push 0 = .ok (.aload_n 0, 1) := by decide +kernel
theorem dX4_push_1 : decode cX4_push 1 = .ok (.getfield 40, 3) := by decide +kernel
theorem dX4_push_4 : decode cX4_push 4 = .ok (.ifCond .lt 43, 3) := by decide +kernel
theorem dX4_push_7 : decode cX4_push 7 = .ok (.aload_n 0, 1) := by decide +kernel
theorem dX4_push_8 : decode cX4_push 8 = .ok (.getfield 40, 3) := by decide +kernel
theorem dX4_push_11 : decode cX4_push 11 = .ok (.sipush 1000, 3) := by decide +kernel
theorem dX4_push_14 : decode cX4_push 14 = .ok (.if_icmp .ge 33, 3) := by decide +kernel
theorem dX4_push_17 : decode cX4_push 17 = .ok (.aload_n 0, 1) := by decide +kernel
theorem dX4_push_18 : decode cX4_push 18 = .ok (.getfield 34, 3) := by decide +kernel
theorem dX4_push_21 : decode cX4_push 21 = .ok (.aload_n 0, 1) := by decide +kernel
theorem dX4_push_22 : decode cX4_push 22 = .ok (.getfield 40, 3) := by decide +kernel
theorem dX4_push_25 : decode cX4_push 25 = .ok (.iload_n 1, 1) := by decide +kernel
theorem dX4_push_26 : decode cX4_push 26 = .ok (.iastore, 1) := by decide +kernel
theorem dX4_push_27 : decode cX4_push 27 = .ok (.aload_n 0, 1) := by decide +kernel
theorem dX4_push_28 : decode cX4_push 28 = .ok (.getfield 37, 3) := by decide +kernel
theorem dX4_push_31 : decode cX4_push 31 = .ok (.aload_n 0, 1) := by decide +kernel
theorem dX4_push_32 : decode cX4_push 32 = .ok (.getfield 40, 3) := by decide +kernel
theorem dX4_push_35 : decode cX4_push 35 = .ok (.iload_n 2, 1) := by decide +kernel
theorem dX4_push_36 : decode cX4_push 36 = .ok (.iastore, 1) := by decide +kernel
theorem dX4_push_37 : decode cX4_push 37 = .ok (.aload_n 0, 1) := by decide +kernel
theorem dX4_push_38 : decode cX4_push 38 = .ok (.dup, 1) := by decide +kernel
theorem dX4_push_39 : decode cX4_push 39 = .ok (.getfield 40, 3) := by decide +kernel
theorem dX4_push_42 : decode cX4_push 42 = .ok (.iconst 1, 1) := by decide +kernel
theorem dX4_push_43 : decode cX4_push 43 = .ok (.iadd, 1) := by decide +kernel
theorem dX4_push_44 : decode cX4_push 44 = .ok (.putfield 40, 3) := by decide +kernel
theorem dX4_push_47 : decode cX4_push 47 = .ok (.return_, 1) := by decide +kernel
theorem dX4_pop_0 : decode cX4_pop 0 = .ok (.aload_n 0, 1) := by decide +kernel
theorem dX4_pop_1 : decode cX4_pop 1 = .ok (.getfield 40, 3) := by decide +kernel
theorem dX4_pop_4 : decode cX4_pop 4 = .ok (.ifCond .le 49, 3) := by decide +kernel
theorem dX4_pop_7 : decode cX4_pop 7 = .ok (.aload_n 0, 1) := by decide +kernel
theorem dX4_pop_8 : decode cX4_pop 8 = .ok (.getfield 40, 3) := by decide +kernel
theorem dX4_pop_11 : decode cX4_pop 11 = .ok (.sipush 1000, 3) := by decide +kernel
theorem dX4_pop_14 : decode cX4_pop 14 = .ok (.if_icmp .gt 39, 3) := by decide +kernel
theorem dX4_pop_17 : decode cX4_pop 17 = .ok (.aload_n 0, 1) := by decide +kernel
theorem dX4_pop_18 : decode cX4_pop 18 = .ok (.dup, 1) := by decide +kernel
theorem dX4_pop_19 : decode cX4_pop 19 = .ok (.getfield 40, 3) := by decide +kernel
theorem dX4_pop_22 : decode cX4_pop 22 = .ok (.iconst 1, 1) := by decide +kernel
theorem dX4_pop_23 : decode cX4_pop 23 = .ok (.isub, 1) := by decide +kernel
theorem dX4_pop_24 : decode cX4_pop 24 = .ok (.putfield 40, 3) := by decide +kernel
theorem dX4_pop_27 : decode cX4_pop 27 = .ok (.aload_n 0, 1) := by decide +kernel
theorem dX4_pop_28 : decode cX4_pop 28 = .ok (.aload_n 0, 1) := by decide +kernel
theorem dX4_pop_29 : decode cX4_pop 29 = .ok (.getfield 34, 3) := by decide +kernel
theorem dX4_pop_32 : decode cX4_pop 32 = .ok (.aload_n 0, 1) := by decide +kernel
theorem dX4_pop_33 : decode cX4_pop 33 = .ok (.getfield 40, 3) := by decide +kernel
theorem dX4_pop_36 : decode cX4_pop 36 = .ok (.iaload, 1) := by decide +kernel
theorem dX4_pop_37 : decode cX4_pop 37 = .ok (.putfield 26, 3) := by decide +kernel
theorem dX4_pop_40 : decode cX4_pop 40 = .ok (.aload_n 0, 1) := by decide +kernel
theorem dX4_pop_41 : decode cX4_pop 41 = .ok (.aload_n 0, 1) := by decide +kernel
theorem dX4_pop_42 : decode cX4_pop 42 = .ok (.getfield 37, 3) := by decide +kernel
theorem dX4_pop_45 : decode cX4_pop 45 = .ok (.aload_n 0, 1) := by decide +kernel
theorem dX4_pop_46 : decode cX4_pop 46 = .ok (.getfield 40, 3) := by decide +kernel
theorem dX4_pop_49 : decode cX4_pop 49 = .ok (.iaload, 1) := by decide +kernel
theorem dX4_pop_50 : decode cX4_pop 50 = .ok (.putfield 31, 3) := by decide +kernel
theorem dX4_pop_53 : decode cX4_pop 53 = .ok (.return_, 1) := by decide +kernel
theorem dX4_itemCount_0 : decode cX4_itemCount 0 = .ok (.aload_n 0, 1) := by decide +kernel
theorem dX4_itemCount_1 : decode cX4_itemCount 1 = .ok (.getfield 18, 3) := by decide +kernel
theorem dX4_itemCount_4 : decode cX4_itemCount 4 = .ok (.ireturn, 1) := by decide +kernel
theorem dX4_totalWidth_0 : decode cX4_totalWidth 0 = .ok (.aload_n 0, 1) := by decide +kernel
theorem dX4_totalWidth_1 : decode cX4_totalWidth 1 = .ok (.getfield 22, 3) := by decide +kernel
theorem dX4_totalWidth_4 : decode cX4_totalWidth 4 = .ok (.lreturn, 1) := by decide +kernel
theorem dX4_itemPart_0 : decode cX4_itemPart 0 = .ok (.iload_n 1, 1) := by decide +kernel
theorem dX4_itemPart_1 : decode cX4_itemPart 1 = .ok (.ifCond .lt 18, 3) := by decide +kernel
theorem dX4_itemPart_4 : decode cX4_itemPart 4 = .ok (.iload_n 1, 1) := by decide +kernel
theorem dX4_itemPart_5 : decode cX4_itemPart 5 = .ok (.aload_n 0, 1) := by decide +kernel
theorem dX4_itemPart_6 : decode cX4_itemPart 6 = .ok (.getfield 18, 3) := by decide +kernel
theorem dX4_itemPart_9 : decode cX4_itemPart 9 = .ok (.if_icmp .ge 10, 3) := by decide +kernel
theorem dX4_itemPart_12 : decode cX4_itemPart 12 = .ok (.iload_n 1, 1) := by decide +kernel
theorem dX4_itemPart_13 : decode cX4_itemPart 13 = .ok (.sipush 1000, 3) := by decide +kernel
theorem dX4_itemPart_16 : decode cX4_itemPart 16 = .ok (.if_icmp .lt 5, 3) := by decide +kernel
theorem dX4_itemPart_19 : decode cX4_itemPart 19 = .ok (.iconst (-1), 1) := by decide +kernel
theorem dX4_itemPart_20 : decode cX4_itemPart 20 = .ok (.ireturn, 1) := by decide +kernel
theorem dX4_itemPart_21 : decode cX4_itemPart 21 = .ok (.iload_n 2, 1) := by decide +kernel
theorem dX4_itemPart_22 : decode cX4_itemPart 22 = .ok (.ifCond .ne 12, 3) := by decide +kernel
theorem dX4_itemPart_25 : decode cX4_itemPart 25 = .ok (.aload_n 0, 1) := by decide +kernel
theorem dX4_itemPart_26 : decode cX4_itemPart 26 = .ok (.getfield 11, 3) := by decide +kernel
theorem dX4_itemPart_29 : decode cX4_itemPart 29 = .ok (.iload_n 1, 1) := by decide +kernel
theorem dX4_itemPart_30 : decode cX4_itemPart 30 = .ok (.iaload, 1) := by decide +kernel
theorem dX4_itemPart_31 : decode cX4_itemPart 31 = .ok (.goto 18, 3) := by decide +kernel
theorem dX4_itemPart_34 : decode cX4_itemPart 34 = .ok (.iload_n 2, 1) := by decide +kernel
theorem dX4_itemPart_35 : decode cX4_itemPart 35 = .ok (.iconst 1, 1) := by decide +kernel
theorem dX4_itemPart_36 : decode cX4_itemPart 36 = .ok (.if_icmp .ne 12, 3) := by decide +kernel
theorem dX4_itemPart_39 : decode cX4_itemPart 39 = .ok (.aload_n 0, 1) := by decide +kernel
theorem dX4_itemPart_40 : decode cX4_itemPart 40 = .ok (.getfield 15, 3) := by decide +kernel
theorem dX4_itemPart_43 : decode cX4_itemPart 43 = .ok (.iload_n 1, 1) := by decide +kernel
theorem dX4_itemPart_44 : decode cX4_itemPart 44 = .ok (.iaload, 1) := by decide +kernel
theorem dX4_itemPart_45 : decode cX4_itemPart 45 = .ok (.goto 4, 3) := by decide +kernel
theorem dX4_itemPart_48 : decode cX4_itemPart 48 = .ok (.iconst (-1), 1) := by decide +kernel
theorem dX4_itemPart_49 : decode cX4_itemPart 49 = .ok (.ireturn, 1) := by decide +kernel
theorem dX5_init_0 : decode cX5_init 0 = .ok (.aload_n 0, 1) := by decide +kernel
theorem dX5_init_1 : decode cX5_init 1 = .ok (.invokespecial 1, 3) := by decide +kernel
theorem dX5_init_4 : decode cX5_init 4 = .ok (.aload_n 0, 1) := by decide +kernel
theorem dX5_init_5 : decode cX5_init 5 = .ok (.new 7, 3) := by decide +kernel
theorem dX5_init_8 : decode cX5_init 8 = .ok (.dup, 1) := by decide +kernel
theorem dX5_init_9 : decode cX5_init 9 = .ok (.invokespecial 9, 3) := by decide +kernel
theorem dX5_init_12 : decode cX5_init 12 = .ok (.putfield 10, 3) := by decide +kernel
theorem dX5_init_15 : decode cX5_init 15 = .ok (.aload_n 0, 1) := by decide +kernel
theorem dX5_init_16 : decode cX5_init 16 = .ok (.bipush 32, 2) := by decide +kernel
theorem dX5_init_18 : decode cX5_init 18 = .ok (.anewarray 16, 3) := by decide +kernel
theorem dX5_init_21 : decode cX5_init 21 = .ok (.putfield 18, 3) := by decide +kernel
theorem dX5_init_24 : decode cX5_init 24 = .ok (.aload_n 0, 1) := by decide +kernel
theorem dX5_init_25 : decode cX5_init 25 = .ok (.new 22, 3) := by decide +kernel
theorem dX5_init_28 : decode cX5_init 28 = .ok (.dup, 1) := by decide +kernel
theorem dX5_init_29 : decode cX5_init 29 = .ok (.invokespecial 24, 3) := by decide +kernel
theorem dX5_init_32 : decode cX5_init 32 = .ok (.putfield 25, 3) := by decide +kernel
theorem dX5_init_35 : decode cX5_init 35 = .ok (.aload_n 0, 1) := by decide +kernel
theorem dX5_init_36 : decode cX5_init 36 = .ok (.new 29, 3) := by decide +kernel
theorem dX5_init_39 : decode cX5_init 39 = .ok (.dup, 1) := by decide +kernel
theorem dX5_init_40 : decode cX5_init 40 = .ok (.invokespecial 31, 3) := by decide +kernel
theorem dX5_init_43 : decode cX5_init 43 = .ok (.putfield 32, 3) := by decide +kernel
theorem dX5_init_46 : decode cX5_init 46 = .ok (.aload_n 0, 1) := by decide +kernel
theorem dX5_init_47 : decode cX5_init 47 = .ok (.iconst 0, 1) := by decide +kernel
theorem dX5_init_48 : decode cX5_init 48 = .ok (.putfield 36, 3) := by decide +kernel
theorem dX5_init_51 : decode cX5_init 51 = .ok (.aload_n 0, 1) := by decide +kernel
theorem dX5_init_52 : decode cX5_init 52 = .ok (.iconst 0, 1) := by decide +kernel
theorem dX5_init_53 : decode cX5_init 53 = .ok (.putfield 40, 3) := by decide +kernel
theorem dX5_init_56 : decode cX5_init 56 = .ok (.return_, 1) := by decide +kernel
theorem dX5_put_0 : decode cX5_put 0 = .ok (.aload_n 0, 1) := by decide +kernel
theorem dX5_put_1 : decode cX5_put 1 = .ok (.getfield 10, 3) := by decide +kernel
theorem dX5_put_4 : decode cX5_put 4 = .ok (.lload_n 1, 1) := by decide +kernel
theorem dX5_put_5 : decode cX5_put 5 = .ok (.iload_n 3, 1) := by decide +kernel
theorem dX5_put_6 : decode cX5_put 6 = .ok (.invokevirtual 43, 3) := by decide +kernel
theorem dX5_put_9 : decode cX5_put 9 = .ok (.ireturn, 1) := by decide +kernel
theorem dX5_load_0 : decode cX5_load 0 = .ok (.iload_n 1, 1) := by decide +kernel
theorem dX5_load_1 : decode cX5_load 1 = .ok (.ifCond .lt 18, 3) := by decide +kernel
theorem dX5_load_4 : decode cX5_load 4 = .ok (.iload_n 1, 1) := by decide +kernel
theorem dX5_load_5 : decode cX5_load 5 = .ok (.ldc 47, 2) := by decide +kernel
theorem dX5_load_7 : decode cX5_load 7 = .ok (.if_icmp .gt 12, 3) := by decide +kernel
theorem dX5_load_10 : decode cX5_load 10 = .ok (.aload_n 0, 1) := by decide +kernel
theorem dX5_load_11 : decode cX5_load 11 = .ok (.getfield 36, 3) := by decide +kernel
theorem dX5_load_14 : decode cX5_load 14 = .ok (.bipush 32, 2) := by decide +kernel
theorem dX5_load_16 : decode cX5_load 16 = .ok (.if_icmp .lt 13, 3) := by decide +kernel
theorem dX5_load_19 : decode cX5_load 19 = .ok (.new 48, 3) := by decide +kernel
theorem dX5_load_22 : decode cX5_load 22 = .ok (.dup, 1) := by decide +kernel
theorem dX5_load_23 : decode cX5_load 23 = .ok (.ldc 50, 2) := by decide +kernel
theorem dX5_load_25 : decode cX5_load 25 = .ok (.invokespecial 52, 3) := by decide +kernel
theorem dX5_load_28 : decode cX5_load 28 = .ok (.athrow, 1) := by decide +kernel
theorem dX5_load_29 : decode cX5_load 29 = .ok (.aload_n 0, 1) := by decide +kernel
theorem dX5_load_30 : decode cX5_load 30 = .ok (.getfield 10, 3) := by decide +kernel
theorem dX5_load_33 : decode cX5_load 33 = .ok (.invokestatic 55, 3) := by decide +kernel
theorem dX5_load_36 : decode cX5_load 36 = .ok (.ifCond .eq 17, 3) := by decide +kernel
theorem dX5_load_39 : decode cX5_load 39 = .ok (.new 16, 3) := by decide +kernel
theorem dX5_load_42 : decode cX5_load 42 = .ok (.dup, 1) := by decide +kernel
theorem dX5_load_43 : decode cX5_load 43 = .ok (.aload_n 0, 1) := by decide +kernel
theorem dX5_load_44 : decode cX5_load 44 = .ok (.getfield 10, 3) := by decide +kernel
theorem dX5_load_47 : decode cX5_load 47 = .ok (.invokespecial 61, 3) := by decide +kernel
theorem dX5_load_50 : decode cX5_load 50 = .ok (.goto 4, 3) := by decide +kernel
theorem dX5_load_53 : decode cX5_load 53 = .ok (.aconst_null, 1) := by decide +kernel
theorem dX5_load_54 : decode cX5_load 54 = .ok (.astore_n 2, 1) := by decide +kernel
theorem dX5_load_55 : decode cX5_load 55 = .ok (.aload_n 0, 1) := by decide +kernel
theorem dX5_load_56 : decode cX5_load 56 = .ok (.getfield 10, 3) := by decide +kernel
theorem dX5_load_59 : decode cX5_load 59 = .ok (.invokevirtual 64, 3) := by decide +kernel
theorem dX5_load_62 : decode cX5_load 62 = .ok (.aload_n 0, 1) := by decide +kernel
theorem dX5_load_63 : decode cX5_load 63 = .ok (.aload_n 2, 1) := by decide +kernel
theorem dX5_load_64 : decode cX5_load 64 = .ok (.invokestatic 67, 3) := by decide +kernel
theorem dX5_load_67 : decode cX5_load 67 = .ok (.putfield 40, 3) := by decide +kernel
theorem dX5_load_70 : decode cX5_load 70 = .ok (.aload_n 2, 1) := by decide +kernel
theorem dX5_load_71 : decode cX5_load 71 = .ok (.ifnull 27, 3) := by decide +kernel
theorem dX5_load_74 : decode cX5_load 74 = .ok (.aload_n 0, 1) := by decide +kernel
theorem dX5_load_75 : decode cX5_load 75 = .ok (.getfield 40, 3) := by decide +kernel
theorem dX5_load_78 : decode cX5_load 78 = .ok (.ifCond .ne 20, 3) := by decide +kernel
theorem dX5_load_81 : decode cX5_load 81 = .ok (.aload_n 0, 1) := by decide +kernel
theorem dX5_load_82 : decode cX5_load 82 = .ok (.getfield 25, 3) := by decide +kernel
theorem dX5_load_85 : decode cX5_load 85 = .ok (.aload_n 2, 1) := by decide +kernel
theorem dX5_load_86 : decode cX5_load 86 = .ok (.invokevirtual 71, 3) := by decide +kernel
theorem dX5_load_89 : decode cX5_load 89 = .ok (.ifCond .ne 9, 3) := by decide +kernel
theorem dX5_load_92 : decode cX5_load 92 = .ok (.aload_n 0, 1) := by decide +kernel
theorem dX5_load_93 : decode cX5_load 93 = .ok (.bipush 7, 2) := by decide +kernel
theorem dX5_load_95 : decode cX5_load 95 = .ok (.putfield 40, 3) := by decide +kernel
theorem dX5_load_98 : decode cX5_load 98 = .ok (.aload_n 2, 1) := by decide +kernel
theorem dX5_load_99 : decode cX5_load 99 = .ok (.ifnull 10, 3) := by decide +kernel
theorem dX5_load_102 : decode cX5_load 102 = .ok (.aload_n 0, 1) := by decide +kernel
theorem dX5_load_103 : decode cX5_load 103 = .ok (.getfield 40, 3) := by decide +kernel
theorem dX5_load_106 : decode cX5_load 106 = .ok (.ifCond .eq 13, 3) := by decide +kernel
theorem dX5_load_109 : decode cX5_load 109 = .ok (.new 75, 3) := by decide +kernel
theorem dX5_load_112 : decode cX5_load 112 = .ok (.dup, 1) := by decide +kernel
theorem dX5_load_113 : decode cX5_load 113 = .ok (.ldc 77, 2) := by decide +kernel
theorem dX5_load_115 : decode cX5_load 115 = .ok (.invokespecial 79, 3) := by decide +kernel
theorem dX5_load_118 : decode cX5_load 118 = .ok (.athrow, 1) := by decide +kernel
theorem dX5_load_119 : decode cX5_load 119 = .ok (.aload_n 2, 1) := by decide +kernel
theorem dX5_load_120 : decode cX5_load 120 = .ok (.iload_n 1, 1) := by decide +kernel
theorem dX5_load_121 : decode cX5_load 121 = .ok (.invokevirtual 80, 3) := by decide +kernel
theorem dX5_load_124 : decode cX5_load 124 = .ok (.aload_n 0, 1) := by decide +kernel
theorem dX5_load_125 : decode cX5_load 125 = .ok (.getfield 18, 3) := by decide +kernel
theorem dX5_load_128 : decode cX5_load 128 = .ok (.aload_n 0, 1) := by decide +kernel
theorem dX5_load_129 : decode cX5_load 129 = .ok (.getfield 36, 3) := by decide +kernel
theorem dX5_load_132 : decode cX5_load 132 = .ok (.aload_n 2, 1) := by decide +kernel
theorem dX5_load_133 : decode cX5_load 133 = .ok (.aastore, 1) := by decide +kernel
theorem dX5_load_134 : decode cX5_load 134 = .ok (.aload_n 0, 1) := by decide +kernel
theorem dX5_load_135 : decode cX5_load 135 = .ok (.dup, 1) := by decide +kernel
theorem dX5_load_136 : decode cX5_load 136 = .ok (.getfield 36, 3) := by decide +kernel
theorem dX5_load_139 : decode cX5_load 139 = .ok (.iconst 1, 1) := by decide +kernel
theorem dX5_load_140 : decode cX5_load 140 = .ok (.iadd, 1) := by decide +kernel
theorem dX5_load_141 : decode cX5_load 141 = .ok (.putfield 36, 3) := by decide +kernel
theorem dX5_load_144 : decode cX5_load 144 = .ok (.aload_n 0, 1) := by decide +kernel
theorem dX5_load_145 : decode cX5_load 145 = .ok (.getfield 36, 3) := by decide +kernel
theorem dX5_load_148 : decode cX5_load 148 = .ok (.iconst 1, 1) := by decide +kernel
theorem dX5_load_149 : decode cX5_load 149 = .ok (.isub, 1) := by decide +kernel
theorem dX5_load_150 : decode cX5_load 150 = .ok (.ireturn, 1) := by decide +kernel
theorem dX5_fault_0 : decode cX5_fault 0 = .ok (.aload_n 0, 1) := by decide +kernel
theorem dX5_fault_1 : decode cX5_fault 1 = .ok (.getfield 40, 3) := by decide +kernel
theorem dX5_fault_4 : decode cX5_fault 4 = .ok (.ireturn, 1) := by decide +kernel
theorem dX5_metric_0 : decode cX5_metric 0 = .ok (.aload_n 0, 1) := by decide +kernel
theorem dX5_metric_1 : decode cX5_metric 1 = .ok (.iload_n 1, 1) := by decide +kernel
theorem dX5_metric_2 : decode cX5_metric 2 = .ok (.invokevirtual 84, 3) := by decide +kernel
theorem dX5_metric_5 : decode cX5_metric 5 = .ok (.astore 4, 2) := by decide +kernel
theorem dX5_metric_7 : decode cX5_metric 7 = .ok (.aload 4, 2) := by decide +kernel
theorem dX5_metric_9 : decode cX5_metric 9 = .ok (.ifnull 21, 3) := by decide +kernel
theorem dX5_metric_12 : decode cX5_metric 12 = .ok (.aload 4, 2) := by decide +kernel
theorem dX5_metric_14 : decode cX5_metric 14 = .ok (.iload_n 2, 1) := by decide +kernel
theorem dX5_metric_15 : decode cX5_metric 15 = .ok (.invokevirtual 88, 3) := by decide +kernel
theorem dX5_metric_18 : decode cX5_metric 18 = .ok (.ifCond .eq 12, 3) := by decide +kernel
theorem dX5_metric_21 : decode cX5_metric 21 = .ok (.iload_n 3, 1) := by decide +kernel
theorem dX5_metric_22 : decode cX5_metric 22 = .ok (.ifCond .lt 8, 3) := by decide +kernel
theorem dX5_metric_25 : decode cX5_metric 25 = .ok (.iload_n 3, 1) := by decide +kernel
theorem dX5_metric_26 : decode cX5_metric 26 = .ok (.iconst 5, 1) := by decide +kernel
theorem dX5_metric_27 : decode cX5_metric 27 = .ok (.if_icmp .le 13, 3) := by decide +kernel
theorem dX5_metric_30 : decode cX5_metric 30 = .ok (.new 92, 3) := by decide +kernel
theorem dX5_metric_33 : decode cX5_metric 33 = .ok (.dup, 1) := by decide +kernel
theorem dX5_metric_34 : decode cX5_metric 34 = .ok (.ldc 94, 2) := by decide +kernel
theorem dX5_metric_36 : decode cX5_metric 36 = .ok (.invokespecial 96, 3) := by decide +kernel
theorem dX5_metric_39 : decode cX5_metric 39 = .ok (.athrow, 1) := by decide +kernel
theorem dX5_metric_40 : decode cX5_metric 40 = .ok (.aload 4, 2) := by decide +kernel
theorem dX5_metric_42 : decode cX5_metric 42 = .ok (.iload_n 2, 1) := by decide +kernel
theorem dX5_metric_43 : decode cX5_metric 43 = .ok (.iload_n 3, 1) := by decide +kernel
theorem dX5_metric_44 : decode cX5_metric 44 = .ok (.invokevirtual 97, 3) := by decide +kernel
theorem dX5_metric_47 : decode cX5_metric 47 = .ok (.ireturn, 1) := by decide +kernel
theorem dX5_parameter_0 : decode cX5_parameter 0 = .ok (.aload_n 0, 1) := by decide +kernel
theorem dX5_parameter_1 : decode cX5_parameter 1 = .ok (.iload_n 1, 1) := by decide +kernel
theorem dX5_parameter_2 : decode cX5_parameter 2 = .ok (.invokevirtual 84, 3) := by decide +kernel
theorem dX5_parameter_5 : decode cX5_parameter 5 = .ok (.astore_n 3, 1) := by decide +kernel
theorem dX5_parameter_6 : decode cX5_parameter 6 = .ok (.aload_n 3, 1) := by decide +kernel
theorem dX5_parameter_7 : decode cX5_parameter 7 = .ok (.ifnull 8, 3) := by decide +kernel
theorem dX5_parameter_10 : decode cX5_parameter 10 = .ok (.iload_n 2, 1) := by decide +kernel
theorem dX5_parameter_11 : decode cX5_parameter 11 = .ok (.iconst 1, 1) := by decide +kernel
theorem dX5_parameter_12 : decode cX5_parameter 12 = .ok (.if_icmp .ge 13, 3) := by decide +kernel
theorem dX5_parameter_15 : decode cX5_parameter 15 = .ok (.new 92, 3) := by decide +kernel
theorem dX5_parameter_18 : decode cX5_parameter 18 = .ok (.dup, 1) := by decide +kernel
theorem dX5_parameter_19 : decode cX5_parameter 19 = .ok (.ldc 101, 2) := by decide +kernel
theorem dX5_parameter_21 : decode cX5_parameter 21 = .ok (.invokespecial 96, 3) := by decide +kernel
theorem dX5_parameter_24 : decode cX5_parameter 24 = .ok (.athrow, 1) := by decide +kernel
theorem dX5_parameter_25 : decode cX5_parameter 25 = .ok (.aload_n 3, 1) := by decide +kernel
theorem dX5_parameter_26 : decode cX5_parameter 26 = .ok (.iload_n 2, 1) := by decide +kernel
theorem dX5_parameter_27 : decode cX5_parameter 27 = .ok (.invokevirtual 103, 3) := by decide +kernel
theorem dX5_parameter_30 : decode cX5_parameter 30 = .ok (.ireturn, 1) := by decide +kernel
theorem dX5_set_0 : decode cX5_set 0 = .ok (.aload_n 0, 1) := by decide +kernel
theorem dX5_set_1 : decode cX5_set 1 = .ok (.iload_n 1, 1) := by decide +kernel
theorem dX5_set_2 : decode cX5_set 2 = .ok (.invokevirtual 84, 3) := by decide +kernel
theorem dX5_set_5 : decode cX5_set 5 = .ok (.astore_n 2, 1) := by decide +kernel
theorem dX5_set_6 : decode cX5_set 6 = .ok (.aload_n 2, 1) := by decide +kernel
theorem dX5_set_7 : decode cX5_set 7 = .ok (.ifnull 22, 3) := by decide +kernel
theorem dX5_set_10 : decode cX5_set 10 = .ok (.aload_n 0, 1) := by decide +kernel
theorem dX5_set_11 : decode cX5_set 11 = .ok (.getfield 32, 3) := by decide +kernel
theorem dX5_set_14 : decode cX5_set 14 = .ok (.aload_n 2, 1) := by decide +kernel
theorem dX5_set_15 : decode cX5_set 15 = .ok (.aload_n 0, 1) := by decide +kernel
theorem dX5_set_16 : decode cX5_set 16 = .ok (.getfield 10, 3) := by decide +kernel
theorem dX5_set_19 : decode cX5_set 19 = .ok (.invokevirtual 107, 3) := by decide +kernel
theorem dX5_set_22 : decode cX5_set 22 = .ok (.ifCond .eq 7, 3) := by decide +kernel
theorem dX5_set_25 : decode cX5_set 25 = .ok (.iconst 1, 1) := by decide +kernel
theorem dX5_set_26 : decode cX5_set 26 = .ok (.goto 4, 3) := by decide +kernel
theorem dX5_set_29 : decode cX5_set 29 = .ok (.iconst 0, 1) := by decide +kernel
theorem dX5_set_30 : decode cX5_set 30 = .ok (.istore_n 3, 1) := by decide +kernel
theorem dX5_set_31 : decode cX5_set 31 = .ok (.aload_n 0, 1) := by decide +kernel
theorem dX5_set_32 : decode cX5_set 32 = .ok (.getfield 10, 3) := by decide +kernel
theorem dX5_set_35 : decode cX5_set 35 = .ok (.invokevirtual 64, 3) := by decide +kernel
theorem dX5_set_38 : decode cX5_set 38 = .ok (.aload_n 2, 1) := by decide +kernel
theorem dX5_set_39 : decode cX5_set 39 = .ok (.ifnonnull 20, 3) := by decide +kernel
theorem dX5_set_42 : decode cX5_set 42 = .ok (.aload_n 0, 1) := by decide +kernel
theorem dX5_set_43 : decode cX5_set 43 = .ok (.getfield 32, 3) := by decide +kernel
theorem dX5_set_46 : decode cX5_set 46 = .ok (.invokevirtual 111, 3) := by decide +kernel
theorem dX5_set_49 : decode cX5_set 49 = .ok (.new 92, 3) := by decide +kernel
theorem dX5_set_52 : decode cX5_set 52 = .ok (.dup, 1) := by decide +kernel
theorem dX5_set_53 : decode cX5_set 53 = .ok (.ldc 114, 2) := by decide +kernel
theorem dX5_set_55 : decode cX5_set 55 = .ok (.invokespecial 96, 3) := by decide +kernel
theorem dX5_set_58 : decode cX5_set 58 = .ok (.athrow, 1) := by decide +kernel
theorem dX5_set_59 : decode cX5_set 59 = .ok (.iload_n 3, 1) := by decide +kernel
theorem dX5_set_60 : decode cX5_set 60 = .ok (.ifCond .ne 20, 3) := by decide +kernel
theorem dX5_set_63 : decode cX5_set 63 = .ok (.aload_n 0, 1) := by decide +kernel
theorem dX5_set_64 : decode cX5_set 64 = .ok (.getfield 32, 3) := by decide +kernel
theorem dX5_set_67 : decode cX5_set 67 = .ok (.invokevirtual 111, 3) := by decide +kernel
theorem dX5_set_70 : decode cX5_set 70 = .ok (.new 75, 3) := by decide +kernel
theorem dX5_set_73 : decode cX5_set 73 = .ok (.dup, 1) := by decide +kernel
theorem dX5_set_74 : decode cX5_set 74 = .ok (.ldc 116, 2) := by decide +kernel
theorem dX5_set_76 : decode cX5_set 76 = .ok (.invokespecial 79, 3) := by decide +kernel
theorem dX5_set_79 : decode cX5_set 79 = .ok (.athrow, 1) := by decide +kernel
theorem dX5_set_80 : decode cX5_set 80 = .ok (.aload_n 0, 1) := by decide +kernel
theorem dX5_set_81 : decode cX5_set 81 = .ok (.getfield 32, 3) := by decide +kernel
theorem dX5_set_84 : decode cX5_set 84 = .ok (.aload_n 2, 1) := by decide +kernel
theorem dX5_set_85 : decode cX5_set 85 = .ok (.invokevirtual 118, 3) := by decide +kernel
theorem dX5_set_88 : decode cX5_set 88 = .ok (.ifCond .ne 20, 3) := by decide +kernel
theorem dX5_set_91 : decode cX5_set 91 = .ok (.aload_n 0, 1) := by decide +kernel
theorem dX5_set_92 : decode cX5_set 92 = .ok (.getfield 32, 3) := by decide +kernel
theorem dX5_set_95 : decode cX5_set 95 = .ok (.invokevirtual 111, 3) := by decide +kernel
theorem dX5_set_98 : decode cX5_set 98 = .ok (.new 48, 3) := by decide +kernel
theorem dX5_set_101 : decode cX5_set 101 = .ok (.dup, 1) := by decide +kernel
theorem dX5_set_102 : decode cX5_set 102 = .ok (.ldc 121, 2) := by decide +kernel
theorem dX5_set_104 : decode cX5_set 104 = .ok (.invokespecial 52, 3) := by decide +kernel
theorem dX5_set_107 : decode cX5_set 107 = .ok (.athrow, 1) := by decide +kernel
theorem dX5_set_108 : decode cX5_set 108 = .ok (.aload_n 0, 1) := by decide +kernel
theorem dX5_set_109 : decode cX5_set 109 = .ok (.getfield 32, 3) := by decide +kernel
theorem dX5_set_112 : decode cX5_set 112 = .ok (.invokevirtual 123, 3) := by decide +kernel
theorem dX5_set_115 : decode cX5_set 115 = .ok (.ireturn, 1) := by decide +kernel
theorem dX5_item_0 : decode cX5_item 0 = .ok (.aload_n 0, 1) := by decide +kernel
theorem dX5_item_1 : decode cX5_item 1 = .ok (.getfield 32, 3) := by decide +kernel
theorem dX5_item_4 : decode cX5_item 4 = .ok (.iload_n 1, 1) := by decide +kernel
theorem dX5_item_5 : decode cX5_item 5 = .ok (.iload_n 2, 1) := by decide +kernel
theorem dX5_item_6 : decode cX5_item 6 = .ok (.invokevirtual 127, 3) := by decide +kernel
theorem dX5_item_9 : decode cX5_item 9 = .ok (.ireturn, 1) := by decide +kernel
theorem dX5_width_0 : decode cX5_width 0 = .ok (.aload_n 0, 1) := by decide +kernel
theorem dX5_width_1 : decode cX5_width 1 = .ok (.getfield 32, 3) := by decide +kernel
theorem dX5_width_4 : decode cX5_width 4 = .ok (.invokevirtual 130, 3) := by decide +kernel
theorem dX5_width_7 : decode cX5_width 7 = .ok (.lreturn, 1) := by decide +kernel
theorem dX5_count_0 : decode cX5_count 0 = .ok (.iload_n 1, 1) := by decide +kernel
theorem dX5_count_1 : decode cX5_count 1 = .ok (.ifCond .ne 8, 3) := by decide +kernel
theorem dX5_count_4 : decode cX5_count 4 = .ok (.aload_n 0, 1) := by decide +kernel
theorem dX5_count_5 : decode cX5_count 5 = .ok (.getfield 36, 3) := by decide +kernel
theorem dX5_count_8 : decode cX5_count 8 = .ok (.ireturn, 1) := by decide +kernel
theorem dX5_count_9 : decode cX5_count 9 = .ok (.iload_n 1, 1) := by decide +kernel
theorem dX5_count_10 : decode cX5_count 10 = .ok (.iconst 1, 1) := by decide +kernel
theorem dX5_count_11 : decode cX5_count 11 = .ok (.if_icmp .ne 11, 3) := by decide +kernel
theorem dX5_count_14 : decode cX5_count 14 = .ok (.aload_n 0, 1) := by decide +kernel
theorem dX5_count_15 : decode cX5_count 15 = .ok (.getfield 10, 3) := by decide +kernel
theorem dX5_count_18 : decode cX5_count 18 = .ok (.invokevirtual 134, 3) := by decide +kernel
theorem dX5_count_21 : decode cX5_count 21 = .ok (.ireturn, 1) := by decide +kernel
theorem dX5_count_22 : decode cX5_count 22 = .ok (.iload_n 1, 1) := by decide +kernel
theorem dX5_count_23 : decode cX5_count 23 = .ok (.iconst 2, 1) := by decide +kernel
theorem dX5_count_24 : decode cX5_count 24 = .ok (.if_icmp .lt 8, 3) := by decide +kernel
theorem dX5_count_27 : decode cX5_count 27 = .ok (.iload_n 1, 1) := by decide +kernel
theorem dX5_count_28 : decode cX5_count 28 = .ok (.iconst 5, 1) := by decide +kernel
theorem dX5_count_29 : decode cX5_count 29 = .ok (.if_icmp .le 5, 3) := by decide +kernel
theorem dX5_count_32 : decode cX5_count 32 = .ok (.iconst (-1), 1) := by decide +kernel
theorem dX5_count_33 : decode cX5_count 33 = .ok (.ireturn, 1) := by decide +kernel
theorem dX5_count_34 : decode cX5_count 34 = .ok (.aload_n 0, 1) := by decide +kernel
theorem dX5_count_35 : decode cX5_count 35 = .ok (.aload_n 0, 1) := by decide +kernel
theorem dX5_count_36 : decode cX5_count 36 = .ok (.getfield 36, 3) := by decide +kernel
theorem dX5_count_39 : decode cX5_count 39 = .ok (.iconst 1, 1) := by decide +kernel
theorem dX5_count_40 : decode cX5_count 40 = .ok (.isub, 1) := by decide +kernel
theorem dX5_count_41 : decode cX5_count 41 = .ok (.invokevirtual 84, 3) := by decide +kernel
theorem dX5_count_44 : decode cX5_count 44 = .ok (.astore_n 2, 1) := by decide +kernel
theorem dX5_count_45 : decode cX5_count 45 = .ok (.aload_n 2, 1) := by decide +kernel
theorem dX5_count_46 : decode cX5_count 46 = .ok (.ifnonnull 7, 3) := by decide +kernel
theorem dX5_count_49 : decode cX5_count 49 = .ok (.iconst 0, 1) := by decide +kernel
theorem dX5_count_50 : decode cX5_count 50 = .ok (.goto 8, 3) := by decide +kernel
theorem dX5_count_53 : decode cX5_count 53 = .ok (.aload_n 2, 1) := by decide +kernel
theorem dX5_count_54 : decode cX5_count 54 = .ok (.iload_n 1, 1) := by decide +kernel
theorem dX5_count_55 : decode cX5_count 55 = .ok (.invokevirtual 137, 3) := by decide +kernel
theorem dX5_count_58 : decode cX5_count 58 = .ok (.ireturn, 1) := by decide +kernel
theorem dX5_fontAt_0 : decode cX5_fontAt 0 = .ok (.iload_n 1, 1) := by decide +kernel
theorem dX5_fontAt_1 : decode cX5_fontAt 1 = .ok (.ifCond .lt 26, 3) := by decide +kernel
theorem dX5_fontAt_4 : decode cX5_fontAt 4 = .ok (.iload_n 1, 1) := by decide +kernel
theorem dX5_fontAt_5 : decode cX5_fontAt 5 = .ok (.aload_n 0, 1) := by decide +kernel
theorem dX5_fontAt_6 : decode cX5_fontAt 6 = .ok (.getfield 36, 3) := by decide +kernel
theorem dX5_fontAt_9 : decode cX5_fontAt 9 = .ok (.if_icmp .ge 18, 3) := by decide +kernel
theorem dX5_fontAt_12 : decode cX5_fontAt 12 = .ok (.iload_n 1, 1) := by decide +kernel
theorem dX5_fontAt_13 : decode cX5_fontAt 13 = .ok (.bipush 32, 2) := by decide +kernel
theorem dX5_fontAt_15 : decode cX5_fontAt 15 = .ok (.if_icmp .ge 12, 3) := by decide +kernel
theorem dX5_fontAt_18 : decode cX5_fontAt 18 = .ok (.aload_n 0, 1) := by decide +kernel
theorem dX5_fontAt_19 : decode cX5_fontAt 19 = .ok (.getfield 18, 3) := by decide +kernel
theorem dX5_fontAt_22 : decode cX5_fontAt 22 = .ok (.iload_n 1, 1) := by decide +kernel
theorem dX5_fontAt_23 : decode cX5_fontAt 23 = .ok (.aaload, 1) := by decide +kernel
theorem dX5_fontAt_24 : decode cX5_fontAt 24 = .ok (.goto 4, 3) := by decide +kernel
theorem dX5_fontAt_27 : decode cX5_fontAt 27 = .ok (.aconst_null, 1) := by decide +kernel
theorem dX5_fontAt_28 : decode cX5_fontAt 28 = .ok (.areturn, 1) := by decide +kernel
theorem dX6_init_0 : decode cX6_init 0 = .ok (.aload_n 0, 1) := by decide +kernel
theorem dX6_init_1 : decode cX6_init 1 = .ok (.invokespecial 1, 3) := by decide +kernel
theorem dX6_init_4 : decode cX6_init 4 = .ok (.aload_n 0, 1) := by decide +kernel
theorem dX6_init_5 : decode cX6_init 5 = .ok (.ldc 7, 2) := by decide +kernel
theorem dX6_init_7 : decode cX6_init 7 = .ok (.newarray .int, 2) := by decide +kernel
theorem dX6_init_9 : decode cX6_init 9 = .ok (.putfield 8, 3) := by decide +kernel
theorem dX6_init_12 : decode cX6_init 12 = .ok (.aload_n 0, 1) := by decide +kernel
theorem dX6_init_13 : decode cX6_init 13 = .ok (.bipush 33, 2) := by decide +kernel
theorem dX6_init_15 : decode cX6_init 15 = .ok (.newarray .int, 2) := by decide +kernel
theorem dX6_init_17 : decode cX6_init 17 = .ok (.putfield 14, 3) := by decide +kernel
theorem dX6_init_20 : decode cX6_init 20 = .ok (.aload_n 0, 1) := by decide +kernel
theorem dX6_init_21 : decode cX6_init 21 = .ok (.bipush 32, 2) := by decide +kernel
theorem dX6_init_23 : decode cX6_init 23 = .ok (.newarray .int, 2) := by decide +kernel
theorem dX6_init_25 : decode cX6_init 25 = .ok (.putfield 17, 3) := by decide +kernel
theorem dX6_init_28 : decode cX6_init 28 = .ok (.aload_n 0, 1) := by decide +kernel
theorem dX6_init_29 : decode cX6_init 29 = .ok (.ldc 20, 2) := by decide +kernel
theorem dX6_init_31 : decode cX6_init 31 = .ok (.newarray .int, 2) := by decide +kernel
theorem dX6_init_33 : decode cX6_init 33 = .ok (.putfield 21, 3) := by decide +kernel
theorem dX6_init_36 : decode cX6_init 36 = .ok (.aload_n 0, 1) := by decide +kernel
theorem dX6_init_37 : decode cX6_init 37 = .ok (.ldc 20, 2) := by decide +kernel
theorem dX6_init_39 : decode cX6_init 39 = .ok (.newarray .int, 2) := by decide +kernel
theorem dX6_init_41 : decode cX6_init 41 = .ok (.putfield 24, 3) := by decide +kernel
theorem dX6_init_44 : decode cX6_init 44 = .ok (.aload_n 0, 1) := by decide +kernel
theorem dX6_init_45 : decode cX6_init 45 = .ok (.sipush 257, 3) := by decide +kernel
theorem dX6_init_48 : decode cX6_init 48 = .ok (.newarray .boolean, 2) := by decide +kernel
theorem dX6_init_50 : decode cX6_init 50 = .ok (.putfield 27, 3) := by decide +kernel
theorem dX6_init_53 : decode cX6_init 53 = .ok (.aload_n 0, 1) := by decide +kernel
theorem dX6_init_54 : decode cX6_init 54 = .ok (.sipush 1002, 3) := by decide +kernel
theorem dX6_init_57 : decode cX6_init 57 = .ok (.newarray .int, 2) := by decide +kernel
theorem dX6_init_59 : decode cX6_init 59 = .ok (.putfield 31, 3) := by decide +kernel
theorem dX6_init_62 : decode cX6_init 62 = .ok (.aload_n 0, 1) := by decide +kernel
theorem dX6_init_63 : decode cX6_init 63 = .ok (.sipush 1002, 3) := by decide +kernel
theorem dX6_init_66 : decode cX6_init 66 = .ok (.newarray .int, 2) := by decide +kernel
theorem dX6_init_68 : decode cX6_init 68 = .ok (.putfield 34, 3) := by decide +kernel
theorem dX6_init_71 : decode cX6_init 71 = .ok (.return_, 1) := by decide +kernel
theorem dX6_thrown_0 : decode cX6_thrown 0 = .ok (.aload_n 0, 1) := by decide +kernel
theorem dX6_thrown_1 : decode cX6_thrown 1 = .ok (.getfield 37, 3) := by decide +kernel
theorem dX6_thrown_4 : decode cX6_thrown 4 = .ok (.ireturn, 1) := by decide +kernel
theorem dX6_fails_0 : decode cX6_fails 0 = .ok (.aload_n 0, 1) := by decide +kernel
theorem dX6_fails_1 : decode cX6_fails 1 = .ok (.iload_n 1, 1) := by decide +kernel
theorem dX6_fails_2 : decode cX6_fails 2 = .ok (.putfield 37, 3) := by decide +kernel
theorem dX6_fails_5 : decode cX6_fails 5 = .ok (.iconst 0, 1) := by decide +kernel
theorem dX6_fails_6 : decode cX6_fails 6 = .ok (.ireturn, 1) := by decide +kernel
theorem dX6_put_0 : decode cX6_put 0 = .ok (.aload_n 0, 1) := by decide +kernel
theorem dX6_put_1 : decode cX6_put 1 = .ok (.iconst 0, 1) := by decide +kernel
theorem dX6_put_2 : decode cX6_put 2 = .ok (.putfield 37, 3) := by decide +kernel
theorem dX6_put_5 : decode cX6_put 5 = .ok (.iload_n 3, 1) := by decide +kernel
theorem dX6_put_6 : decode cX6_put 6 = .ok (.iconst 1, 1) := by decide +kernel
theorem dX6_put_7 : decode cX6_put 7 = .ok (.if_icmp .lt 20, 3) := by decide +kernel
theorem dX6_put_10 : decode cX6_put 10 = .ok (.iload_n 3, 1) := by decide +kernel
theorem dX6_put_11 : decode cX6_put 11 = .ok (.bipush 8, 2) := by decide +kernel
theorem dX6_put_13 : decode cX6_put 13 = .ok (.if_icmp .gt 14, 3) := by decide +kernel
theorem dX6_put_16 : decode cX6_put 16 = .ok (.aload_n 0, 1) := by decide +kernel
theorem dX6_put_17 : decode cX6_put 17 = .ok (.getfield 41, 3) := by decide +kernel
theorem dX6_put_20 : decode cX6_put 20 = .ok (.iload_n 3, 1) := by decide +kernel
theorem dX6_put_21 : decode cX6_put 21 = .ok (.iadd, 1) := by decide +kernel
theorem dX6_put_22 : decode cX6_put 22 = .ok (.ldc 44, 2) := by decide +kernel
theorem dX6_put_24 : decode cX6_put 24 = .ok (.if_icmp .le 5, 3) := by decide +kernel
theorem dX6_put_27 : decode cX6_put 27 = .ok (.iconst 0, 1) := by decide +kernel
theorem dX6_put_28 : decode cX6_put 28 = .ok (.ireturn, 1) := by decide +kernel
theorem dX6_put_29 : decode cX6_put 29 = .ok (.iload_n 3, 1) := by decide +kernel
theorem dX6_put_30 : decode cX6_put 30 = .ok (.iconst 1, 1) := by decide +kernel
theorem dX6_put_31 : decode cX6_put 31 = .ok (.isub, 1) := by decide +kernel
theorem dX6_put_32 : decode cX6_put 32 = .ok (.istore 4, 2) := by decide +kernel
theorem dX6_put_34 : decode cX6_put 34 = .ok (.iload 4, 2) := by decide +kernel
theorem dX6_put_36 : decode cX6_put 36 = .ok (.ifCond .lt 50, 3) := by decide +kernel
theorem dX6_put_39 : decode cX6_put 39 = .ok (.aload_n 0, 1) := by decide +kernel
theorem dX6_put_40 : decode cX6_put 40 = .ok (.getfield 8, 3) := by decide +kernel
theorem dX6_put_43 : decode cX6_put 43 = .ok (.aload_n 0, 1) := by decide +kernel
theorem dX6_put_44 : decode cX6_put 44 = .ok (.getfield 14, 3) := by decide +kernel
theorem dX6_put_47 : decode cX6_put 47 = .ok (.aload_n 0, 1) := by decide +kernel
theorem dX6_put_48 : decode cX6_put 48 = .ok (.getfield 45, 3) := by decide +kernel
theorem dX6_put_51 : decode cX6_put 51 = .ok (.iaload, 1) := by decide +kernel
theorem dX6_put_52 : decode cX6_put 52 = .ok (.aload_n 0, 1) := by decide +kernel
theorem dX6_put_53 : decode cX6_put 53 = .ok (.getfield 41, 3) := by decide +kernel
theorem dX6_put_56 : decode cX6_put 56 = .ok (.iadd, 1) := by decide +kernel
theorem dX6_put_57 : decode cX6_put 57 = .ok (.lload_n 1, 1) := by decide +kernel
theorem dX6_put_58 : decode cX6_put 58 = .ok (.bipush 8, 2) := by decide +kernel
theorem dX6_put_60 : decode cX6_put 60 = .ok (.iload 4, 2) := by decide +kernel
theorem dX6_put_62 : decode cX6_put 62 = .ok (.imul, 1) := by decide +kernel
theorem dX6_put_63 : decode cX6_put 63 = .ok (.lshr, 1) := by decide +kernel
theorem dX6_put_64 : decode cX6_put 64 = .ok (.ldc2_w 48, 3) := by decide +kernel
theorem dX6_put_67 : decode cX6_put 67 = .ok (.land, 1) := by decide +kernel
theorem dX6_put_68 : decode cX6_put 68 = .ok (.l2i, 1) := by decide +kernel
theorem dX6_put_69 : decode cX6_put 69 = .ok (.iastore, 1) := by decide +kernel
theorem dX6_put_70 : decode cX6_put 70 = .ok (.aload_n 0, 1) := by decide +kernel
theorem dX6_put_71 : decode cX6_put 71 = .ok (.dup, 1) := by decide +kernel
theorem dX6_put_72 : decode cX6_put 72 = .ok (.getfield 41, 3) := by decide +kernel
theorem dX6_put_75 : decode cX6_put 75 = .ok (.iconst 1, 1) := by decide +kernel
theorem dX6_put_76 : decode cX6_put 76 = .ok (.iadd, 1) := by decide +kernel
theorem dX6_put_77 : decode cX6_put 77 = .ok (.putfield 41, 3) := by decide +kernel
theorem dX6_put_80 : decode cX6_put 80 = .ok (.iinc 4 (-1), 3) := by decide +kernel
theorem dX6_put_83 : decode cX6_put 83 = .ok (.goto (-49), 3) := by decide +kernel
theorem dX6_put_86 : decode cX6_put 86 = .ok (.iconst 1, 1) := by decide +kernel
theorem dX6_put_87 : decode cX6_put 87 = .ok (.ireturn, 1) := by decide +kernel
theorem dX6_byteAt_0 : decode cX6_byteAt 0 = .ok (.aload_n 0, 1) := by decide +kernel
theorem dX6_byteAt_1 : decode cX6_byteAt 1 = .ok (.getfield 8, 3) := by decide +kernel
theorem dX6_byteAt_4 : decode cX6_byteAt 4 = .ok (.aload_n 0, 1) := by decide +kernel
theorem dX6_byteAt_5 : decode cX6_byteAt 5 = .ok (.getfield 50, 3) := by decide +kernel
theorem dX6_byteAt_8 : decode cX6_byteAt 8 = .ok (.iload_n 1, 1) := by decide +kernel
theorem dX6_byteAt_9 : decode cX6_byteAt 9 = .ok (.iadd, 1) := by decide +kernel
theorem dX6_byteAt_10 : decode cX6_byteAt 10 = .ok (.iaload, 1) := by decide +kernel
theorem dX6_byteAt_11 : decode cX6_byteAt 11 = .ok (.ireturn, 1) := by decide +kernel
theorem dX6_half_0 : decode cX6_half 0 = .ok (.sipush 256, 3) := by decide +kernel
theorem dX6_half_3 : decode cX6_half 3 = .ok (.aload_n 0, 1) := by decide +kernel
theorem dX6_half_4 : decode cX6_half 4 = .ok (.iconst 2, 1) := by decide +kernel
theorem dX6_half_5 : decode cX6_half 5 = .ok (.iload_n 1, 1) := by decide +kernel
theorem dX6_half_6 : decode cX6_half 6 = .ok (.imul, 1) := by decide +kernel
theorem dX6_half_7 : decode cX6_half 7 = .ok (.invokevirtual 53, 3) := by decide +kernel
theorem dX6_half_10 : decode cX6_half 10 = .ok (.imul, 1) := by decide +kernel
theorem dX6_half_11 : decode cX6_half 11 = .ok (.aload_n 0, 1) := by decide +kernel
theorem dX6_half_12 : decode cX6_half 12 = .ok (.iconst 2, 1) := by decide +kernel
theorem dX6_half_13 : decode cX6_half 13 = .ok (.iload_n 1, 1) := by decide +kernel
theorem dX6_half_14 : decode cX6_half 14 = .ok (.imul, 1) := by decide +kernel
theorem dX6_half_15 : decode cX6_half 15 = .ok (.iconst 1, 1) := by decide +kernel
theorem dX6_half_16 : decode cX6_half 16 = .ok (.iadd, 1) := by decide +kernel
theorem dX6_half_17 : decode cX6_half 17 = .ok (.invokevirtual 53, 3) := by decide +kernel
theorem dX6_half_20 : decode cX6_half 20 = .ok (.iadd, 1) := by decide +kernel
theorem dX6_half_21 : decode cX6_half 21 = .ok (.ireturn, 1) := by decide +kernel
theorem dX6_word_0 : decode cX6_word 0 = .ok (.aload_n 0, 1) := by decide +kernel
theorem dX6_word_1 : decode cX6_word 1 = .ok (.iconst 4, 1) := by decide +kernel
theorem dX6_word_2 : decode cX6_word 2 = .ok (.iload_n 1, 1) := by decide +kernel
theorem dX6_word_3 : decode cX6_word 3 = .ok (.imul, 1) := by decide +kernel
theorem dX6_word_4 : decode cX6_word 4 = .ok (.invokevirtual 53, 3) := by decide +kernel
theorem dX6_word_7 : decode cX6_word 7 = .ok (.bipush 24, 2) := by decide +kernel
theorem dX6_word_9 : decode cX6_word 9 = .ok (.ishl, 1) := by decide +kernel
theorem dX6_word_10 : decode cX6_word 10 = .ok (.aload_n 0, 1) := by decide +kernel
theorem dX6_word_11 : decode cX6_word 11 = .ok (.iconst 4, 1) := by decide +kernel
theorem dX6_word_12 : decode cX6_word 12 = .ok (.iload_n 1, 1) := by decide +kernel
theorem dX6_word_13 : decode cX6_word 13 = .ok (.imul, 1) := by decide +kernel
theorem dX6_word_14 : decode cX6_word 14 = .ok (.iconst 1, 1) := by decide +kernel
theorem dX6_word_15 : decode cX6_word 15 = .ok (.iadd, 1) := by decide +kernel
theorem dX6_word_16 : decode cX6_word 16 = .ok (.invokevirtual 53, 3) := by decide +kernel
theorem dX6_word_19 : decode cX6_word 19 = .ok (.bipush 16, 2) := by decide +kernel
theorem dX6_word_21 : decode cX6_word 21 = .ok (.ishl, 1) := by decide +kernel
theorem dX6_word_22 : decode cX6_word 22 = .ok (.ior, 1) := by decide +kernel
theorem dX6_word_23 : decode cX6_word 23 = .ok (.aload_n 0, 1) := by decide +kernel
theorem dX6_word_24 : decode cX6_word 24 = .ok (.iconst 4, 1) := by decide +kernel
theorem dX6_word_25 : decode cX6_word 25 = .ok (.iload_n 1, 1) := by decide +kernel
theorem dX6_word_26 : decode cX6_word 26 = .ok (.imul, 1) := by decide +kernel
theorem dX6_word_27 : decode cX6_word 27 = .ok (.iconst 2, 1) := by decide +kernel
theorem dX6_word_28 : decode cX6_word 28 = .ok (.iadd, 1) := by decide +kernel
theorem dX6_word_29 : decode cX6_word 29 = .ok (.invokevirtual 53, 3) := by decide +kernel
theorem dX6_word_32 : decode cX6_word 32 = .ok (.bipush 8, 2) := by decide +kernel
theorem dX6_word_34 : decode cX6_word 34 = .ok (.ishl, 1) := by decide +kernel
theorem dX6_word_35 : decode cX6_word 35 = .ok (.ior, 1) := by decide +kernel
theorem dX6_word_36 : decode cX6_word 36 = .ok (.aload_n 0, 1) := by decide +kernel
theorem dX6_word_37 : decode cX6_word 37 = .ok (.iconst 4, 1) := by decide +kernel
theorem dX6_word_38 : decode cX6_word 38 = .ok (.iload_n 1, 1) := by decide +kernel
theorem dX6_word_39 : decode cX6_word 39 = .ok (.imul, 1) := by decide +kernel
theorem dX6_word_40 : decode cX6_word 40 = .ok (.iconst 3, 1) := by decide +kernel
theorem dX6_word_41 : decode cX6_word 41 = .ok (.iadd, 1) := by decide +kernel
theorem dX6_word_42 : decode cX6_word 42 = .ok (.invokevirtual 53, 3) := by decide +kernel
theorem dX6_word_45 : decode cX6_word 45 = .ok (.ior, 1) := by decide +kernel
theorem dX6_word_46 : decode cX6_word 46 = .ok (.ireturn, 1) := by decide +kernel
theorem dX6_characters_0 : decode cX6_characters 0 = .ok (.aload_n 0, 1) := by decide +kernel
theorem dX6_characters_1 : decode cX6_characters 1 = .ok (.iconst 3, 1) := by decide +kernel
theorem dX6_characters_2 : decode cX6_characters 2 = .ok (.invokevirtual 57, 3) := by decide +kernel
theorem dX6_characters_5 : decode cX6_characters 5 = .ok (.aload_n 0, 1) := by decide +kernel
theorem dX6_characters_6 : decode cX6_characters 6 = .ok (.iconst 2, 1) := by decide +kernel
theorem dX6_characters_7 : decode cX6_characters 7 = .ok (.invokevirtual 57, 3) := by decide +kernel
theorem dX6_characters_10 : decode cX6_characters 10 = .ok (.isub, 1) := by decide +kernel
theorem dX6_characters_11 : decode cX6_characters 11 = .ok (.iconst 1, 1) := by decide +kernel
theorem dX6_characters_12 : decode cX6_characters 12 = .ok (.iadd, 1) := by decide +kernel
theorem dX6_characters_13 : decode cX6_characters 13 = .ok (.ireturn, 1) := by decide +kernel
theorem dX6_start_0 : decode cX6_start 0 = .ok (.bipush 6, 2) := by decide +kernel
theorem dX6_start_2 : decode cX6_start 2 = .ok (.istore_n 2, 1) := by decide +kernel
theorem dX6_start_3 : decode cX6_start 3 = .ok (.iconst 0, 1) := by decide +kernel
theorem dX6_start_4 : decode cX6_start 4 = .ok (.istore_n 3, 1) := by decide +kernel
theorem dX6_start_5 : decode cX6_start 5 = .ok (.iload_n 3, 1) := by decide +kernel
theorem dX6_start_6 : decode cX6_start 6 = .ok (.iload_n 1, 1) := by decide +kernel
theorem dX6_start_7 : decode cX6_start 7 = .ok (.if_icmp .ge 43, 3) := by decide +kernel
theorem dX6_start_10 : decode cX6_start 10 = .ok (.iload_n 2, 1) := by decide +kernel
theorem dX6_start_11 : decode cX6_start 11 = .ok (.iload_n 3, 1) := by decide +kernel
theorem dX6_start_12 : decode cX6_start 12 = .ok (.ifCond .ne 11, 3) := by decide +kernel
theorem dX6_start_15 : decode cX6_start 15 = .ok (.aload_n 0, 1) := by decide +kernel
theorem dX6_start_16 : decode cX6_start 16 = .ok (.iconst 1, 1) := by decide +kernel
theorem dX6_start_17 : decode cX6_start 17 = .ok (.invokevirtual 57, 3) := by decide +kernel
theorem dX6_start_20 : decode cX6_start 20 = .ok (.goto 22, 3) := by decide +kernel
theorem dX6_start_23 : decode cX6_start 23 = .ok (.iload_n 3, 1) := by decide +kernel
theorem dX6_start_24 : decode cX6_start 24 = .ok (.iconst 1, 1) := by decide +kernel
theorem dX6_start_25 : decode cX6_start 25 = .ok (.if_icmp .ne 10, 3) := by decide +kernel
theorem dX6_start_28 : decode cX6_start 28 = .ok (.aload_n 0, 1) := by decide +kernel
theorem dX6_start_29 : decode cX6_start 29 = .ok (.invokevirtual 60, 3) := by decide +kernel
theorem dX6_start_32 : decode cX6_start 32 = .ok (.goto 10, 3) := by decide +kernel
theorem dX6_start_35 : decode cX6_start 35 = .ok (.aload_n 0, 1) := by decide +kernel
theorem dX6_start_36 : decode cX6_start 36 = .ok (.iload_n 3, 1) := by decide +kernel
theorem dX6_start_37 : decode cX6_start 37 = .ok (.iconst 2, 1) := by decide +kernel
theorem dX6_start_38 : decode cX6_start 38 = .ok (.iadd, 1) := by decide +kernel
theorem dX6_start_39 : decode cX6_start 39 = .ok (.invokevirtual 57, 3) := by decide +kernel
theorem dX6_start_42 : decode cX6_start 42 = .ok (.iadd, 1) := by decide +kernel
theorem dX6_start_43 : decode cX6_start 43 = .ok (.istore_n 2, 1) := by decide +kernel
theorem dX6_start_44 : decode cX6_start 44 = .ok (.iinc 3 1, 3) := by decide +kernel
theorem dX6_start_47 : decode cX6_start 47 = .ok (.goto (-42), 3) := by decide +kernel
theorem dX6_start_50 : decode cX6_start 50 = .ok (.iload_n 2, 1) := by decide +kernel
theorem dX6_start_51 : decode cX6_start 51 = .ok (.ireturn, 1) := by decide +kernel
theorem dX6_piece_0 : decode cX6_piece 0 = .ok (.aload_n 0, 1) := by decide +kernel
theorem dX6_piece_1 : decode cX6_piece 1 = .ok (.iconst 4, 1) := by decide +kernel
theorem dX6_piece_2 : decode cX6_piece 2 = .ok (.aload_n 0, 1) := by decide +kernel
theorem dX6_piece_3 : decode cX6_piece 3 = .ok (.iload_n 1, 1) := by decide +kernel
theorem dX6_piece_4 : decode cX6_piece 4 = .ok (.invokevirtual 64, 3) := by decide +kernel
theorem dX6_piece_7 : decode cX6_piece 7 = .ok (.iload_n 2, 1) := by decide +kernel
theorem dX6_piece_8 : decode cX6_piece 8 = .ok (.iadd, 1) := by decide +kernel
theorem dX6_piece_9 : decode cX6_piece 9 = .ok (.imul, 1) := by decide +kernel
theorem dX6_piece_10 : decode cX6_piece 10 = .ok (.iload_n 3, 1) := by decide +kernel
theorem dX6_piece_11 : decode cX6_piece 11 = .ok (.iadd, 1) := by decide +kernel
theorem dX6_piece_12 : decode cX6_piece 12 = .ok (.invokevirtual 53, 3) := by decide +kernel
theorem dX6_piece_15 : decode cX6_piece 15 = .ok (.ireturn, 1) := by decide +kernel
theorem dX6_info_0 : decode cX6_info 0 = .ok (.aload_n 0, 1) := by decide +kernel
theorem dX6_info_1 : decode cX6_info 1 = .ok (.iconst 1, 1) := by decide +kernel
theorem dX6_info_2 : decode cX6_info 2 = .ok (.iload_n 1, 1) := by decide +kernel
theorem dX6_info_3 : decode cX6_info 3 = .ok (.aload_n 0, 1) := by decide +kernel
theorem dX6_info_4 : decode cX6_info 4 = .ok (.iconst 2, 1) := by decide +kernel
theorem dX6_info_5 : decode cX6_info 5 = .ok (.invokevirtual 57, 3) := by decide +kernel
theorem dX6_info_8 : decode cX6_info 8 = .ok (.isub, 1) := by decide +kernel
theorem dX6_info_9 : decode cX6_info 9 = .ok (.iload_n 2, 1) := by decide +kernel
theorem dX6_info_10 : decode cX6_info 10 = .ok (.invokevirtual 67, 3) := by decide +kernel
theorem dX6_info_13 : decode cX6_info 13 = .ok (.ireturn, 1) := by decide +kernel
theorem dX6_isThere_0 : decode cX6_isThere 0 = .ok (.iload_n 1, 1) := by decide +kernel
theorem dX6_isThere_1 : decode cX6_isThere 1 = .ok (.aload_n 0, 1) := by decide +kernel
theorem dX6_isThere_2 : decode cX6_isThere 2 = .ok (.iconst 2, 1) := by decide +kernel
theorem dX6_isThere_3 : decode cX6_isThere 3 = .ok (.invokevirtual 57, 3) := by decide +kernel
theorem dX6_isThere_6 : decode cX6_isThere 6 = .ok (.if_icmp .lt 51, 3) := by decide +kernel
theorem dX6_isThere_9 : decode cX6_isThere 9 = .ok (.iload_n 1, 1) := by decide +kernel
theorem dX6_isThere_10 : decode cX6_isThere 10 = .ok (.aload_n 0, 1) := by decide +kernel
theorem dX6_isThere_11 : decode cX6_isThere 11 = .ok (.iconst 3, 1) := by decide +kernel
theorem dX6_isThere_12 : decode cX6_isThere 12 = .ok (.invokevirtual 57, 3) := by decide +kernel
theorem dX6_isThere_15 : decode cX6_isThere 15 = .ok (.if_icmp .gt 42, 3) := by decide +kernel
theorem dX6_isThere_18 : decode cX6_isThere 18 = .ok (.aload_n 0, 1) := by decide +kernel
theorem dX6_isThere_19 : decode cX6_isThere 19 = .ok (.iload_n 1, 1) := by decide +kernel
theorem dX6_isThere_20 : decode cX6_isThere 20 = .ok (.aload_n 0, 1) := by decide +kernel
theorem dX6_isThere_21 : decode cX6_isThere 21 = .ok (.iconst 2, 1) := by decide +kernel
theorem dX6_isThere_22 : decode cX6_isThere 22 = .ok (.invokevirtual 57, 3) := by decide +kernel
theorem dX6_isThere_25 : decode cX6_isThere 25 = .ok (.if_icmp .lt 12, 3) := by decide +kernel
theorem dX6_isThere_28 : decode cX6_isThere 28 = .ok (.iload_n 1, 1) := by decide +kernel
theorem dX6_isThere_29 : decode cX6_isThere 29 = .ok (.aload_n 0, 1) := by decide +kernel
theorem dX6_isThere_30 : decode cX6_isThere 30 = .ok (.iconst 3, 1) := by decide +kernel
theorem dX6_isThere_31 : decode cX6_isThere 31 = .ok (.invokevirtual 57, 3) := by decide +kernel
theorem dX6_isThere_34 : decode cX6_isThere 34 = .ok (.if_icmp .le 11, 3) := by decide +kernel
theorem dX6_isThere_37 : decode cX6_isThere 37 = .ok (.aload_n 0, 1) := by decide +kernel
theorem dX6_isThere_38 : decode cX6_isThere 38 = .ok (.iconst 2, 1) := by decide +kernel
theorem dX6_isThere_39 : decode cX6_isThere 39 = .ok (.invokevirtual 57, 3) := by decide +kernel
theorem dX6_isThere_42 : decode cX6_isThere 42 = .ok (.goto 4, 3) := by decide +kernel
theorem dX6_isThere_45 : decode cX6_isThere 45 = .ok (.iload_n 1, 1) := by decide +kernel
theorem dX6_isThere_46 : decode cX6_isThere 46 = .ok (.iconst 0, 1) := by decide +kernel
theorem dX6_isThere_47 : decode cX6_isThere 47 = .ok (.invokevirtual 71, 3) := by decide +kernel
theorem dX6_isThere_50 : decode cX6_isThere 50 = .ok (.ifCond .le 7, 3) := by decide +kernel
theorem dX6_isThere_53 : decode cX6_isThere 53 = .ok (.iconst 1, 1) := by decide +kernel
theorem dX6_isThere_54 : decode cX6_isThere 54 = .ok (.goto 4, 3) := by decide +kernel
theorem dX6_isThere_57 : decode cX6_isThere 57 = .ok (.iconst 0, 1) := by decide +kernel
theorem dX6_isThere_58 : decode cX6_isThere 58 = .ok (.ireturn, 1) := by decide +kernel
theorem dX6_isWhole_0 : decode cX6_isWhole 0 = .ok (.aload_n 0, 1) := by decide +kernel
theorem dX6_isWhole_1 : decode cX6_isWhole 1 = .ok (.getfield 41, 3) := by decide +kernel
theorem dX6_isWhole_4 : decode cX6_isWhole 4 = .ok (.bipush 24, 2) := by decide +kernel
theorem dX6_isWhole_6 : decode cX6_isWhole 6 = .ok (.if_icmp .ge 5, 3) := by decide +kernel
theorem dX6_isWhole_9 : decode cX6_isWhole 9 = .ok (.iconst 0, 1) := by decide +kernel
theorem dX6_isWhole_10 : decode cX6_isWhole 10 = .ok (.ireturn, 1) := by decide +kernel
theorem dX6_isWhole_11 : decode cX6_isWhole 11 = .ok (.iconst 1, 1) := by decide +kernel
theorem dX6_isWhole_12 : decode cX6_isWhole 12 = .ok (.istore_n 1, 1) := by decide +kernel
theorem dX6_isWhole_13 : decode cX6_isWhole 13 = .ok (.iconst 0, 1) := by decide +kernel
theorem dX6_isWhole_14 : decode cX6_isWhole 14 = .ok (.istore_n 2, 1) := by decide +kernel
theorem dX6_isWhole_15 : decode cX6_isWhole 15 = .ok (.iload_n 2, 1) := by decide +kernel
theorem dX6_isWhole_16 : decode cX6_isWhole 16 = .ok (.bipush 12, 2) := by decide +kernel
theorem dX6_isWhole_18 : decode cX6_isWhole 18 = .ok (.if_icmp .ge 29, 3) := by decide +kernel
theorem dX6_isWhole_21 : decode cX6_isWhole 21 = .ok (.iload_n 1, 1) := by decide +kernel
theorem dX6_isWhole_22 : decode cX6_isWhole 22 = .ok (.ifCond .eq 17, 3) := by decide +kernel
theorem dX6_isWhole_25 : decode cX6_isWhole 25 = .ok (.aload_n 0, 1) := by decide +kernel
theorem dX6_isWhole_26 : decode cX6_isWhole 26 = .ok (.iload_n 2, 1) := by decide +kernel
theorem dX6_isWhole_27 : decode cX6_isWhole 27 = .ok (.invokevirtual 57, 3) := by decide +kernel
theorem dX6_isWhole_30 : decode cX6_isWhole 30 = .ok (.ldc 75, 2) := by decide +kernel
theorem dX6_isWhole_32 : decode cX6_isWhole 32 = .ok (.if_icmp .ge 7, 3) := by decide +kernel
theorem dX6_isWhole_35 : decode cX6_isWhole 35 = .ok (.iconst 1, 1) := by decide +kernel
theorem dX6_isWhole_36 : decode cX6_isWhole 36 = .ok (.goto 4, 3) := by decide +kernel
theorem dX6_isWhole_39 : decode cX6_isWhole 39 = .ok (.iconst 0, 1) := by decide +kernel
theorem dX6_isWhole_40 : decode cX6_isWhole 40 = .ok (.istore_n 1, 1) := by decide +kernel
theorem dX6_isWhole_41 : decode cX6_isWhole 41 = .ok (.iinc 2 1, 3) := by decide +kernel
theorem dX6_isWhole_44 : decode cX6_isWhole 44 = .ok (.goto (-29), 3) := by decide +kernel
theorem dX6_isWhole_47 : decode cX6_isWhole 47 = .ok (.iload_n 1, 1) := by decide +kernel
theorem dX6_isWhole_48 : decode cX6_isWhole 48 = .ok (.ifCond .eq 54, 3) := by decide +kernel
theorem dX6_isWhole_51 : decode cX6_isWhole 51 = .ok (.aload_n 0, 1) := by decide +kernel
theorem dX6_isWhole_52 : decode cX6_isWhole 52 = .ok (.iconst 1, 1) := by decide +kernel
theorem dX6_isWhole_53 : decode cX6_isWhole 53 = .ok (.invokevirtual 57, 3) := by decide +kernel
theorem dX6_isWhole_56 : decode cX6_isWhole 56 = .ok (.iconst 1, 1) := by decide +kernel
theorem dX6_isWhole_57 : decode cX6_isWhole 57 = .ok (.if_icmp .le 45, 3) := by decide +kernel
theorem dX6_isWhole_60 : decode cX6_isWhole 60 = .ok (.aload_n 0, 1) := by decide +kernel
theorem dX6_isWhole_61 : decode cX6_isWhole 61 = .ok (.iconst 2, 1) := by decide +kernel
theorem dX6_isWhole_62 : decode cX6_isWhole 62 = .ok (.invokevirtual 57, 3) := by decide +kernel
theorem dX6_isWhole_65 : decode cX6_isWhole 65 = .ok (.aload_n 0, 1) := by decide +kernel
theorem dX6_isWhole_66 : decode cX6_isWhole 66 = .ok (.iconst 3, 1) := by decide +kernel
theorem dX6_isWhole_67 : decode cX6_isWhole 67 = .ok (.invokevirtual 57, 3) := by decide +kernel
theorem dX6_isWhole_70 : decode cX6_isWhole 70 = .ok (.iconst 1, 1) := by decide +kernel
theorem dX6_isWhole_71 : decode cX6_isWhole 71 = .ok (.iadd, 1) := by decide +kernel
theorem dX6_isWhole_72 : decode cX6_isWhole 72 = .ok (.if_icmp .gt 30, 3) := by decide +kernel
theorem dX6_isWhole_75 : decode cX6_isWhole 75 = .ok (.aload_n 0, 1) := by decide +kernel
theorem dX6_isWhole_76 : decode cX6_isWhole 76 = .ok (.iconst 3, 1) := by decide +kernel
theorem dX6_isWhole_77 : decode cX6_isWhole 77 = .ok (.invokevirtual 57, 3) := by decide +kernel
theorem dX6_isWhole_80 : decode cX6_isWhole 80 = .ok (.sipush 256, 3) := by decide +kernel
theorem dX6_isWhole_83 : decode cX6_isWhole 83 = .ok (.if_icmp .ge 19, 3) := by decide +kernel
theorem dX6_isWhole_86 : decode cX6_isWhole 86 = .ok (.aload_n 0, 1) := by decide +kernel
theorem dX6_isWhole_87 : decode cX6_isWhole 87 = .ok (.bipush 10, 2) := by decide +kernel
theorem dX6_isWhole_89 : decode cX6_isWhole 89 = .ok (.invokevirtual 57, 3) := by decide +kernel
theorem dX6_isWhole_92 : decode cX6_isWhole 92 = .ok (.sipush 257, 3) := by decide +kernel
theorem dX6_isWhole_95 : decode cX6_isWhole 95 = .ok (.if_icmp .ge 7, 3) := by decide +kernel
theorem dX6_isWhole_98 : decode cX6_isWhole 98 = .ok (.iconst 1, 1) := by decide +kernel
theorem dX6_isWhole_99 : decode cX6_isWhole 99 = .ok (.goto 4, 3) := by decide +kernel
theorem dX6_isWhole_102 : decode cX6_isWhole 102 = .ok (.iconst 0, 1) := by decide +kernel
theorem dX6_isWhole_103 : decode cX6_isWhole 103 = .ok (.istore_n 1, 1) := by decide +kernel
theorem dX6_isWhole_104 : decode cX6_isWhole 104 = .ok (.iconst 4, 1) := by decide +kernel
theorem dX6_isWhole_105 : decode cX6_isWhole 105 = .ok (.istore_n 2, 1) := by decide +kernel
theorem dX6_isWhole_106 : decode cX6_isWhole 106 = .ok (.iload_n 2, 1) := by decide +kernel
theorem dX6_isWhole_107 : decode cX6_isWhole 107 = .ok (.bipush 8, 2) := by decide +kernel
theorem dX6_isWhole_109 : decode cX6_isWhole 109 = .ok (.if_icmp .ge 27, 3) := by decide +kernel
theorem dX6_isWhole_112 : decode cX6_isWhole 112 = .ok (.iload_n 1, 1) := by decide +kernel
theorem dX6_isWhole_113 : decode cX6_isWhole 113 = .ok (.ifCond .eq 15, 3) := by decide +kernel
theorem dX6_isWhole_116 : decode cX6_isWhole 116 = .ok (.aload_n 0, 1) := by decide +kernel
theorem dX6_isWhole_117 : decode cX6_isWhole 117 = .ok (.iload_n 2, 1) := by decide +kernel
theorem dX6_isWhole_118 : decode cX6_isWhole 118 = .ok (.invokevirtual 57, 3) := by decide +kernel
theorem dX6_isWhole_121 : decode cX6_isWhole 121 = .ok (.ifCond .le 7, 3) := by decide +kernel
theorem dX6_isWhole_124 : decode cX6_isWhole 124 = .ok (.iconst 1, 1) := by decide +kernel
theorem dX6_isWhole_125 : decode cX6_isWhole 125 = .ok (.goto 4, 3) := by decide +kernel
theorem dX6_isWhole_128 : decode cX6_isWhole 128 = .ok (.iconst 0, 1) := by decide +kernel
theorem dX6_isWhole_129 : decode cX6_isWhole 129 = .ok (.istore_n 1, 1) := by decide +kernel
theorem dX6_isWhole_130 : decode cX6_isWhole 130 = .ok (.iinc 2 1, 3) := by decide +kernel
theorem dX6_isWhole_133 : decode cX6_isWhole 133 = .ok (.goto (-27), 3) := by decide +kernel
theorem dX6_isWhole_136 : decode cX6_isWhole 136 = .ok (.iload_n 1, 1) := by decide +kernel
theorem dX6_isWhole_137 : decode cX6_isWhole 137 = .ok (.ifCond .eq 35, 3) := by decide +kernel
theorem dX6_isWhole_140 : decode cX6_isWhole 140 = .ok (.aload_n 0, 1) := by decide +kernel
theorem dX6_isWhole_141 : decode cX6_isWhole 141 = .ok (.bipush 10, 2) := by decide +kernel
theorem dX6_isWhole_143 : decode cX6_isWhole 143 = .ok (.invokevirtual 64, 3) := by decide +kernel
theorem dX6_isWhole_146 : decode cX6_isWhole 146 = .ok (.aload_n 0, 1) := by decide +kernel
theorem dX6_isWhole_147 : decode cX6_isWhole 147 = .ok (.iconst 0, 1) := by decide +kernel
theorem dX6_isWhole_148 : decode cX6_isWhole 148 = .ok (.invokevirtual 57, 3) := by decide +kernel
theorem dX6_isWhole_151 : decode cX6_isWhole 151 = .ok (.if_icmp .ne 21, 3) := by decide +kernel
theorem dX6_isWhole_154 : decode cX6_isWhole 154 = .ok (.aload_n 0, 1) := by decide +kernel
theorem dX6_isWhole_155 : decode cX6_isWhole 155 = .ok (.getfield 41, 3) := by decide +kernel
theorem dX6_isWhole_158 : decode cX6_isWhole 158 = .ok (.iconst 4, 1) := by decide +kernel
theorem dX6_isWhole_159 : decode cX6_isWhole 159 = .ok (.aload_n 0, 1) := by decide +kernel
theorem dX6_isWhole_160 : decode cX6_isWhole 160 = .ok (.iconst 0, 1) := by decide +kernel
theorem dX6_isWhole_161 : decode cX6_isWhole 161 = .ok (.invokevirtual 57, 3) := by decide +kernel
theorem dX6_isWhole_164 : decode cX6_isWhole 164 = .ok (.imul, 1) := by decide +kernel
theorem dX6_isWhole_165 : decode cX6_isWhole 165 = .ok (.if_icmp .ne 7, 3) := by decide +kernel
theorem dX6_isWhole_168 : decode cX6_isWhole 168 = .ok (.iconst 1, 1) := by decide +kernel
theorem dX6_isWhole_169 : decode cX6_isWhole 169 = .ok (.goto 4, 3) := by decide +kernel
theorem dX6_isWhole_172 : decode cX6_isWhole 172 = .ok (.iconst 0, 1) := by decide +kernel
theorem dX6_isWhole_173 : decode cX6_isWhole 173 = .ok (.ireturn, 1) := by decide +kernel
theorem dX6_ends_0 : decode cX6_ends 0 = .ok (.aload_n 0, 1) := by decide +kernel
theorem dX6_ends_1 : decode cX6_ends 1 = .ok (.iload_n 1, 1) := by decide +kernel
theorem dX6_ends_2 : decode cX6_ends 2 = .ok (.iconst 3, 1) := by decide +kernel
end
section
theorem dX6_ends_3 : decode cX6_ends 3 = .ok (.invokevirtual 71, 3) := by decide +kernel
theorem dX6_ends_6 : decode cX6_ends 6 = .ok (.istore_n 2, 1) := by decide +kernel
theorem dX6_ends_7 : decode cX6_ends 7 = .ok (.iconst 0, 1) := by decide +kernel
theorem dX6_ends_8 : decode cX6_ends 8 = .ok (.istore_n 3, 1) := by decide +kernel
theorem dX6_ends_9 : decode cX6_ends 9 = .ok (.iload_n 3, 1) := by decide +kernel
theorem dX6_ends_10 : decode cX6_ends 10 = .ok (.sipush 256, 3) := by decide +kernel
theorem dX6_ends_13 : decode cX6_ends 13 = .ok (.if_icmp .ge 45, 3) := by decide +kernel
theorem dX6_ends_16 : decode cX6_ends 16 = .ok (.iload_n 2, 1) := by decide +kernel
theorem dX6_ends_17 : decode cX6_ends 17 = .ok (.iload_n 1, 1) := by decide +kernel
theorem dX6_ends_18 : decode cX6_ends 18 = .ok (.if_icmp .ne 5, 3) := by decide +kernel
theorem dX6_ends_21 : decode cX6_ends 21 = .ok (.iconst 0, 1) := by decide +kernel
theorem dX6_ends_22 : decode cX6_ends 22 = .ok (.ireturn, 1) := by decide +kernel
theorem dX6_ends_23 : decode cX6_ends 23 = .ok (.aload_n 0, 1) := by decide +kernel
theorem dX6_ends_24 : decode cX6_ends 24 = .ok (.iload_n 2, 1) := by decide +kernel
theorem dX6_ends_25 : decode cX6_ends 25 = .ok (.invokevirtual 76, 3) := by decide +kernel
theorem dX6_ends_28 : decode cX6_ends 28 = .ok (.ifCond .eq 15, 3) := by decide +kernel
theorem dX6_ends_31 : decode cX6_ends 31 = .ok (.aload_n 0, 1) := by decide +kernel
theorem dX6_ends_32 : decode cX6_ends 32 = .ok (.iload_n 2, 1) := by decide +kernel
theorem dX6_ends_33 : decode cX6_ends 33 = .ok (.iconst 2, 1) := by decide +kernel
theorem dX6_ends_34 : decode cX6_ends 34 = .ok (.invokevirtual 71, 3) := by decide +kernel
theorem dX6_ends_37 : decode cX6_ends 37 = .ok (.iconst 4, 1) := by decide +kernel
theorem dX6_ends_38 : decode cX6_ends 38 = .ok (.irem, 1) := by decide +kernel
theorem dX6_ends_39 : decode cX6_ends 39 = .ok (.iconst 2, 1) := by decide +kernel
theorem dX6_ends_40 : decode cX6_ends 40 = .ok (.if_icmp .eq 5, 3) := by decide +kernel
theorem dX6_ends_43 : decode cX6_ends 43 = .ok (.iconst 1, 1) := by decide +kernel
theorem dX6_ends_44 : decode cX6_ends 44 = .ok (.ireturn, 1) := by decide +kernel
theorem dX6_ends_45 : decode cX6_ends 45 = .ok (.aload_n 0, 1) := by decide +kernel
theorem dX6_ends_46 : decode cX6_ends 46 = .ok (.iload_n 2, 1) := by decide +kernel
theorem dX6_ends_47 : decode cX6_ends 47 = .ok (.iconst 3, 1) := by decide +kernel
theorem dX6_ends_48 : decode cX6_ends 48 = .ok (.invokevirtual 71, 3) := by decide +kernel
theorem dX6_ends_51 : decode cX6_ends 51 = .ok (.istore_n 2, 1) := by decide +kernel
theorem dX6_ends_52 : decode cX6_ends 52 = .ok (.iinc 3 1, 3) := by decide +kernel
theorem dX6_ends_55 : decode cX6_ends 55 = .ok (.goto (-46), 3) := by decide +kernel
theorem dX6_ends_58 : decode cX6_ends 58 = .ok (.iconst 1, 1) := by decide +kernel
theorem dX6_ends_59 : decode cX6_ends 59 = .ok (.ireturn, 1) := by decide +kernel
theorem dX6_goodInfo_0 : decode cX6_goodInfo 0 = .ok (.aload_n 0, 1) := by decide +kernel
theorem dX6_goodInfo_1 : decode cX6_goodInfo 1 = .ok (.iload_n 1, 1) := by decide +kernel
theorem dX6_goodInfo_2 : decode cX6_goodInfo 2 = .ok (.invokevirtual 76, 3) := by decide +kernel
theorem dX6_goodInfo_5 : decode cX6_goodInfo 5 = .ok (.ifCond .ne 5, 3) := by decide +kernel
theorem dX6_goodInfo_8 : decode cX6_goodInfo 8 = .ok (.iconst 1, 1) := by decide +kernel
theorem dX6_goodInfo_9 : decode cX6_goodInfo 9 = .ok (.ireturn, 1) := by decide +kernel
theorem dX6_goodInfo_10 : decode cX6_goodInfo 10 = .ok (.aload_n 0, 1) := by decide +kernel
theorem dX6_goodInfo_11 : decode cX6_goodInfo 11 = .ok (.iload_n 1, 1) := by decide +kernel
theorem dX6_goodInfo_12 : decode cX6_goodInfo 12 = .ok (.iconst 3, 1) := by decide +kernel
theorem dX6_goodInfo_13 : decode cX6_goodInfo 13 = .ok (.invokevirtual 71, 3) := by decide +kernel
theorem dX6_goodInfo_16 : decode cX6_goodInfo 16 = .ok (.istore_n 2, 1) := by decide +kernel
theorem dX6_goodInfo_17 : decode cX6_goodInfo 17 = .ok (.aload_n 0, 1) := by decide +kernel
theorem dX6_goodInfo_18 : decode cX6_goodInfo 18 = .ok (.iload_n 1, 1) := by decide +kernel
theorem dX6_goodInfo_19 : decode cX6_goodInfo 19 = .ok (.iconst 0, 1) := by decide +kernel
theorem dX6_goodInfo_20 : decode cX6_goodInfo 20 = .ok (.invokevirtual 71, 3) := by decide +kernel
theorem dX6_goodInfo_23 : decode cX6_goodInfo 23 = .ok (.aload_n 0, 1) := by decide +kernel
theorem dX6_goodInfo_24 : decode cX6_goodInfo 24 = .ok (.iconst 4, 1) := by decide +kernel
theorem dX6_goodInfo_25 : decode cX6_goodInfo 25 = .ok (.invokevirtual 57, 3) := by decide +kernel
theorem dX6_goodInfo_28 : decode cX6_goodInfo 28 = .ok (.if_icmp .ge 59, 3) := by decide +kernel
theorem dX6_goodInfo_31 : decode cX6_goodInfo 31 = .ok (.aload_n 0, 1) := by decide +kernel
theorem dX6_goodInfo_32 : decode cX6_goodInfo 32 = .ok (.iload_n 1, 1) := by decide +kernel
theorem dX6_goodInfo_33 : decode cX6_goodInfo 33 = .ok (.iconst 1, 1) := by decide +kernel
theorem dX6_goodInfo_34 : decode cX6_goodInfo 34 = .ok (.invokevirtual 71, 3) := by decide +kernel
theorem dX6_goodInfo_37 : decode cX6_goodInfo 37 = .ok (.bipush 16, 2) := by decide +kernel
theorem dX6_goodInfo_39 : decode cX6_goodInfo 39 = .ok (.idiv, 1) := by decide +kernel
theorem dX6_goodInfo_40 : decode cX6_goodInfo 40 = .ok (.aload_n 0, 1) := by decide +kernel
theorem dX6_goodInfo_41 : decode cX6_goodInfo 41 = .ok (.iconst 5, 1) := by decide +kernel
theorem dX6_goodInfo_42 : decode cX6_goodInfo 42 = .ok (.invokevirtual 57, 3) := by decide +kernel
theorem dX6_goodInfo_45 : decode cX6_goodInfo 45 = .ok (.if_icmp .ge 42, 3) := by decide +kernel
theorem dX6_goodInfo_48 : decode cX6_goodInfo 48 = .ok (.aload_n 0, 1) := by decide +kernel
theorem dX6_goodInfo_49 : decode cX6_goodInfo 49 = .ok (.iload_n 1, 1) := by decide +kernel
theorem dX6_goodInfo_50 : decode cX6_goodInfo 50 = .ok (.iconst 1, 1) := by decide +kernel
theorem dX6_goodInfo_51 : decode cX6_goodInfo 51 = .ok (.invokevirtual 71, 3) := by decide +kernel
theorem dX6_goodInfo_54 : decode cX6_goodInfo 54 = .ok (.bipush 16, 2) := by decide +kernel
theorem dX6_goodInfo_56 : decode cX6_goodInfo 56 = .ok (.irem, 1) := by decide +kernel
theorem dX6_goodInfo_57 : decode cX6_goodInfo 57 = .ok (.aload_n 0, 1) := by decide +kernel
theorem dX6_goodInfo_58 : decode cX6_goodInfo 58 = .ok (.bipush 6, 2) := by decide +kernel
theorem dX6_goodInfo_60 : decode cX6_goodInfo 60 = .ok (.invokevirtual 57, 3) := by decide +kernel
theorem dX6_goodInfo_63 : decode cX6_goodInfo 63 = .ok (.if_icmp .ge 24, 3) := by decide +kernel
theorem dX6_goodInfo_66 : decode cX6_goodInfo 66 = .ok (.aload_n 0, 1) := by decide +kernel
theorem dX6_goodInfo_67 : decode cX6_goodInfo 67 = .ok (.iload_n 1, 1) := by decide +kernel
theorem dX6_goodInfo_68 : decode cX6_goodInfo 68 = .ok (.iconst 2, 1) := by decide +kernel
theorem dX6_goodInfo_69 : decode cX6_goodInfo 69 = .ok (.invokevirtual 71, 3) := by decide +kernel
theorem dX6_goodInfo_72 : decode cX6_goodInfo 72 = .ok (.iconst 4, 1) := by decide +kernel
theorem dX6_goodInfo_73 : decode cX6_goodInfo 73 = .ok (.idiv, 1) := by decide +kernel
theorem dX6_goodInfo_74 : decode cX6_goodInfo 74 = .ok (.aload_n 0, 1) := by decide +kernel
theorem dX6_goodInfo_75 : decode cX6_goodInfo 75 = .ok (.bipush 7, 2) := by decide +kernel
theorem dX6_goodInfo_77 : decode cX6_goodInfo 77 = .ok (.invokevirtual 57, 3) := by decide +kernel
theorem dX6_goodInfo_80 : decode cX6_goodInfo 80 = .ok (.if_icmp .ge 7, 3) := by decide +kernel
theorem dX6_goodInfo_83 : decode cX6_goodInfo 83 = .ok (.iconst 1, 1) := by decide +kernel
theorem dX6_goodInfo_84 : decode cX6_goodInfo 84 = .ok (.goto 4, 3) := by decide +kernel
theorem dX6_goodInfo_87 : decode cX6_goodInfo 87 = .ok (.iconst 0, 1) := by decide +kernel
theorem dX6_goodInfo_88 : decode cX6_goodInfo 88 = .ok (.istore_n 3, 1) := by decide +kernel
theorem dX6_goodInfo_89 : decode cX6_goodInfo 89 = .ok (.aload_n 0, 1) := by decide +kernel
theorem dX6_goodInfo_90 : decode cX6_goodInfo 90 = .ok (.iload_n 1, 1) := by decide +kernel
theorem dX6_goodInfo_91 : decode cX6_goodInfo 91 = .ok (.iconst 2, 1) := by decide +kernel
theorem dX6_goodInfo_92 : decode cX6_goodInfo 92 = .ok (.invokevirtual 71, 3) := by decide +kernel
theorem dX6_goodInfo_95 : decode cX6_goodInfo 95 = .ok (.iconst 4, 1) := by decide +kernel
theorem dX6_goodInfo_96 : decode cX6_goodInfo 96 = .ok (.irem, 1) := by decide +kernel
theorem dX6_goodInfo_97 : decode cX6_goodInfo 97 = .ok (.istore 4, 2) := by decide +kernel
theorem dX6_goodInfo_99 : decode cX6_goodInfo 99 = .ok (.iload_n 3, 1) := by decide +kernel
theorem dX6_goodInfo_100 : decode cX6_goodInfo 100 = .ok (.ifCond .eq 71, 3) := by decide +kernel
theorem dX6_goodInfo_103 : decode cX6_goodInfo 103 = .ok (.iload 4, 2) := by decide +kernel
theorem dX6_goodInfo_105 : decode cX6_goodInfo 105 = .ok (.ifCond .eq 62, 3) := by decide +kernel
theorem dX6_goodInfo_108 : decode cX6_goodInfo 108 = .ok (.iload 4, 2) := by decide +kernel
theorem dX6_goodInfo_110 : decode cX6_goodInfo 110 = .ok (.iconst 1, 1) := by decide +kernel
theorem dX6_goodInfo_111 : decode cX6_goodInfo 111 = .ok (.if_icmp .ne 16, 3) := by decide +kernel
theorem dX6_goodInfo_114 : decode cX6_goodInfo 114 = .ok (.iload_n 2, 1) := by decide +kernel
theorem dX6_goodInfo_115 : decode cX6_goodInfo 115 = .ok (.aload_n 0, 1) := by decide +kernel
theorem dX6_goodInfo_116 : decode cX6_goodInfo 116 = .ok (.bipush 8, 2) := by decide +kernel
theorem dX6_goodInfo_118 : decode cX6_goodInfo 118 = .ok (.invokevirtual 57, 3) := by decide +kernel
theorem dX6_goodInfo_121 : decode cX6_goodInfo 121 = .ok (.if_icmp .ge 50, 3) := by decide +kernel
theorem dX6_goodInfo_124 : decode cX6_goodInfo 124 = .ok (.goto 43, 3) := by decide +kernel
theorem dX6_goodInfo_127 : decode cX6_goodInfo 127 = .ok (.iload 4, 2) := by decide +kernel
theorem dX6_goodInfo_129 : decode cX6_goodInfo 129 = .ok (.iconst 2, 1) := by decide +kernel
theorem dX6_goodInfo_130 : decode cX6_goodInfo 130 = .ok (.if_icmp .ne 27, 3) := by decide +kernel
theorem dX6_goodInfo_133 : decode cX6_goodInfo 133 = .ok (.iload_n 2, 1) := by decide +kernel
theorem dX6_goodInfo_134 : decode cX6_goodInfo 134 = .ok (.iload_n 1, 1) := by decide +kernel
theorem dX6_goodInfo_135 : decode cX6_goodInfo 135 = .ok (.if_icmp .eq 36, 3) := by decide +kernel
theorem dX6_goodInfo_138 : decode cX6_goodInfo 138 = .ok (.aload_n 0, 1) := by decide +kernel
theorem dX6_goodInfo_139 : decode cX6_goodInfo 139 = .ok (.iload_n 2, 1) := by decide +kernel
theorem dX6_goodInfo_140 : decode cX6_goodInfo 140 = .ok (.invokevirtual 76, 3) := by decide +kernel
theorem dX6_goodInfo_143 : decode cX6_goodInfo 143 = .ok (.ifCond .eq 28, 3) := by decide +kernel
theorem dX6_goodInfo_146 : decode cX6_goodInfo 146 = .ok (.aload_n 0, 1) := by decide +kernel
theorem dX6_goodInfo_147 : decode cX6_goodInfo 147 = .ok (.iload_n 1, 1) := by decide +kernel
theorem dX6_goodInfo_148 : decode cX6_goodInfo 148 = .ok (.invokevirtual 80, 3) := by decide +kernel
theorem dX6_goodInfo_151 : decode cX6_goodInfo 151 = .ok (.ifCond .eq 20, 3) := by decide +kernel
theorem dX6_goodInfo_154 : decode cX6_goodInfo 154 = .ok (.goto 13, 3) := by decide +kernel
theorem dX6_goodInfo_157 : decode cX6_goodInfo 157 = .ok (.iload_n 2, 1) := by decide +kernel
theorem dX6_goodInfo_158 : decode cX6_goodInfo 158 = .ok (.aload_n 0, 1) := by decide +kernel
theorem dX6_goodInfo_159 : decode cX6_goodInfo 159 = .ok (.bipush 10, 2) := by decide +kernel
theorem dX6_goodInfo_161 : decode cX6_goodInfo 161 = .ok (.invokevirtual 57, 3) := by decide +kernel
theorem dX6_goodInfo_164 : decode cX6_goodInfo 164 = .ok (.if_icmp .ge 7, 3) := by decide +kernel
theorem dX6_goodInfo_167 : decode cX6_goodInfo 167 = .ok (.iconst 1, 1) := by decide +kernel
theorem dX6_goodInfo_168 : decode cX6_goodInfo 168 = .ok (.goto 4, 3) := by decide +kernel
theorem dX6_goodInfo_171 : decode cX6_goodInfo 171 = .ok (.iconst 0, 1) := by decide +kernel
theorem dX6_goodInfo_172 : decode cX6_goodInfo 172 = .ok (.ireturn, 1) := by decide +kernel
theorem dX6_goodFractions_0 : decode cX6_goodFractions 0 = .ok (.iconst 2, 1) := by decide +kernel
theorem dX6_goodFractions_1 : decode cX6_goodFractions 1 = .ok (.istore_n 1, 1) := by decide +kernel
theorem dX6_goodFractions_2 : decode cX6_goodFractions 2 = .ok (.iload_n 1, 1) := by decide +kernel
theorem dX6_goodFractions_3 : decode cX6_goodFractions 3 = .ok (.bipush 10, 2) := by decide +kernel
theorem dX6_goodFractions_5 : decode cX6_goodFractions 5 = .ok (.if_icmp .ge 113, 3) := by decide +kernel
theorem dX6_goodFractions_8 : decode cX6_goodFractions 8 = .ok (.aload_n 0, 1) := by decide +kernel
theorem dX6_goodFractions_9 : decode cX6_goodFractions 9 = .ok (.iload_n 1, 1) := by decide +kernel
theorem dX6_goodFractions_10 : decode cX6_goodFractions 10 = .ok (.invokevirtual 64, 3) := by decide +kernel
theorem dX6_goodFractions_13 : decode cX6_goodFractions 13 = .ok (.istore_n 2, 1) := by decide +kernel
theorem dX6_goodFractions_14 : decode cX6_goodFractions 14 = .ok (.iconst 0, 1) := by decide +kernel
theorem dX6_goodFractions_15 : decode cX6_goodFractions 15 = .ok (.istore_n 3, 1) := by decide +kernel
theorem dX6_goodFractions_16 : decode cX6_goodFractions 16 = .ok (.iload_n 3, 1) := by decide +kernel
theorem dX6_goodFractions_17 : decode cX6_goodFractions 17 = .ok (.aload_n 0, 1) := by decide +kernel
theorem dX6_goodFractions_18 : decode cX6_goodFractions 18 = .ok (.iload_n 1, 1) := by decide +kernel
theorem dX6_goodFractions_19 : decode cX6_goodFractions 19 = .ok (.iconst 2, 1) := by decide +kernel
theorem dX6_goodFractions_20 : decode cX6_goodFractions 20 = .ok (.iadd, 1) := by decide +kernel
theorem dX6_goodFractions_21 : decode cX6_goodFractions 21 = .ok (.invokevirtual 57, 3) := by decide +kernel
theorem dX6_goodFractions_24 : decode cX6_goodFractions 24 = .ok (.if_icmp .ge 88, 3) := by decide +kernel
theorem dX6_goodFractions_27 : decode cX6_goodFractions 27 = .ok (.iload_n 1, 1) := by decide +kernel
theorem dX6_goodFractions_28 : decode cX6_goodFractions 28 = .ok (.bipush 6, 2) := by decide +kernel
theorem dX6_goodFractions_30 : decode cX6_goodFractions 30 = .ok (.if_icmp .eq 82, 3) := by decide +kernel
theorem dX6_goodFractions_33 : decode cX6_goodFractions 33 = .ok (.iload_n 1, 1) := by decide +kernel
theorem dX6_goodFractions_34 : decode cX6_goodFractions 34 = .ok (.bipush 8, 2) := by decide +kernel
theorem dX6_goodFractions_36 : decode cX6_goodFractions 36 = .ok (.if_icmp .eq 76, 3) := by decide +kernel
theorem dX6_goodFractions_39 : decode cX6_goodFractions 39 = .ok (.aload_n 0, 1) := by decide +kernel
theorem dX6_goodFractions_40 : decode cX6_goodFractions 40 = .ok (.iload_n 2, 1) := by decide +kernel
theorem dX6_goodFractions_41 : decode cX6_goodFractions 41 = .ok (.iload_n 3, 1) := by decide +kernel
theorem dX6_goodFractions_42 : decode cX6_goodFractions 42 = .ok (.iadd, 1) := by decide +kernel
theorem dX6_goodFractions_43 : decode cX6_goodFractions 43 = .ok (.invokevirtual 83, 3) := by decide +kernel
theorem dX6_goodFractions_46 : decode cX6_goodFractions 46 = .ok (.istore 4, 2) := by decide +kernel
theorem dX6_goodFractions_48 : decode cX6_goodFractions 48 = .ok (.iload_n 3, 1) := by decide +kernel
theorem dX6_goodFractions_49 : decode cX6_goodFractions 49 = .ok (.ifCond .ne 19, 3) := by decide +kernel
theorem dX6_goodFractions_52 : decode cX6_goodFractions 52 = .ok (.iload_n 1, 1) := by decide +kernel
theorem dX6_goodFractions_53 : decode cX6_goodFractions 53 = .ok (.bipush 6, 2) := by decide +kernel
theorem dX6_goodFractions_55 : decode cX6_goodFractions 55 = .ok (.if_icmp .lt 9, 3) := by decide +kernel
theorem dX6_goodFractions_58 : decode cX6_goodFractions 58 = .ok (.iload_n 1, 1) := by decide +kernel
theorem dX6_goodFractions_59 : decode cX6_goodFractions 59 = .ok (.bipush 9, 2) := by decide +kernel
theorem dX6_goodFractions_61 : decode cX6_goodFractions 61 = .ok (.if_icmp .ne 7, 3) := by decide +kernel
theorem dX6_goodFractions_64 : decode cX6_goodFractions 64 = .ok (.iconst 1, 1) := by decide +kernel
theorem dX6_goodFractions_65 : decode cX6_goodFractions 65 = .ok (.goto 4, 3) := by decide +kernel
theorem dX6_goodFractions_68 : decode cX6_goodFractions 68 = .ok (.iconst 0, 1) := by decide +kernel
theorem dX6_goodFractions_69 : decode cX6_goodFractions 69 = .ok (.istore 5, 2) := by decide +kernel
theorem dX6_goodFractions_71 : decode cX6_goodFractions 71 = .ok (.iload 5, 2) := by decide +kernel
theorem dX6_goodFractions_73 : decode cX6_goodFractions 73 = .ok (.ifCond .eq 17, 3) := by decide +kernel
theorem dX6_goodFractions_76 : decode cX6_goodFractions 76 = .ok (.iload_n 1, 1) := by decide +kernel
theorem dX6_goodFractions_77 : decode cX6_goodFractions 77 = .ok (.bipush 6, 2) := by decide +kernel
theorem dX6_goodFractions_79 : decode cX6_goodFractions 79 = .ok (.if_icmp .ge 27, 3) := by decide +kernel
theorem dX6_goodFractions_82 : decode cX6_goodFractions 82 = .ok (.iload 4, 2) := by decide +kernel
theorem dX6_goodFractions_84 : decode cX6_goodFractions 84 = .ok (.ifCond .eq 22, 3) := by decide +kernel
theorem dX6_goodFractions_87 : decode cX6_goodFractions 87 = .ok (.goto 17, 3) := by decide +kernel
theorem dX6_goodFractions_90 : decode cX6_goodFractions 90 = .ok (.iload 4, 2) := by decide +kernel
theorem dX6_goodFractions_92 : decode cX6_goodFractions 92 = .ok (.ldc 86, 2) := by decide +kernel
theorem dX6_goodFractions_94 : decode cX6_goodFractions 94 = .ok (.if_icmp .lt 10, 3) := by decide +kernel
theorem dX6_goodFractions_97 : decode cX6_goodFractions 97 = .ok (.iload 4, 2) := by decide +kernel
theorem dX6_goodFractions_99 : decode cX6_goodFractions 99 = .ok (.ldc 87, 2) := by decide +kernel
theorem dX6_goodFractions_101 : decode cX6_goodFractions 101 = .ok (.if_icmp .lt 5, 3) := by decide +kernel
theorem dX6_goodFractions_104 : decode cX6_goodFractions 104 = .ok (.iconst 0, 1) := by decide +kernel
theorem dX6_goodFractions_105 : decode cX6_goodFractions 105 = .ok (.ireturn, 1) := by decide +kernel
theorem dX6_goodFractions_106 : decode cX6_goodFractions 106 = .ok (.iinc 3 1, 3) := by decide +kernel
theorem dX6_goodFractions_109 : decode cX6_goodFractions 109 = .ok (.goto (-93), 3) := by decide +kernel
theorem dX6_goodFractions_112 : decode cX6_goodFractions 112 = .ok (.iinc 1 1, 3) := by decide +kernel
theorem dX6_goodFractions_115 : decode cX6_goodFractions 115 = .ok (.goto (-113), 3) := by decide +kernel
theorem dX6_goodFractions_118 : decode cX6_goodFractions 118 = .ok (.iconst 1, 1) := by decide +kernel
theorem dX6_goodFractions_119 : decode cX6_goodFractions 119 = .ok (.ireturn, 1) := by decide +kernel
theorem dX6_step_0 : decode cX6_step 0 = .ok (.aload_n 0, 1) := by decide +kernel
theorem dX6_step_1 : decode cX6_step 1 = .ok (.bipush 6, 2) := by decide +kernel
theorem dX6_step_3 : decode cX6_step 3 = .ok (.iload_n 1, 1) := by decide +kernel
theorem dX6_step_4 : decode cX6_step 4 = .ok (.iload_n 2, 1) := by decide +kernel
theorem dX6_step_5 : decode cX6_step 5 = .ok (.invokevirtual 67, 3) := by decide +kernel
theorem dX6_step_8 : decode cX6_step 8 = .ok (.ireturn, 1) := by decide +kernel
theorem dX6_boundary_0 : decode cX6_boundary 0 = .ok (.aload_n 0, 1) := by decide +kernel
theorem dX6_boundary_1 : decode cX6_boundary 1 = .ok (.bipush 8, 2) := by decide +kernel
theorem dX6_boundary_3 : decode cX6_boundary 3 = .ok (.invokevirtual 57, 3) := by decide +kernel
theorem dX6_boundary_6 : decode cX6_boundary 6 = .ok (.ifCond .le 24, 3) := by decide +kernel
theorem dX6_boundary_9 : decode cX6_boundary 9 = .ok (.aload_n 0, 1) := by decide +kernel
theorem dX6_boundary_10 : decode cX6_boundary 10 = .ok (.iconst 0, 1) := by decide +kernel
theorem dX6_boundary_11 : decode cX6_boundary 11 = .ok (.iconst 0, 1) := by decide +kernel
theorem dX6_boundary_12 : decode cX6_boundary 12 = .ok (.invokevirtual 88, 3) := by decide +kernel
theorem dX6_boundary_15 : decode cX6_boundary 15 = .ok (.sipush 255, 3) := by decide +kernel
theorem dX6_boundary_18 : decode cX6_boundary 18 = .ok (.if_icmp .ne 12, 3) := by decide +kernel
theorem dX6_boundary_21 : decode cX6_boundary 21 = .ok (.aload_n 0, 1) := by decide +kernel
theorem dX6_boundary_22 : decode cX6_boundary 22 = .ok (.iconst 0, 1) := by decide +kernel
theorem dX6_boundary_23 : decode cX6_boundary 23 = .ok (.iconst 1, 1) := by decide +kernel
theorem dX6_boundary_24 : decode cX6_boundary 24 = .ok (.invokevirtual 88, 3) := by decide +kernel
theorem dX6_boundary_27 : decode cX6_boundary 27 = .ok (.goto 4, 3) := by decide +kernel
theorem dX6_boundary_30 : decode cX6_boundary 30 = .ok (.iconst (-1), 1) := by decide +kernel
theorem dX6_boundary_31 : decode cX6_boundary 31 = .ok (.ireturn, 1) := by decide +kernel
theorem dX6_goodStep_0 : decode cX6_goodStep 0 = .ok (.aload_n 0, 1) := by decide +kernel
theorem dX6_goodStep_1 : decode cX6_goodStep 1 = .ok (.iload_n 1, 1) := by decide +kernel
theorem dX6_goodStep_2 : decode cX6_goodStep 2 = .ok (.iconst 0, 1) := by decide +kernel
theorem dX6_goodStep_3 : decode cX6_goodStep 3 = .ok (.invokevirtual 88, 3) := by decide +kernel
theorem dX6_goodStep_6 : decode cX6_goodStep 6 = .ok (.istore_n 2, 1) := by decide +kernel
theorem dX6_goodStep_7 : decode cX6_goodStep 7 = .ok (.aload_n 0, 1) := by decide +kernel
theorem dX6_goodStep_8 : decode cX6_goodStep 8 = .ok (.iload_n 1, 1) := by decide +kernel
theorem dX6_goodStep_9 : decode cX6_goodStep 9 = .ok (.iconst 1, 1) := by decide +kernel
theorem dX6_goodStep_10 : decode cX6_goodStep 10 = .ok (.invokevirtual 88, 3) := by decide +kernel
theorem dX6_goodStep_13 : decode cX6_goodStep 13 = .ok (.istore_n 3, 1) := by decide +kernel
theorem dX6_goodStep_14 : decode cX6_goodStep 14 = .ok (.aload_n 0, 1) := by decide +kernel
theorem dX6_goodStep_15 : decode cX6_goodStep 15 = .ok (.iload_n 1, 1) := by decide +kernel
theorem dX6_goodStep_16 : decode cX6_goodStep 16 = .ok (.iconst 2, 1) := by decide +kernel
theorem dX6_goodStep_17 : decode cX6_goodStep 17 = .ok (.invokevirtual 88, 3) := by decide +kernel
theorem dX6_goodStep_20 : decode cX6_goodStep 20 = .ok (.istore 4, 2) := by decide +kernel
theorem dX6_goodStep_22 : decode cX6_goodStep 22 = .ok (.aload_n 0, 1) := by decide +kernel
theorem dX6_goodStep_23 : decode cX6_goodStep 23 = .ok (.iload_n 1, 1) := by decide +kernel
theorem dX6_goodStep_24 : decode cX6_goodStep 24 = .ok (.iconst 3, 1) := by decide +kernel
theorem dX6_goodStep_25 : decode cX6_goodStep 25 = .ok (.invokevirtual 88, 3) := by decide +kernel
theorem dX6_goodStep_28 : decode cX6_goodStep 28 = .ok (.istore 5, 2) := by decide +kernel
theorem dX6_goodStep_30 : decode cX6_goodStep 30 = .ok (.iload_n 2, 1) := by decide +kernel
theorem dX6_goodStep_31 : decode cX6_goodStep 31 = .ok (.sipush 128, 3) := by decide +kernel
theorem dX6_goodStep_34 : decode cX6_goodStep 34 = .ok (.if_icmp .le 27, 3) := by decide +kernel
theorem dX6_goodStep_37 : decode cX6_goodStep 37 = .ok (.sipush 256, 3) := by decide +kernel
theorem dX6_goodStep_40 : decode cX6_goodStep 40 = .ok (.iload 4, 2) := by decide +kernel
theorem dX6_goodStep_42 : decode cX6_goodStep 42 = .ok (.imul, 1) := by decide +kernel
theorem dX6_goodStep_43 : decode cX6_goodStep 43 = .ok (.iload 5, 2) := by decide +kernel
theorem dX6_goodStep_45 : decode cX6_goodStep 45 = .ok (.iadd, 1) := by decide +kernel
theorem dX6_goodStep_46 : decode cX6_goodStep 46 = .ok (.aload_n 0, 1) := by decide +kernel
theorem dX6_goodStep_47 : decode cX6_goodStep 47 = .ok (.bipush 8, 2) := by decide +kernel
theorem dX6_goodStep_49 : decode cX6_goodStep 49 = .ok (.invokevirtual 57, 3) := by decide +kernel
theorem dX6_goodStep_52 : decode cX6_goodStep 52 = .ok (.if_icmp .ge 7, 3) := by decide +kernel
theorem dX6_goodStep_55 : decode cX6_goodStep 55 = .ok (.iconst 1, 1) := by decide +kernel
theorem dX6_goodStep_56 : decode cX6_goodStep 56 = .ok (.goto 4, 3) := by decide +kernel
theorem dX6_goodStep_59 : decode cX6_goodStep 59 = .ok (.iconst 0, 1) := by decide +kernel
theorem dX6_goodStep_60 : decode cX6_goodStep 60 = .ok (.ireturn, 1) := by decide +kernel
theorem dX6_goodStep_61 : decode cX6_goodStep 61 = .ok (.aload_n 0, 1) := by decide +kernel
theorem dX6_goodStep_62 : decode cX6_goodStep 62 = .ok (.iload_n 3, 1) := by decide +kernel
theorem dX6_goodStep_63 : decode cX6_goodStep 63 = .ok (.invokevirtual 76, 3) := by decide +kernel
theorem dX6_goodStep_66 : decode cX6_goodStep 66 = .ok (.ifCond .ne 11, 3) := by decide +kernel
theorem dX6_goodStep_69 : decode cX6_goodStep 69 = .ok (.iload_n 3, 1) := by decide +kernel
theorem dX6_goodStep_70 : decode cX6_goodStep 70 = .ok (.aload_n 0, 1) := by decide +kernel
theorem dX6_goodStep_71 : decode cX6_goodStep 71 = .ok (.invokevirtual 91, 3) := by decide +kernel
theorem dX6_goodStep_74 : decode cX6_goodStep 74 = .ok (.if_icmp .ne 28, 3) := by decide +kernel
theorem dX6_goodStep_77 : decode cX6_goodStep 77 = .ok (.iload_n 2, 1) := by decide +kernel
theorem dX6_goodStep_78 : decode cX6_goodStep 78 = .ok (.sipush 128, 3) := by decide +kernel
theorem dX6_goodStep_81 : decode cX6_goodStep 81 = .ok (.if_icmp .eq 17, 3) := by decide +kernel
theorem dX6_goodStep_84 : decode cX6_goodStep 84 = .ok (.iload_n 1, 1) := by decide +kernel
theorem dX6_goodStep_85 : decode cX6_goodStep 85 = .ok (.iload_n 2, 1) := by decide +kernel
theorem dX6_goodStep_86 : decode cX6_goodStep 86 = .ok (.iadd, 1) := by decide +kernel
theorem dX6_goodStep_87 : decode cX6_goodStep 87 = .ok (.iconst 1, 1) := by decide +kernel
theorem dX6_goodStep_88 : decode cX6_goodStep 88 = .ok (.iadd, 1) := by decide +kernel
theorem dX6_goodStep_89 : decode cX6_goodStep 89 = .ok (.aload_n 0, 1) := by decide +kernel
theorem dX6_goodStep_90 : decode cX6_goodStep 90 = .ok (.bipush 8, 2) := by decide +kernel
theorem dX6_goodStep_92 : decode cX6_goodStep 92 = .ok (.invokevirtual 57, 3) := by decide +kernel
theorem dX6_goodStep_95 : decode cX6_goodStep 95 = .ok (.if_icmp .ge 7, 3) := by decide +kernel
theorem dX6_goodStep_98 : decode cX6_goodStep 98 = .ok (.iconst 1, 1) := by decide +kernel
theorem dX6_goodStep_99 : decode cX6_goodStep 99 = .ok (.goto 4, 3) := by decide +kernel
theorem dX6_goodStep_102 : decode cX6_goodStep 102 = .ok (.iconst 0, 1) := by decide +kernel
theorem dX6_goodStep_103 : decode cX6_goodStep 103 = .ok (.istore 6, 2) := by decide +kernel
theorem dX6_goodStep_105 : decode cX6_goodStep 105 = .ok (.iload 4, 2) := by decide +kernel
theorem dX6_goodStep_107 : decode cX6_goodStep 107 = .ok (.bipush 127, 2) := by decide +kernel
theorem dX6_goodStep_109 : decode cX6_goodStep 109 = .ok (.if_icmp .le 36, 3) := by decide +kernel
theorem dX6_goodStep_112 : decode cX6_goodStep 112 = .ok (.iload 6, 2) := by decide +kernel
theorem dX6_goodStep_114 : decode cX6_goodStep 114 = .ok (.ifCond .eq 29, 3) := by decide +kernel
theorem dX6_goodStep_117 : decode cX6_goodStep 117 = .ok (.sipush 256, 3) := by decide +kernel
theorem dX6_goodStep_120 : decode cX6_goodStep 120 = .ok (.iload 4, 2) := by decide +kernel
theorem dX6_goodStep_122 : decode cX6_goodStep 122 = .ok (.sipush 128, 3) := by decide +kernel
theorem dX6_goodStep_125 : decode cX6_goodStep 125 = .ok (.isub, 1) := by decide +kernel
theorem dX6_goodStep_126 : decode cX6_goodStep 126 = .ok (.imul, 1) := by decide +kernel
theorem dX6_goodStep_127 : decode cX6_goodStep 127 = .ok (.iload 5, 2) := by decide +kernel
theorem dX6_goodStep_129 : decode cX6_goodStep 129 = .ok (.iadd, 1) := by decide +kernel
theorem dX6_goodStep_130 : decode cX6_goodStep 130 = .ok (.aload_n 0, 1) := by decide +kernel
theorem dX6_goodStep_131 : decode cX6_goodStep 131 = .ok (.bipush 9, 2) := by decide +kernel
theorem dX6_goodStep_133 : decode cX6_goodStep 133 = .ok (.invokevirtual 57, 3) := by decide +kernel
theorem dX6_goodStep_136 : decode cX6_goodStep 136 = .ok (.if_icmp .ge 7, 3) := by decide +kernel
theorem dX6_goodStep_139 : decode cX6_goodStep 139 = .ok (.iconst 1, 1) := by decide +kernel
theorem dX6_goodStep_140 : decode cX6_goodStep 140 = .ok (.goto 4, 3) := by decide +kernel
theorem dX6_goodStep_143 : decode cX6_goodStep 143 = .ok (.iconst 0, 1) := by decide +kernel
theorem dX6_goodStep_144 : decode cX6_goodStep 144 = .ok (.ireturn, 1) := by decide +kernel
theorem dX6_goodStep_145 : decode cX6_goodStep 145 = .ok (.iload 6, 2) := by decide +kernel
theorem dX6_goodStep_147 : decode cX6_goodStep 147 = .ok (.ifCond .eq 42, 3) := by decide +kernel
theorem dX6_goodStep_150 : decode cX6_goodStep 150 = .ok (.aload_n 0, 1) := by decide +kernel
theorem dX6_goodStep_151 : decode cX6_goodStep 151 = .ok (.iload 5, 2) := by decide +kernel
theorem dX6_goodStep_153 : decode cX6_goodStep 153 = .ok (.invokevirtual 76, 3) := by decide +kernel
theorem dX6_goodStep_156 : decode cX6_goodStep 156 = .ok (.ifCond .eq 33, 3) := by decide +kernel
theorem dX6_goodStep_159 : decode cX6_goodStep 159 = .ok (.iload 4, 2) := by decide +kernel
theorem dX6_goodStep_161 : decode cX6_goodStep 161 = .ok (.iconst 4, 1) := by decide +kernel
theorem dX6_goodStep_162 : decode cX6_goodStep 162 = .ok (.if_icmp .lt 23, 3) := by decide +kernel
theorem dX6_goodStep_165 : decode cX6_goodStep 165 = .ok (.iload 4, 2) := by decide +kernel
theorem dX6_goodStep_167 : decode cX6_goodStep 167 = .ok (.iconst 4, 1) := by decide +kernel
theorem dX6_goodStep_168 : decode cX6_goodStep 168 = .ok (.if_icmp .le 10, 3) := by decide +kernel
theorem dX6_goodStep_171 : decode cX6_goodStep 171 = .ok (.iload 4, 2) := by decide +kernel
theorem dX6_goodStep_173 : decode cX6_goodStep 173 = .ok (.bipush 8, 2) := by decide +kernel
theorem dX6_goodStep_175 : decode cX6_goodStep 175 = .ok (.if_icmp .lt 10, 3) := by decide +kernel
theorem dX6_goodStep_178 : decode cX6_goodStep 178 = .ok (.iload 4, 2) := by decide +kernel
theorem dX6_goodStep_180 : decode cX6_goodStep 180 = .ok (.bipush 11, 2) := by decide +kernel
theorem dX6_goodStep_182 : decode cX6_goodStep 182 = .ok (.if_icmp .ne 7, 3) := by decide +kernel
theorem dX6_goodStep_185 : decode cX6_goodStep 185 = .ok (.iconst 1, 1) := by decide +kernel
theorem dX6_goodStep_186 : decode cX6_goodStep 186 = .ok (.goto 4, 3) := by decide +kernel
theorem dX6_goodStep_189 : decode cX6_goodStep 189 = .ok (.iconst 0, 1) := by decide +kernel
theorem dX6_goodStep_190 : decode cX6_goodStep 190 = .ok (.ireturn, 1) := by decide +kernel
theorem dX6_goodPiece_0 : decode cX6_goodPiece 0 = .ok (.aload_n 0, 1) := by decide +kernel
theorem dX6_goodPiece_1 : decode cX6_goodPiece 1 = .ok (.aload_n 0, 1) := by decide +kernel
theorem dX6_goodPiece_2 : decode cX6_goodPiece 2 = .ok (.bipush 8, 2) := by decide +kernel
theorem dX6_goodPiece_4 : decode cX6_goodPiece 4 = .ok (.iload_n 1, 1) := by decide +kernel
theorem dX6_goodPiece_5 : decode cX6_goodPiece 5 = .ok (.iconst 3, 1) := by decide +kernel
theorem dX6_goodPiece_6 : decode cX6_goodPiece 6 = .ok (.invokevirtual 67, 3) := by decide +kernel
theorem dX6_goodPiece_9 : decode cX6_goodPiece 9 = .ok (.invokevirtual 76, 3) := by decide +kernel
theorem dX6_goodPiece_12 : decode cX6_goodPiece 12 = .ok (.istore_n 2, 1) := by decide +kernel
theorem dX6_goodPiece_13 : decode cX6_goodPiece 13 = .ok (.iconst 0, 1) := by decide +kernel
theorem dX6_goodPiece_14 : decode cX6_goodPiece 14 = .ok (.istore_n 3, 1) := by decide +kernel
theorem dX6_goodPiece_15 : decode cX6_goodPiece 15 = .ok (.iload_n 3, 1) := by decide +kernel
theorem dX6_goodPiece_16 : decode cX6_goodPiece 16 = .ok (.iconst 3, 1) := by decide +kernel
theorem dX6_goodPiece_17 : decode cX6_goodPiece 17 = .ok (.if_icmp .ge 45, 3) := by decide +kernel
theorem dX6_goodPiece_20 : decode cX6_goodPiece 20 = .ok (.iload_n 2, 1) := by decide +kernel
theorem dX6_goodPiece_21 : decode cX6_goodPiece 21 = .ok (.ifCond .eq 33, 3) := by decide +kernel
theorem dX6_goodPiece_24 : decode cX6_goodPiece 24 = .ok (.aload_n 0, 1) := by decide +kernel
theorem dX6_goodPiece_25 : decode cX6_goodPiece 25 = .ok (.bipush 8, 2) := by decide +kernel
theorem dX6_goodPiece_27 : decode cX6_goodPiece 27 = .ok (.iload_n 1, 1) := by decide +kernel
theorem dX6_goodPiece_28 : decode cX6_goodPiece 28 = .ok (.iload_n 3, 1) := by decide +kernel
theorem dX6_goodPiece_29 : decode cX6_goodPiece 29 = .ok (.invokevirtual 67, 3) := by decide +kernel
theorem dX6_goodPiece_32 : decode cX6_goodPiece 32 = .ok (.ifCond .eq 18, 3) := by decide +kernel
theorem dX6_goodPiece_35 : decode cX6_goodPiece 35 = .ok (.aload_n 0, 1) := by decide +kernel
theorem dX6_goodPiece_36 : decode cX6_goodPiece 36 = .ok (.aload_n 0, 1) := by decide +kernel
theorem dX6_goodPiece_37 : decode cX6_goodPiece 37 = .ok (.bipush 8, 2) := by decide +kernel
theorem dX6_goodPiece_39 : decode cX6_goodPiece 39 = .ok (.iload_n 1, 1) := by decide +kernel
theorem dX6_goodPiece_40 : decode cX6_goodPiece 40 = .ok (.iload_n 3, 1) := by decide +kernel
theorem dX6_goodPiece_41 : decode cX6_goodPiece 41 = .ok (.invokevirtual 67, 3) := by decide +kernel
theorem dX6_goodPiece_44 : decode cX6_goodPiece 44 = .ok (.invokevirtual 76, 3) := by decide +kernel
theorem dX6_goodPiece_47 : decode cX6_goodPiece 47 = .ok (.ifCond .eq 7, 3) := by decide +kernel
theorem dX6_goodPiece_50 : decode cX6_goodPiece 50 = .ok (.iconst 1, 1) := by decide +kernel
theorem dX6_goodPiece_51 : decode cX6_goodPiece 51 = .ok (.goto 4, 3) := by decide +kernel
theorem dX6_goodPiece_54 : decode cX6_goodPiece 54 = .ok (.iconst 0, 1) := by decide +kernel
theorem dX6_goodPiece_55 : decode cX6_goodPiece 55 = .ok (.istore_n 2, 1) := by decide +kernel
theorem dX6_goodPiece_56 : decode cX6_goodPiece 56 = .ok (.iinc 3 1, 3) := by decide +kernel
theorem dX6_goodPiece_59 : decode cX6_goodPiece 59 = .ok (.goto (-44), 3) := by decide +kernel
theorem dX6_goodPiece_62 : decode cX6_goodPiece 62 = .ok (.iload_n 2, 1) := by decide +kernel
theorem dX6_goodPiece_63 : decode cX6_goodPiece 63 = .ok (.ireturn, 1) := by decide +kernel
theorem dX6_program_0 : decode cX6_program 0 = .ok (.aload_n 0, 1) := by decide +kernel
theorem dX6_program_1 : decode cX6_program 1 = .ok (.bipush 8, 2) := by decide +kernel
theorem dX6_program_3 : decode cX6_program 3 = .ok (.invokevirtual 57, 3) := by decide +kernel
theorem dX6_program_6 : decode cX6_program 6 = .ok (.iconst 1, 1) := by decide +kernel
theorem dX6_program_7 : decode cX6_program 7 = .ok (.isub, 1) := by decide +kernel
theorem dX6_program_8 : decode cX6_program 8 = .ok (.istore_n 2, 1) := by decide +kernel
theorem dX6_program_9 : decode cX6_program 9 = .ok (.iconst (-1), 1) := by decide +kernel
theorem dX6_program_10 : decode cX6_program 10 = .ok (.istore_n 3, 1) := by decide +kernel
theorem dX6_program_11 : decode cX6_program 11 = .ok (.iconst 0, 1) := by decide +kernel
theorem dX6_program_12 : decode cX6_program 12 = .ok (.istore 4, 2) := by decide +kernel
theorem dX6_program_14 : decode cX6_program 14 = .ok (.iload_n 1, 1) := by decide +kernel
theorem dX6_program_15 : decode cX6_program 15 = .ok (.sipush 256, 3) := by decide +kernel
theorem dX6_program_18 : decode cX6_program 18 = .ok (.if_icmp .ne 42, 3) := by decide +kernel
theorem dX6_program_21 : decode cX6_program 21 = .ok (.iload_n 2, 1) := by decide +kernel
theorem dX6_program_22 : decode cX6_program 22 = .ok (.ifCond .lt 15, 3) := by decide +kernel
theorem dX6_program_25 : decode cX6_program 25 = .ok (.aload_n 0, 1) := by decide +kernel
theorem dX6_program_26 : decode cX6_program 26 = .ok (.iload_n 2, 1) := by decide +kernel
theorem dX6_program_27 : decode cX6_program 27 = .ok (.iconst 0, 1) := by decide +kernel
theorem dX6_program_28 : decode cX6_program 28 = .ok (.invokevirtual 88, 3) := by decide +kernel
theorem dX6_program_31 : decode cX6_program 31 = .ok (.sipush 255, 3) := by decide +kernel
theorem dX6_program_34 : decode cX6_program 34 = .ok (.if_icmp .eq 5, 3) := by decide +kernel
theorem dX6_program_37 : decode cX6_program 37 = .ok (.iconst (-1), 1) := by decide +kernel
theorem dX6_program_38 : decode cX6_program 38 = .ok (.ireturn, 1) := by decide +kernel
theorem dX6_program_39 : decode cX6_program 39 = .ok (.sipush 256, 3) := by decide +kernel
theorem dX6_program_42 : decode cX6_program 42 = .ok (.aload_n 0, 1) := by decide +kernel
theorem dX6_program_43 : decode cX6_program 43 = .ok (.iload_n 2, 1) := by decide +kernel
theorem dX6_program_44 : decode cX6_program 44 = .ok (.iconst 2, 1) := by decide +kernel
theorem dX6_program_45 : decode cX6_program 45 = .ok (.invokevirtual 88, 3) := by decide +kernel
theorem dX6_program_48 : decode cX6_program 48 = .ok (.imul, 1) := by decide +kernel
theorem dX6_program_49 : decode cX6_program 49 = .ok (.aload_n 0, 1) := by decide +kernel
theorem dX6_program_50 : decode cX6_program 50 = .ok (.iload_n 2, 1) := by decide +kernel
theorem dX6_program_51 : decode cX6_program 51 = .ok (.iconst 3, 1) := by decide +kernel
theorem dX6_program_52 : decode cX6_program 52 = .ok (.invokevirtual 88, 3) := by decide +kernel
theorem dX6_program_55 : decode cX6_program 55 = .ok (.iadd, 1) := by decide +kernel
theorem dX6_program_56 : decode cX6_program 56 = .ok (.istore_n 3, 1) := by decide +kernel
theorem dX6_program_57 : decode cX6_program 57 = .ok (.goto 66, 3) := by decide +kernel
theorem dX6_program_60 : decode cX6_program 60 = .ok (.aload_n 0, 1) := by decide +kernel
theorem dX6_program_61 : decode cX6_program 61 = .ok (.iload_n 1, 1) := by decide +kernel
theorem dX6_program_62 : decode cX6_program 62 = .ok (.invokevirtual 76, 3) := by decide +kernel
theorem dX6_program_65 : decode cX6_program 65 = .ok (.ifCond .eq 15, 3) := by decide +kernel
theorem dX6_program_68 : decode cX6_program 68 = .ok (.aload_n 0, 1) := by decide +kernel
theorem dX6_program_69 : decode cX6_program 69 = .ok (.iload_n 1, 1) := by decide +kernel
theorem dX6_program_70 : decode cX6_program 70 = .ok (.iconst 2, 1) := by decide +kernel
theorem dX6_program_71 : decode cX6_program 71 = .ok (.invokevirtual 71, 3) := by decide +kernel
theorem dX6_program_74 : decode cX6_program 74 = .ok (.iconst 4, 1) := by decide +kernel
theorem dX6_program_75 : decode cX6_program 75 = .ok (.irem, 1) := by decide +kernel
theorem dX6_program_76 : decode cX6_program 76 = .ok (.iconst 1, 1) := by decide +kernel
theorem dX6_program_77 : decode cX6_program 77 = .ok (.if_icmp .eq 5, 3) := by decide +kernel
theorem dX6_program_80 : decode cX6_program 80 = .ok (.iconst (-1), 1) := by decide +kernel
theorem dX6_program_81 : decode cX6_program 81 = .ok (.ireturn, 1) := by decide +kernel
theorem dX6_program_82 : decode cX6_program 82 = .ok (.aload_n 0, 1) := by decide +kernel
theorem dX6_program_83 : decode cX6_program 83 = .ok (.iload_n 1, 1) := by decide +kernel
theorem dX6_program_84 : decode cX6_program 84 = .ok (.iconst 3, 1) := by decide +kernel
theorem dX6_program_85 : decode cX6_program 85 = .ok (.invokevirtual 71, 3) := by decide +kernel
theorem dX6_program_88 : decode cX6_program 88 = .ok (.istore_n 3, 1) := by decide +kernel
theorem dX6_program_89 : decode cX6_program 89 = .ok (.aload_n 0, 1) := by decide +kernel
theorem dX6_program_90 : decode cX6_program 90 = .ok (.iload_n 3, 1) := by decide +kernel
theorem dX6_program_91 : decode cX6_program 91 = .ok (.iconst 0, 1) := by decide +kernel
theorem dX6_program_92 : decode cX6_program 92 = .ok (.invokevirtual 88, 3) := by decide +kernel
theorem dX6_program_95 : decode cX6_program 95 = .ok (.sipush 128, 3) := by decide +kernel
theorem dX6_program_98 : decode cX6_program 98 = .ok (.if_icmp .le 23, 3) := by decide +kernel
theorem dX6_program_101 : decode cX6_program 101 = .ok (.sipush 256, 3) := by decide +kernel
theorem dX6_program_104 : decode cX6_program 104 = .ok (.aload_n 0, 1) := by decide +kernel
theorem dX6_program_105 : decode cX6_program 105 = .ok (.iload_n 3, 1) := by decide +kernel
theorem dX6_program_106 : decode cX6_program 106 = .ok (.iconst 2, 1) := by decide +kernel
theorem dX6_program_107 : decode cX6_program 107 = .ok (.invokevirtual 88, 3) := by decide +kernel
theorem dX6_program_110 : decode cX6_program 110 = .ok (.imul, 1) := by decide +kernel
theorem dX6_program_111 : decode cX6_program 111 = .ok (.aload_n 0, 1) := by decide +kernel
theorem dX6_program_112 : decode cX6_program 112 = .ok (.iload_n 3, 1) := by decide +kernel
theorem dX6_program_113 : decode cX6_program 113 = .ok (.iconst 3, 1) := by decide +kernel
theorem dX6_program_114 : decode cX6_program 114 = .ok (.invokevirtual 88, 3) := by decide +kernel
theorem dX6_program_117 : decode cX6_program 117 = .ok (.iadd, 1) := by decide +kernel
theorem dX6_program_118 : decode cX6_program 118 = .ok (.goto 4, 3) := by decide +kernel
theorem dX6_program_121 : decode cX6_program 121 = .ok (.iload_n 3, 1) := by decide +kernel
theorem dX6_program_122 : decode cX6_program 122 = .ok (.istore_n 3, 1) := by decide +kernel
theorem dX6_program_123 : decode cX6_program 123 = .ok (.aload_n 0, 1) := by decide +kernel
theorem dX6_program_124 : decode cX6_program 124 = .ok (.iload_n 3, 1) := by decide +kernel
theorem dX6_program_125 : decode cX6_program 125 = .ok (.iconst 0, 1) := by decide +kernel
theorem dX6_program_126 : decode cX6_program 126 = .ok (.invokevirtual 88, 3) := by decide +kernel
theorem dX6_program_129 : decode cX6_program 129 = .ok (.sipush 128, 3) := by decide +kernel
theorem dX6_program_132 : decode cX6_program 132 = .ok (.if_icmp .le 7, 3) := by decide +kernel
theorem dX6_program_135 : decode cX6_program 135 = .ok (.iconst (-1), 1) := by decide +kernel
theorem dX6_program_136 : decode cX6_program 136 = .ok (.goto 4, 3) := by decide +kernel
theorem dX6_program_139 : decode cX6_program 139 = .ok (.iload_n 3, 1) := by decide +kernel
theorem dX6_program_140 : decode cX6_program 140 = .ok (.ireturn, 1) := by decide +kernel
theorem dX6_sought_0 : decode cX6_sought 0 = .ok (.aload_n 0, 1) := by decide +kernel
theorem dX6_sought_1 : decode cX6_sought 1 = .ok (.iload_n 1, 1) := by decide +kernel
theorem dX6_sought_2 : decode cX6_sought 2 = .ok (.invokevirtual 94, 3) := by decide +kernel
theorem dX6_sought_5 : decode cX6_sought 5 = .ok (.istore_n 3, 1) := by decide +kernel
theorem dX6_sought_6 : decode cX6_sought 6 = .ok (.iload_n 3, 1) := by decide +kernel
theorem dX6_sought_7 : decode cX6_sought 7 = .ok (.ifCond .lt 52, 3) := by decide +kernel
theorem dX6_sought_10 : decode cX6_sought 10 = .ok (.aload_n 0, 1) := by decide +kernel
theorem dX6_sought_11 : decode cX6_sought 11 = .ok (.iload_n 3, 1) := by decide +kernel
theorem dX6_sought_12 : decode cX6_sought 12 = .ok (.iconst 0, 1) := by decide +kernel
theorem dX6_sought_13 : decode cX6_sought 13 = .ok (.invokevirtual 88, 3) := by decide +kernel
theorem dX6_sought_16 : decode cX6_sought 16 = .ok (.istore 4, 2) := by decide +kernel
theorem dX6_sought_18 : decode cX6_sought 18 = .ok (.iload 4, 2) := by decide +kernel
theorem dX6_sought_20 : decode cX6_sought 20 = .ok (.sipush 129, 3) := by decide +kernel
theorem dX6_sought_23 : decode cX6_sought 23 = .ok (.if_icmp .ge 15, 3) := by decide +kernel
theorem dX6_sought_26 : decode cX6_sought 26 = .ok (.aload_n 0, 1) := by decide +kernel
theorem dX6_sought_27 : decode cX6_sought 27 = .ok (.iload_n 3, 1) := by decide +kernel
theorem dX6_sought_28 : decode cX6_sought 28 = .ok (.iconst 1, 1) := by decide +kernel
theorem dX6_sought_29 : decode cX6_sought 29 = .ok (.invokevirtual 88, 3) := by decide +kernel
theorem dX6_sought_32 : decode cX6_sought 32 = .ok (.iload_n 2, 1) := by decide +kernel
theorem dX6_sought_33 : decode cX6_sought 33 = .ok (.if_icmp .ne 5, 3) := by decide +kernel
theorem dX6_sought_36 : decode cX6_sought 36 = .ok (.iload_n 3, 1) := by decide +kernel
theorem dX6_sought_37 : decode cX6_sought 37 = .ok (.ireturn, 1) := by decide +kernel
theorem dX6_sought_38 : decode cX6_sought 38 = .ok (.iload 4, 2) := by decide +kernel
theorem dX6_sought_40 : decode cX6_sought 40 = .ok (.bipush 127, 2) := by decide +kernel
theorem dX6_sought_42 : decode cX6_sought 42 = .ok (.if_icmp .le 7, 3) := by decide +kernel
theorem dX6_sought_45 : decode cX6_sought 45 = .ok (.iconst (-1), 1) := by decide +kernel
theorem dX6_sought_46 : decode cX6_sought 46 = .ok (.goto 9, 3) := by decide +kernel
theorem dX6_sought_49 : decode cX6_sought 49 = .ok (.iload_n 3, 1) := by decide +kernel
theorem dX6_sought_50 : decode cX6_sought 50 = .ok (.iload 4, 2) := by decide +kernel
theorem dX6_sought_52 : decode cX6_sought 52 = .ok (.iadd, 1) := by decide +kernel
theorem dX6_sought_53 : decode cX6_sought 53 = .ok (.iconst 1, 1) := by decide +kernel
theorem dX6_sought_54 : decode cX6_sought 54 = .ok (.iadd, 1) := by decide +kernel
theorem dX6_sought_55 : decode cX6_sought 55 = .ok (.istore_n 3, 1) := by decide +kernel
theorem dX6_sought_56 : decode cX6_sought 56 = .ok (.goto (-50), 3) := by decide +kernel
theorem dX6_sought_59 : decode cX6_sought 59 = .ok (.iconst (-1), 1) := by decide +kernel
theorem dX6_sought_60 : decode cX6_sought 60 = .ok (.ireturn, 1) := by decide +kernel
theorem dX6_programs_0 : decode cX6_programs 0 = .ok (.iconst 0, 1) := by decide +kernel
theorem dX6_programs_1 : decode cX6_programs 1 = .ok (.istore_n 1, 1) := by decide +kernel
theorem dX6_programs_2 : decode cX6_programs 2 = .ok (.iload_n 1, 1) := by decide +kernel
theorem dX6_programs_3 : decode cX6_programs 3 = .ok (.sipush 256, 3) := by decide +kernel
theorem dX6_programs_6 : decode cX6_programs 6 = .ok (.if_icmp .gt 151, 3) := by decide +kernel
theorem dX6_programs_9 : decode cX6_programs 9 = .ok (.aload_n 0, 1) := by decide +kernel
theorem dX6_programs_10 : decode cX6_programs 10 = .ok (.iload_n 1, 1) := by decide +kernel
theorem dX6_programs_11 : decode cX6_programs 11 = .ok (.invokevirtual 94, 3) := by decide +kernel
theorem dX6_programs_14 : decode cX6_programs 14 = .ok (.istore_n 2, 1) := by decide +kernel
theorem dX6_programs_15 : decode cX6_programs 15 = .ok (.aload_n 0, 1) := by decide +kernel
theorem dX6_programs_16 : decode cX6_programs 16 = .ok (.getfield 27, 3) := by decide +kernel
theorem dX6_programs_19 : decode cX6_programs 19 = .ok (.iload_n 1, 1) := by decide +kernel
theorem dX6_programs_20 : decode cX6_programs 20 = .ok (.iload_n 2, 1) := by decide +kernel
theorem dX6_programs_21 : decode cX6_programs 21 = .ok (.ifCond .lt 7, 3) := by decide +kernel
theorem dX6_programs_24 : decode cX6_programs 24 = .ok (.iconst 1, 1) := by decide +kernel
theorem dX6_programs_25 : decode cX6_programs 25 = .ok (.goto 4, 3) := by decide +kernel
theorem dX6_programs_28 : decode cX6_programs 28 = .ok (.iconst 0, 1) := by decide +kernel
theorem dX6_programs_29 : decode cX6_programs 29 = .ok (.bastore, 1) := by decide +kernel
theorem dX6_programs_30 : decode cX6_programs 30 = .ok (.iconst 0, 1) := by decide +kernel
theorem dX6_programs_31 : decode cX6_programs 31 = .ok (.istore_n 3, 1) := by decide +kernel
theorem dX6_programs_32 : decode cX6_programs 32 = .ok (.iload_n 3, 1) := by decide +kernel
theorem dX6_programs_33 : decode cX6_programs 33 = .ok (.sipush 256, 3) := by decide +kernel
theorem dX6_programs_36 : decode cX6_programs 36 = .ok (.if_icmp .ge 44, 3) := by decide +kernel
theorem dX6_programs_39 : decode cX6_programs 39 = .ok (.aload_n 0, 1) := by decide +kernel
theorem dX6_programs_40 : decode cX6_programs 40 = .ok (.getfield 27, 3) := by decide +kernel
theorem dX6_programs_43 : decode cX6_programs 43 = .ok (.iload_n 1, 1) := by decide +kernel
theorem dX6_programs_44 : decode cX6_programs 44 = .ok (.baload, 1) := by decide +kernel
theorem dX6_programs_45 : decode cX6_programs 45 = .ok (.ifCond .eq 35, 3) := by decide +kernel
theorem dX6_programs_48 : decode cX6_programs 48 = .ok (.aload_n 0, 1) := by decide +kernel
theorem dX6_programs_49 : decode cX6_programs 49 = .ok (.getfield 21, 3) := by decide +kernel
theorem dX6_programs_52 : decode cX6_programs 52 = .ok (.sipush 256, 3) := by decide +kernel
theorem dX6_programs_55 : decode cX6_programs 55 = .ok (.iload_n 1, 1) := by decide +kernel
theorem dX6_programs_56 : decode cX6_programs 56 = .ok (.imul, 1) := by decide +kernel
theorem dX6_programs_57 : decode cX6_programs 57 = .ok (.iload_n 3, 1) := by decide +kernel
theorem dX6_programs_58 : decode cX6_programs 58 = .ok (.iadd, 1) := by decide +kernel
theorem dX6_programs_59 : decode cX6_programs 59 = .ok (.iconst 0, 1) := by decide +kernel
theorem dX6_programs_60 : decode cX6_programs 60 = .ok (.iastore, 1) := by decide +kernel
theorem dX6_programs_61 : decode cX6_programs 61 = .ok (.aload_n 0, 1) := by decide +kernel
theorem dX6_programs_62 : decode cX6_programs 62 = .ok (.getfield 24, 3) := by decide +kernel
theorem dX6_programs_65 : decode cX6_programs 65 = .ok (.sipush 256, 3) := by decide +kernel
theorem dX6_programs_68 : decode cX6_programs 68 = .ok (.iload_n 1, 1) := by decide +kernel
theorem dX6_programs_69 : decode cX6_programs 69 = .ok (.imul, 1) := by decide +kernel
theorem dX6_programs_70 : decode cX6_programs 70 = .ok (.iload_n 3, 1) := by decide +kernel
theorem dX6_programs_71 : decode cX6_programs 71 = .ok (.iadd, 1) := by decide +kernel
theorem dX6_programs_72 : decode cX6_programs 72 = .ok (.iconst 0, 1) := by decide +kernel
theorem dX6_programs_73 : decode cX6_programs 73 = .ok (.iastore, 1) := by decide +kernel
theorem dX6_programs_74 : decode cX6_programs 74 = .ok (.iinc 3 1, 3) := by decide +kernel
theorem dX6_programs_77 : decode cX6_programs 77 = .ok (.goto (-45), 3) := by decide +kernel
theorem dX6_programs_80 : decode cX6_programs 80 = .ok (.iload_n 2, 1) := by decide +kernel
theorem dX6_programs_81 : decode cX6_programs 81 = .ok (.ifCond .lt 70, 3) := by decide +kernel
theorem dX6_programs_84 : decode cX6_programs 84 = .ok (.aload_n 0, 1) := by decide +kernel
theorem dX6_programs_85 : decode cX6_programs 85 = .ok (.iload_n 2, 1) := by decide +kernel
theorem dX6_programs_86 : decode cX6_programs 86 = .ok (.iconst 0, 1) := by decide +kernel
theorem dX6_programs_87 : decode cX6_programs 87 = .ok (.invokevirtual 88, 3) := by decide +kernel
theorem dX6_programs_90 : decode cX6_programs 90 = .ok (.istore_n 3, 1) := by decide +kernel
theorem dX6_programs_91 : decode cX6_programs 91 = .ok (.sipush 256, 3) := by decide +kernel
theorem dX6_programs_94 : decode cX6_programs 94 = .ok (.iload_n 1, 1) := by decide +kernel
theorem dX6_programs_95 : decode cX6_programs 95 = .ok (.imul, 1) := by decide +kernel
theorem dX6_programs_96 : decode cX6_programs 96 = .ok (.aload_n 0, 1) := by decide +kernel
theorem dX6_programs_97 : decode cX6_programs 97 = .ok (.iload_n 2, 1) := by decide +kernel
theorem dX6_programs_98 : decode cX6_programs 98 = .ok (.iconst 1, 1) := by decide +kernel
theorem dX6_programs_99 : decode cX6_programs 99 = .ok (.invokevirtual 88, 3) := by decide +kernel
theorem dX6_programs_102 : decode cX6_programs 102 = .ok (.iadd, 1) := by decide +kernel
theorem dX6_programs_103 : decode cX6_programs 103 = .ok (.istore 4, 2) := by decide +kernel
theorem dX6_programs_105 : decode cX6_programs 105 = .ok (.iload_n 3, 1) := by decide +kernel
theorem dX6_programs_106 : decode cX6_programs 106 = .ok (.sipush 129, 3) := by decide +kernel
theorem dX6_programs_109 : decode cX6_programs 109 = .ok (.if_icmp .ge 23, 3) := by decide +kernel
theorem dX6_programs_112 : decode cX6_programs 112 = .ok (.aload_n 0, 1) := by decide +kernel
theorem dX6_programs_113 : decode cX6_programs 113 = .ok (.getfield 21, 3) := by decide +kernel
theorem dX6_programs_116 : decode cX6_programs 116 = .ok (.iload 4, 2) := by decide +kernel
theorem dX6_programs_118 : decode cX6_programs 118 = .ok (.iaload, 1) := by decide +kernel
theorem dX6_programs_119 : decode cX6_programs 119 = .ok (.ifCond .ne 13, 3) := by decide +kernel
theorem dX6_programs_122 : decode cX6_programs 122 = .ok (.aload_n 0, 1) := by decide +kernel
theorem dX6_programs_123 : decode cX6_programs 123 = .ok (.getfield 21, 3) := by decide +kernel
theorem dX6_programs_126 : decode cX6_programs 126 = .ok (.iload 4, 2) := by decide +kernel
theorem dX6_programs_128 : decode cX6_programs 128 = .ok (.iload_n 2, 1) := by decide +kernel
theorem dX6_programs_129 : decode cX6_programs 129 = .ok (.iconst 1, 1) := by decide +kernel
theorem dX6_programs_130 : decode cX6_programs 130 = .ok (.iadd, 1) := by decide +kernel
theorem dX6_programs_131 : decode cX6_programs 131 = .ok (.iastore, 1) := by decide +kernel
theorem dX6_programs_132 : decode cX6_programs 132 = .ok (.iload_n 3, 1) := by decide +kernel
theorem dX6_programs_133 : decode cX6_programs 133 = .ok (.bipush 127, 2) := by decide +kernel
theorem dX6_programs_135 : decode cX6_programs 135 = .ok (.if_icmp .le 7, 3) := by decide +kernel
theorem dX6_programs_138 : decode cX6_programs 138 = .ok (.iconst (-1), 1) := by decide +kernel
theorem dX6_programs_139 : decode cX6_programs 139 = .ok (.goto 8, 3) := by decide +kernel
theorem dX6_programs_142 : decode cX6_programs 142 = .ok (.iload_n 2, 1) := by decide +kernel
theorem dX6_programs_143 : decode cX6_programs 143 = .ok (.iload_n 3, 1) := by decide +kernel
theorem dX6_programs_144 : decode cX6_programs 144 = .ok (.iadd, 1) := by decide +kernel
theorem dX6_programs_145 : decode cX6_programs 145 = .ok (.iconst 1, 1) := by decide +kernel
theorem dX6_programs_146 : decode cX6_programs 146 = .ok (.iadd, 1) := by decide +kernel
theorem dX6_programs_147 : decode cX6_programs 147 = .ok (.istore_n 2, 1) := by decide +kernel
theorem dX6_programs_148 : decode cX6_programs 148 = .ok (.goto (-68), 3) := by decide +kernel
theorem dX6_programs_151 : decode cX6_programs 151 = .ok (.iinc 1 1, 3) := by decide +kernel
theorem dX6_programs_154 : decode cX6_programs 154 = .ok (.goto (-152), 3) := by decide +kernel
theorem dX6_programs_157 : decode cX6_programs 157 = .ok (.return_, 1) := by decide +kernel
theorem dX6_behind_0 : decode cX6_behind 0 = .ok (.aload_n 0, 1) := by decide +kernel
theorem dX6_behind_1 : decode cX6_behind 1 = .ok (.getfield 27, 3) := by decide +kernel
theorem dX6_behind_4 : decode cX6_behind 4 = .ok (.iload_n 1, 1) := by decide +kernel
theorem dX6_behind_5 : decode cX6_behind 5 = .ok (.baload, 1) := by decide +kernel
theorem dX6_behind_6 : decode cX6_behind 6 = .ok (.ifCond .eq 18, 3) := by decide +kernel
theorem dX6_behind_9 : decode cX6_behind 9 = .ok (.aload_n 0, 1) := by decide +kernel
theorem dX6_behind_10 : decode cX6_behind 10 = .ok (.getfield 21, 3) := by decide +kernel
theorem dX6_behind_13 : decode cX6_behind 13 = .ok (.sipush 256, 3) := by decide +kernel
theorem dX6_behind_16 : decode cX6_behind 16 = .ok (.iload_n 1, 1) := by decide +kernel
theorem dX6_behind_17 : decode cX6_behind 17 = .ok (.imul, 1) := by decide +kernel
theorem dX6_behind_18 : decode cX6_behind 18 = .ok (.iload_n 2, 1) := by decide +kernel
theorem dX6_behind_19 : decode cX6_behind 19 = .ok (.iadd, 1) := by decide +kernel
theorem dX6_behind_20 : decode cX6_behind 20 = .ok (.iaload, 1) := by decide +kernel
theorem dX6_behind_21 : decode cX6_behind 21 = .ok (.ifCond .ne 9, 3) := by decide +kernel
theorem dX6_behind_24 : decode cX6_behind 24 = .ok (.iload_n 2, 1) := by decide +kernel
theorem dX6_behind_25 : decode cX6_behind 25 = .ok (.iconst 1, 1) := by decide +kernel
theorem dX6_behind_26 : decode cX6_behind 26 = .ok (.iadd, 1) := by decide +kernel
theorem dX6_behind_27 : decode cX6_behind 27 = .ok (.goto 15, 3) := by decide +kernel
theorem dX6_behind_30 : decode cX6_behind 30 = .ok (.aload_n 0, 1) := by decide +kernel
theorem dX6_behind_31 : decode cX6_behind 31 = .ok (.getfield 24, 3) := by decide +kernel
theorem dX6_behind_34 : decode cX6_behind 34 = .ok (.sipush 256, 3) := by decide +kernel
theorem dX6_behind_37 : decode cX6_behind 37 = .ok (.iload_n 1, 1) := by decide +kernel
theorem dX6_behind_38 : decode cX6_behind 38 = .ok (.imul, 1) := by decide +kernel
theorem dX6_behind_39 : decode cX6_behind 39 = .ok (.iload_n 2, 1) := by decide +kernel
theorem dX6_behind_40 : decode cX6_behind 40 = .ok (.iadd, 1) := by decide +kernel
theorem dX6_behind_41 : decode cX6_behind 41 = .ok (.iaload, 1) := by decide +kernel
theorem dX6_behind_42 : decode cX6_behind 42 = .ok (.ireturn, 1) := by decide +kernel
theorem dX6_looked_0 : decode cX6_looked 0 = .ok (.aload_n 0, 1) := by decide +kernel
theorem dX6_looked_1 : decode cX6_looked 1 = .ok (.getfield 21, 3) := by decide +kernel
theorem dX6_looked_4 : decode cX6_looked 4 = .ok (.sipush 256, 3) := by decide +kernel
theorem dX6_looked_7 : decode cX6_looked 7 = .ok (.iload_n 1, 1) := by decide +kernel
theorem dX6_looked_8 : decode cX6_looked 8 = .ok (.imul, 1) := by decide +kernel
theorem dX6_looked_9 : decode cX6_looked 9 = .ok (.iload_n 2, 1) := by decide +kernel
theorem dX6_looked_10 : decode cX6_looked 10 = .ok (.iadd, 1) := by decide +kernel
theorem dX6_looked_11 : decode cX6_looked 11 = .ok (.iaload, 1) := by decide +kernel
theorem dX6_looked_12 : decode cX6_looked 12 = .ok (.iconst 1, 1) := by decide +kernel
theorem dX6_looked_13 : decode cX6_looked 13 = .ok (.isub, 1) := by decide +kernel
theorem dX6_looked_14 : decode cX6_looked 14 = .ok (.istore_n 3, 1) := by decide +kernel
theorem dX6_looked_15 : decode cX6_looked 15 = .ok (.aload_n 0, 1) := by decide +kernel
theorem dX6_looked_16 : decode cX6_looked 16 = .ok (.iload_n 3, 1) := by decide +kernel
theorem dX6_looked_17 : decode cX6_looked 17 = .ok (.iconst 2, 1) := by decide +kernel
theorem dX6_looked_18 : decode cX6_looked 18 = .ok (.invokevirtual 88, 3) := by decide +kernel
theorem dX6_looked_21 : decode cX6_looked 21 = .ok (.istore 4, 2) := by decide +kernel
theorem dX6_looked_23 : decode cX6_looked 23 = .ok (.aload_n 0, 1) := by decide +kernel
theorem dX6_looked_24 : decode cX6_looked 24 = .ok (.iload_n 3, 1) := by decide +kernel
theorem dX6_looked_25 : decode cX6_looked 25 = .ok (.iconst 3, 1) := by decide +kernel
theorem dX6_looked_26 : decode cX6_looked 26 = .ok (.invokevirtual 88, 3) := by decide +kernel
theorem dX6_looked_29 : decode cX6_looked 29 = .ok (.istore 5, 2) := by decide +kernel
theorem dX6_looked_31 : decode cX6_looked 31 = .ok (.iload 4, 2) := by decide +kernel
theorem dX6_looked_33 : decode cX6_looked 33 = .ok (.bipush 127, 2) := by decide +kernel
theorem dX6_looked_35 : decode cX6_looked 35 = .ok (.if_icmp .gt 16, 3) := by decide +kernel
theorem dX6_looked_38 : decode cX6_looked 38 = .ok (.iload 4, 2) := by decide +kernel
theorem dX6_looked_40 : decode cX6_looked 40 = .ok (.iconst 5, 1) := by decide +kernel
theorem dX6_looked_41 : decode cX6_looked 41 = .ok (.if_icmp .eq 10, 3) := by decide +kernel
theorem dX6_looked_44 : decode cX6_looked 44 = .ok (.iload 4, 2) := by decide +kernel
theorem dX6_looked_46 : decode cX6_looked 46 = .ok (.bipush 11, 2) := by decide +kernel
theorem dX6_looked_48 : decode cX6_looked 48 = .ok (.if_icmp .ne 7, 3) := by decide +kernel
theorem dX6_looked_51 : decode cX6_looked 51 = .ok (.iload_n 2, 1) := by decide +kernel
theorem dX6_looked_52 : decode cX6_looked 52 = .ok (.iconst 1, 1) := by decide +kernel
theorem dX6_looked_53 : decode cX6_looked 53 = .ok (.iadd, 1) := by decide +kernel
theorem dX6_looked_54 : decode cX6_looked 54 = .ok (.ireturn, 1) := by decide +kernel
theorem dX6_looked_55 : decode cX6_looked 55 = .ok (.iload 4, 2) := by decide +kernel
theorem dX6_looked_57 : decode cX6_looked 57 = .ok (.ifCond .eq 10, 3) := by decide +kernel
theorem dX6_looked_60 : decode cX6_looked 60 = .ok (.iload 4, 2) := by decide +kernel
theorem dX6_looked_62 : decode cX6_looked 62 = .ok (.bipush 6, 2) := by decide +kernel
theorem dX6_looked_64 : decode cX6_looked 64 = .ok (.if_icmp .ne 8, 3) := by decide +kernel
theorem dX6_looked_67 : decode cX6_looked 67 = .ok (.iload 5, 2) := by decide +kernel
theorem dX6_looked_69 : decode cX6_looked 69 = .ok (.iconst 1, 1) := by decide +kernel
theorem dX6_looked_70 : decode cX6_looked 70 = .ok (.iadd, 1) := by decide +kernel
theorem dX6_looked_71 : decode cX6_looked 71 = .ok (.ireturn, 1) := by decide +kernel
theorem dX6_looked_72 : decode cX6_looked 72 = .ok (.iload 4, 2) := by decide +kernel
theorem dX6_looked_74 : decode cX6_looked 74 = .ok (.iconst 1, 1) := by decide +kernel
theorem dX6_looked_75 : decode cX6_looked 75 = .ok (.if_icmp .eq 10, 3) := by decide +kernel
theorem dX6_looked_78 : decode cX6_looked 78 = .ok (.iload 4, 2) := by decide +kernel
theorem dX6_looked_80 : decode cX6_looked 80 = .ok (.bipush 7, 2) := by decide +kernel
theorem dX6_looked_82 : decode cX6_looked 82 = .ok (.if_icmp .ne 11, 3) := by decide +kernel
theorem dX6_looked_85 : decode cX6_looked 85 = .ok (.aload_n 0, 1) := by decide +kernel
theorem dX6_looked_86 : decode cX6_looked 86 = .ok (.iload 5, 2) := by decide +kernel
theorem dX6_looked_88 : decode cX6_looked 88 = .ok (.iload_n 2, 1) := by decide +kernel
theorem dX6_looked_89 : decode cX6_looked 89 = .ok (.invokevirtual 97, 3) := by decide +kernel
theorem dX6_looked_92 : decode cX6_looked 92 = .ok (.ireturn, 1) := by decide +kernel
theorem dX6_looked_93 : decode cX6_looked 93 = .ok (.aload_n 0, 1) := by decide +kernel
theorem dX6_looked_94 : decode cX6_looked 94 = .ok (.iload_n 1, 1) := by decide +kernel
theorem dX6_looked_95 : decode cX6_looked 95 = .ok (.iload 5, 2) := by decide +kernel
theorem dX6_looked_97 : decode cX6_looked 97 = .ok (.invokevirtual 97, 3) := by decide +kernel
theorem dX6_looked_100 : decode cX6_looked 100 = .ok (.istore 6, 2) := by decide +kernel
theorem dX6_looked_102 : decode cX6_looked 102 = .ok (.iload 4, 2) := by decide +kernel
theorem dX6_looked_104 : decode cX6_looked 104 = .ok (.iconst 2, 1) := by decide +kernel
theorem dX6_looked_105 : decode cX6_looked 105 = .ok (.if_icmp .eq 8, 3) := by decide +kernel
theorem dX6_looked_108 : decode cX6_looked 108 = .ok (.iload 6, 2) := by decide +kernel
theorem dX6_looked_110 : decode cX6_looked 110 = .ok (.ifCond .ne 8, 3) := by decide +kernel
theorem dX6_looked_113 : decode cX6_looked 113 = .ok (.iload 6, 2) := by decide +kernel
theorem dX6_looked_115 : decode cX6_looked 115 = .ok (.goto 12, 3) := by decide +kernel
theorem dX6_looked_118 : decode cX6_looked 118 = .ok (.aload_n 0, 1) := by decide +kernel
theorem dX6_looked_119 : decode cX6_looked 119 = .ok (.iload 6, 2) := by decide +kernel
theorem dX6_looked_121 : decode cX6_looked 121 = .ok (.iconst 1, 1) := by decide +kernel
theorem dX6_looked_122 : decode cX6_looked 122 = .ok (.isub, 1) := by decide +kernel
theorem dX6_looked_123 : decode cX6_looked 123 = .ok (.iload_n 2, 1) := by decide +kernel
theorem dX6_looked_124 : decode cX6_looked 124 = .ok (.invokevirtual 97, 3) := by decide +kernel
theorem dX6_looked_127 : decode cX6_looked 127 = .ok (.ireturn, 1) := by decide +kernel
theorem dX6_allEnd_0 : decode cX6_allEnd 0 = .ok (.aload_n 0, 1) := by decide +kernel
theorem dX6_allEnd_1 : decode cX6_allEnd 1 = .ok (.invokevirtual 100, 3) := by decide +kernel
theorem dX6_allEnd_4 : decode cX6_allEnd 4 = .ok (.iconst 1, 1) := by decide +kernel
theorem dX6_allEnd_5 : decode cX6_allEnd 5 = .ok (.istore_n 1, 1) := by decide +kernel
theorem dX6_allEnd_6 : decode cX6_allEnd 6 = .ok (.iconst 1, 1) := by decide +kernel
theorem dX6_allEnd_7 : decode cX6_allEnd 7 = .ok (.istore_n 2, 1) := by decide +kernel
theorem dX6_allEnd_8 : decode cX6_allEnd 8 = .ok (.iload_n 1, 1) := by decide +kernel
theorem dX6_allEnd_9 : decode cX6_allEnd 9 = .ok (.ifCond .eq 135, 3) := by decide +kernel
theorem dX6_allEnd_12 : decode cX6_allEnd 12 = .ok (.iconst 0, 1) := by decide +kernel
theorem dX6_allEnd_13 : decode cX6_allEnd 13 = .ok (.istore_n 1, 1) := by decide +kernel
theorem dX6_allEnd_14 : decode cX6_allEnd 14 = .ok (.iconst 1, 1) := by decide +kernel
theorem dX6_allEnd_15 : decode cX6_allEnd 15 = .ok (.istore_n 2, 1) := by decide +kernel
theorem dX6_allEnd_16 : decode cX6_allEnd 16 = .ok (.iconst 0, 1) := by decide +kernel
theorem dX6_allEnd_17 : decode cX6_allEnd 17 = .ok (.istore_n 3, 1) := by decide +kernel
theorem dX6_allEnd_18 : decode cX6_allEnd 18 = .ok (.iload_n 3, 1) := by decide +kernel
theorem dX6_allEnd_19 : decode cX6_allEnd 19 = .ok (.sipush 256, 3) := by decide +kernel
theorem dX6_allEnd_22 : decode cX6_allEnd 22 = .ok (.if_icmp .gt 119, 3) := by decide +kernel
theorem dX6_allEnd_25 : decode cX6_allEnd 25 = .ok (.iconst 0, 1) := by decide +kernel
theorem dX6_allEnd_26 : decode cX6_allEnd 26 = .ok (.istore 4, 2) := by decide +kernel
theorem dX6_allEnd_28 : decode cX6_allEnd 28 = .ok (.iload 4, 2) := by decide +kernel
theorem dX6_allEnd_30 : decode cX6_allEnd 30 = .ok (.sipush 256, 3) := by decide +kernel
theorem dX6_allEnd_33 : decode cX6_allEnd 33 = .ok (.if_icmp .ge 102, 3) := by decide +kernel
theorem dX6_allEnd_36 : decode cX6_allEnd 36 = .ok (.aload_n 0, 1) := by decide +kernel
theorem dX6_allEnd_37 : decode cX6_allEnd 37 = .ok (.getfield 27, 3) := by decide +kernel
theorem dX6_allEnd_40 : decode cX6_allEnd 40 = .ok (.iload_n 3, 1) := by decide +kernel
theorem dX6_allEnd_41 : decode cX6_allEnd 41 = .ok (.baload, 1) := by decide +kernel
theorem dX6_allEnd_42 : decode cX6_allEnd 42 = .ok (.ifCond .eq 93, 3) := by decide +kernel
theorem dX6_allEnd_45 : decode cX6_allEnd 45 = .ok (.sipush 256, 3) := by decide +kernel
theorem dX6_allEnd_48 : decode cX6_allEnd 48 = .ok (.iload_n 3, 1) := by decide +kernel
theorem dX6_allEnd_49 : decode cX6_allEnd 49 = .ok (.imul, 1) := by decide +kernel
theorem dX6_allEnd_50 : decode cX6_allEnd 50 = .ok (.iload 4, 2) := by decide +kernel
theorem dX6_allEnd_52 : decode cX6_allEnd 52 = .ok (.iadd, 1) := by decide +kernel
theorem dX6_allEnd_53 : decode cX6_allEnd 53 = .ok (.istore 5, 2) := by decide +kernel
theorem dX6_allEnd_55 : decode cX6_allEnd 55 = .ok (.aload_n 0, 1) := by decide +kernel
theorem dX6_allEnd_56 : decode cX6_allEnd 56 = .ok (.getfield 21, 3) := by decide +kernel
theorem dX6_allEnd_59 : decode cX6_allEnd 59 = .ok (.iload 5, 2) := by decide +kernel
theorem dX6_allEnd_61 : decode cX6_allEnd 61 = .ok (.iaload, 1) := by decide +kernel
theorem dX6_allEnd_62 : decode cX6_allEnd 62 = .ok (.ifCond .le 67, 3) := by decide +kernel
theorem dX6_allEnd_65 : decode cX6_allEnd 65 = .ok (.aload_n 0, 1) := by decide +kernel
theorem dX6_allEnd_66 : decode cX6_allEnd 66 = .ok (.getfield 24, 3) := by decide +kernel
theorem dX6_allEnd_69 : decode cX6_allEnd 69 = .ok (.iload 5, 2) := by decide +kernel
theorem dX6_allEnd_71 : decode cX6_allEnd 71 = .ok (.iaload, 1) := by decide +kernel
theorem dX6_allEnd_72 : decode cX6_allEnd 72 = .ok (.ifCond .ne 57, 3) := by decide +kernel
theorem dX6_allEnd_75 : decode cX6_allEnd 75 = .ok (.aload_n 0, 1) := by decide +kernel
theorem dX6_allEnd_76 : decode cX6_allEnd 76 = .ok (.getfield 24, 3) := by decide +kernel
theorem dX6_allEnd_79 : decode cX6_allEnd 79 = .ok (.iload 5, 2) := by decide +kernel
theorem dX6_allEnd_81 : decode cX6_allEnd 81 = .ok (.aload_n 0, 1) := by decide +kernel
theorem dX6_allEnd_82 : decode cX6_allEnd 82 = .ok (.iload_n 3, 1) := by decide +kernel
theorem dX6_allEnd_83 : decode cX6_allEnd 83 = .ok (.iload 4, 2) := by decide +kernel
theorem dX6_allEnd_85 : decode cX6_allEnd 85 = .ok (.invokevirtual 103, 3) := by decide +kernel
theorem dX6_allEnd_88 : decode cX6_allEnd 88 = .ok (.iastore, 1) := by decide +kernel
theorem dX6_allEnd_89 : decode cX6_allEnd 89 = .ok (.iload_n 1, 1) := by decide +kernel
theorem dX6_allEnd_90 : decode cX6_allEnd 90 = .ok (.ifCond .ne 13, 3) := by decide +kernel
theorem dX6_allEnd_93 : decode cX6_allEnd 93 = .ok (.aload_n 0, 1) := by decide +kernel
theorem dX6_allEnd_94 : decode cX6_allEnd 94 = .ok (.getfield 24, 3) := by decide +kernel
theorem dX6_allEnd_97 : decode cX6_allEnd 97 = .ok (.iload 5, 2) := by decide +kernel
theorem dX6_allEnd_99 : decode cX6_allEnd 99 = .ok (.iaload, 1) := by decide +kernel
theorem dX6_allEnd_100 : decode cX6_allEnd 100 = .ok (.ifCond .le 7, 3) := by decide +kernel
theorem dX6_allEnd_103 : decode cX6_allEnd 103 = .ok (.iconst 1, 1) := by decide +kernel
theorem dX6_allEnd_104 : decode cX6_allEnd 104 = .ok (.goto 4, 3) := by decide +kernel
theorem dX6_allEnd_107 : decode cX6_allEnd 107 = .ok (.iconst 0, 1) := by decide +kernel
theorem dX6_allEnd_108 : decode cX6_allEnd 108 = .ok (.istore_n 1, 1) := by decide +kernel
theorem dX6_allEnd_109 : decode cX6_allEnd 109 = .ok (.iload_n 2, 1) := by decide +kernel
theorem dX6_allEnd_110 : decode cX6_allEnd 110 = .ok (.ifCond .eq 17, 3) := by decide +kernel
theorem dX6_allEnd_113 : decode cX6_allEnd 113 = .ok (.aload_n 0, 1) := by decide +kernel
theorem dX6_allEnd_114 : decode cX6_allEnd 114 = .ok (.getfield 24, 3) := by decide +kernel
theorem dX6_allEnd_117 : decode cX6_allEnd 117 = .ok (.iload 5, 2) := by decide +kernel
theorem dX6_allEnd_119 : decode cX6_allEnd 119 = .ok (.iaload, 1) := by decide +kernel
theorem dX6_allEnd_120 : decode cX6_allEnd 120 = .ok (.ifCond .le 7, 3) := by decide +kernel
theorem dX6_allEnd_123 : decode cX6_allEnd 123 = .ok (.iconst 1, 1) := by decide +kernel
theorem dX6_allEnd_124 : decode cX6_allEnd 124 = .ok (.goto 4, 3) := by decide +kernel
theorem dX6_allEnd_127 : decode cX6_allEnd 127 = .ok (.iconst 0, 1) := by decide +kernel
theorem dX6_allEnd_128 : decode cX6_allEnd 128 = .ok (.istore_n 2, 1) := by decide +kernel
theorem dX6_allEnd_129 : decode cX6_allEnd 129 = .ok (.iinc 4 1, 3) := by decide +kernel
theorem dX6_allEnd_132 : decode cX6_allEnd 132 = .ok (.goto (-104), 3) := by decide +kernel
theorem dX6_allEnd_135 : decode cX6_allEnd 135 = .ok (.iinc 3 1, 3) := by decide +kernel
theorem dX6_allEnd_138 : decode cX6_allEnd 138 = .ok (.goto (-120), 3) := by decide +kernel
theorem dX6_allEnd_141 : decode cX6_allEnd 141 = .ok (.goto (-133), 3) := by decide +kernel
theorem dX6_allEnd_144 : decode cX6_allEnd 144 = .ok (.iload_n 2, 1) := by decide +kernel
theorem dX6_allEnd_145 : decode cX6_allEnd 145 = .ok (.ireturn, 1) := by decide +kernel
theorem dX6_faultOf_0 : decode cX6_faultOf 0 = .ok (.aload_n 0, 1) := by decide +kernel
theorem dX6_faultOf_1 : decode cX6_faultOf 1 = .ok (.invokevirtual 106, 3) := by decide +kernel
theorem dX6_faultOf_4 : decode cX6_faultOf 4 = .ok (.ifCond .ne 5, 3) := by decide +kernel
theorem dX6_faultOf_7 : decode cX6_faultOf 7 = .ok (.iconst 1, 1) := by decide +kernel
theorem dX6_faultOf_8 : decode cX6_faultOf 8 = .ok (.ireturn, 1) := by decide +kernel
theorem dX6_faultOf_9 : decode cX6_faultOf 9 = .ok (.aload_n 0, 1) := by decide +kernel
theorem dX6_faultOf_10 : decode cX6_faultOf 10 = .ok (.bipush 7, 2) := by decide +kernel
theorem dX6_faultOf_12 : decode cX6_faultOf 12 = .ok (.invokevirtual 83, 3) := by decide +kernel
theorem dX6_faultOf_15 : decode cX6_faultOf 15 = .ok (.ldc 110, 2) := by decide +kernel
theorem dX6_faultOf_17 : decode cX6_faultOf 17 = .ok (.if_icmp .ge 5, 3) := by decide +kernel
theorem dX6_faultOf_20 : decode cX6_faultOf 20 = .ok (.iconst 2, 1) := by decide +kernel
theorem dX6_faultOf_21 : decode cX6_faultOf 21 = .ok (.ireturn, 1) := by decide +kernel
theorem dX6_faultOf_22 : decode cX6_faultOf 22 = .ok (.iconst 1, 1) := by decide +kernel
theorem dX6_faultOf_23 : decode cX6_faultOf 23 = .ok (.istore_n 1, 1) := by decide +kernel
theorem dX6_faultOf_24 : decode cX6_faultOf 24 = .ok (.aload_n 0, 1) := by decide +kernel
theorem dX6_faultOf_25 : decode cX6_faultOf 25 = .ok (.iconst 2, 1) := by decide +kernel
theorem dX6_faultOf_26 : decode cX6_faultOf 26 = .ok (.invokevirtual 57, 3) := by decide +kernel
theorem dX6_faultOf_29 : decode cX6_faultOf 29 = .ok (.istore_n 2, 1) := by decide +kernel
theorem dX6_faultOf_30 : decode cX6_faultOf 30 = .ok (.iload_n 2, 1) := by decide +kernel
theorem dX6_faultOf_31 : decode cX6_faultOf 31 = .ok (.aload_n 0, 1) := by decide +kernel
theorem dX6_faultOf_32 : decode cX6_faultOf 32 = .ok (.iconst 3, 1) := by decide +kernel
theorem dX6_faultOf_33 : decode cX6_faultOf 33 = .ok (.invokevirtual 57, 3) := by decide +kernel
theorem dX6_faultOf_36 : decode cX6_faultOf 36 = .ok (.if_icmp .gt 19, 3) := by decide +kernel
theorem dX6_faultOf_39 : decode cX6_faultOf 39 = .ok (.iload_n 1, 1) := by decide +kernel
theorem dX6_faultOf_40 : decode cX6_faultOf 40 = .ok (.ifCond .eq 15, 3) := by decide +kernel
theorem dX6_faultOf_43 : decode cX6_faultOf 43 = .ok (.aload_n 0, 1) := by decide +kernel
theorem dX6_faultOf_44 : decode cX6_faultOf 44 = .ok (.iload_n 2, 1) := by decide +kernel
theorem dX6_faultOf_45 : decode cX6_faultOf 45 = .ok (.invokevirtual 111, 3) := by decide +kernel
theorem dX6_faultOf_48 : decode cX6_faultOf 48 = .ok (.istore_n 1, 1) := by decide +kernel
theorem dX6_faultOf_49 : decode cX6_faultOf 49 = .ok (.iinc 2 1, 3) := by decide +kernel
theorem dX6_faultOf_52 : decode cX6_faultOf 52 = .ok (.goto (-22), 3) := by decide +kernel
theorem dX6_faultOf_55 : decode cX6_faultOf 55 = .ok (.iload_n 1, 1) := by decide +kernel
theorem dX6_faultOf_56 : decode cX6_faultOf 56 = .ok (.ifCond .ne 5, 3) := by decide +kernel
theorem dX6_faultOf_59 : decode cX6_faultOf 59 = .ok (.iconst 3, 1) := by decide +kernel
theorem dX6_faultOf_60 : decode cX6_faultOf 60 = .ok (.ireturn, 1) := by decide +kernel
theorem dX6_faultOf_61 : decode cX6_faultOf 61 = .ok (.aload_n 0, 1) := by decide +kernel
theorem dX6_faultOf_62 : decode cX6_faultOf 62 = .ok (.invokevirtual 114, 3) := by decide +kernel
theorem dX6_faultOf_65 : decode cX6_faultOf 65 = .ok (.ifCond .ne 5, 3) := by decide +kernel
theorem dX6_faultOf_68 : decode cX6_faultOf 68 = .ok (.iconst 4, 1) := by decide +kernel
theorem dX6_faultOf_69 : decode cX6_faultOf 69 = .ok (.ireturn, 1) := by decide +kernel
theorem dX6_faultOf_70 : decode cX6_faultOf 70 = .ok (.iconst 0, 1) := by decide +kernel
theorem dX6_faultOf_71 : decode cX6_faultOf 71 = .ok (.istore_n 2, 1) := by decide +kernel
theorem dX6_faultOf_72 : decode cX6_faultOf 72 = .ok (.iload_n 2, 1) := by decide +kernel
theorem dX6_faultOf_73 : decode cX6_faultOf 73 = .ok (.aload_n 0, 1) := by decide +kernel
theorem dX6_faultOf_74 : decode cX6_faultOf 74 = .ok (.bipush 8, 2) := by decide +kernel
theorem dX6_faultOf_76 : decode cX6_faultOf 76 = .ok (.invokevirtual 57, 3) := by decide +kernel
theorem dX6_faultOf_79 : decode cX6_faultOf 79 = .ok (.if_icmp .ge 19, 3) := by decide +kernel
theorem dX6_faultOf_82 : decode cX6_faultOf 82 = .ok (.iload_n 1, 1) := by decide +kernel
theorem dX6_faultOf_83 : decode cX6_faultOf 83 = .ok (.ifCond .eq 15, 3) := by decide +kernel
theorem dX6_faultOf_86 : decode cX6_faultOf 86 = .ok (.aload_n 0, 1) := by decide +kernel
theorem dX6_faultOf_87 : decode cX6_faultOf 87 = .ok (.iload_n 2, 1) := by decide +kernel
theorem dX6_faultOf_88 : decode cX6_faultOf 88 = .ok (.invokevirtual 117, 3) := by decide +kernel
theorem dX6_faultOf_91 : decode cX6_faultOf 91 = .ok (.istore_n 1, 1) := by decide +kernel
theorem dX6_faultOf_92 : decode cX6_faultOf 92 = .ok (.iinc 2 1, 3) := by decide +kernel
theorem dX6_faultOf_95 : decode cX6_faultOf 95 = .ok (.goto (-23), 3) := by decide +kernel
theorem dX6_faultOf_98 : decode cX6_faultOf 98 = .ok (.iload_n 1, 1) := by decide +kernel
theorem dX6_faultOf_99 : decode cX6_faultOf 99 = .ok (.ifCond .ne 5, 3) := by decide +kernel
theorem dX6_faultOf_102 : decode cX6_faultOf 102 = .ok (.iconst 5, 1) := by decide +kernel
theorem dX6_faultOf_103 : decode cX6_faultOf 103 = .ok (.ireturn, 1) := by decide +kernel
theorem dX6_faultOf_104 : decode cX6_faultOf 104 = .ok (.iconst 0, 1) := by decide +kernel
theorem dX6_faultOf_105 : decode cX6_faultOf 105 = .ok (.istore_n 2, 1) := by decide +kernel
theorem dX6_faultOf_106 : decode cX6_faultOf 106 = .ok (.iload_n 2, 1) := by decide +kernel
theorem dX6_faultOf_107 : decode cX6_faultOf 107 = .ok (.aload_n 0, 1) := by decide +kernel
theorem dX6_faultOf_108 : decode cX6_faultOf 108 = .ok (.bipush 10, 2) := by decide +kernel
theorem dX6_faultOf_110 : decode cX6_faultOf 110 = .ok (.invokevirtual 57, 3) := by decide +kernel
theorem dX6_faultOf_113 : decode cX6_faultOf 113 = .ok (.if_icmp .ge 19, 3) := by decide +kernel
theorem dX6_faultOf_116 : decode cX6_faultOf 116 = .ok (.iload_n 1, 1) := by decide +kernel
theorem dX6_faultOf_117 : decode cX6_faultOf 117 = .ok (.ifCond .eq 15, 3) := by decide +kernel
theorem dX6_faultOf_120 : decode cX6_faultOf 120 = .ok (.aload_n 0, 1) := by decide +kernel
theorem dX6_faultOf_121 : decode cX6_faultOf 121 = .ok (.iload_n 2, 1) := by decide +kernel
theorem dX6_faultOf_122 : decode cX6_faultOf 122 = .ok (.invokevirtual 120, 3) := by decide +kernel
theorem dX6_faultOf_125 : decode cX6_faultOf 125 = .ok (.istore_n 1, 1) := by decide +kernel
theorem dX6_faultOf_126 : decode cX6_faultOf 126 = .ok (.iinc 2 1, 3) := by decide +kernel
theorem dX6_faultOf_129 : decode cX6_faultOf 129 = .ok (.goto (-23), 3) := by decide +kernel
theorem dX6_faultOf_132 : decode cX6_faultOf 132 = .ok (.iload_n 1, 1) := by decide +kernel
theorem dX6_faultOf_133 : decode cX6_faultOf 133 = .ok (.ifCond .ne 8, 3) := by decide +kernel
theorem dX6_faultOf_136 : decode cX6_faultOf 136 = .ok (.bipush 6, 2) := by decide +kernel
theorem dX6_faultOf_138 : decode cX6_faultOf 138 = .ok (.goto 16, 3) := by decide +kernel
theorem dX6_faultOf_141 : decode cX6_faultOf 141 = .ok (.aload_n 0, 1) := by decide +kernel
theorem dX6_faultOf_142 : decode cX6_faultOf 142 = .ok (.invokevirtual 123, 3) := by decide +kernel
theorem dX6_faultOf_145 : decode cX6_faultOf 145 = .ok (.ifCond .eq 7, 3) := by decide +kernel
theorem dX6_faultOf_148 : decode cX6_faultOf 148 = .ok (.iconst 0, 1) := by decide +kernel
theorem dX6_faultOf_149 : decode cX6_faultOf 149 = .ok (.goto 5, 3) := by decide +kernel
theorem dX6_faultOf_152 : decode cX6_faultOf 152 = .ok (.bipush 7, 2) := by decide +kernel
theorem dX6_faultOf_154 : decode cX6_faultOf 154 = .ok (.ireturn, 1) := by decide +kernel
theorem dX6_load_0 : decode cX6_load 0 = .ok (.iload_n 1, 1) := by decide +kernel
theorem dX6_load_1 : decode cX6_load 1 = .ok (.ifCond .lt 18, 3) := by decide +kernel
theorem dX6_load_4 : decode cX6_load 4 = .ok (.iload_n 1, 1) := by decide +kernel
theorem dX6_load_5 : decode cX6_load 5 = .ok (.ldc 126, 2) := by decide +kernel
theorem dX6_load_7 : decode cX6_load 7 = .ok (.if_icmp .gt 12, 3) := by decide +kernel
theorem dX6_load_10 : decode cX6_load 10 = .ok (.aload_n 0, 1) := by decide +kernel
theorem dX6_load_11 : decode cX6_load 11 = .ok (.getfield 45, 3) := by decide +kernel
theorem dX6_load_14 : decode cX6_load 14 = .ok (.bipush 32, 2) := by decide +kernel
theorem dX6_load_16 : decode cX6_load 16 = .ok (.if_icmp .ne 9, 3) := by decide +kernel
theorem dX6_load_19 : decode cX6_load 19 = .ok (.aload_n 0, 1) := by decide +kernel
theorem dX6_load_20 : decode cX6_load 20 = .ok (.iconst 2, 1) := by decide +kernel
theorem dX6_load_21 : decode cX6_load 21 = .ok (.invokevirtual 127, 3) := by decide +kernel
theorem dX6_load_24 : decode cX6_load 24 = .ok (.ireturn, 1) := by decide +kernel
theorem dX6_load_25 : decode cX6_load 25 = .ok (.aload_n 0, 1) := by decide +kernel
theorem dX6_load_26 : decode cX6_load 26 = .ok (.aload_n 0, 1) := by decide +kernel
theorem dX6_load_27 : decode cX6_load 27 = .ok (.getfield 14, 3) := by decide +kernel
theorem dX6_load_30 : decode cX6_load 30 = .ok (.aload_n 0, 1) := by decide +kernel
theorem dX6_load_31 : decode cX6_load 31 = .ok (.getfield 45, 3) := by decide +kernel
theorem dX6_load_34 : decode cX6_load 34 = .ok (.iaload, 1) := by decide +kernel
theorem dX6_load_35 : decode cX6_load 35 = .ok (.putfield 50, 3) := by decide +kernel
theorem dX6_load_38 : decode cX6_load 38 = .ok (.aload_n 0, 1) := by decide +kernel
theorem dX6_load_39 : decode cX6_load 39 = .ok (.aload_n 0, 1) := by decide +kernel
theorem dX6_load_40 : decode cX6_load 40 = .ok (.invokevirtual 130, 3) := by decide +kernel
theorem dX6_load_43 : decode cX6_load 43 = .ok (.putfield 133, 3) := by decide +kernel
theorem dX6_load_46 : decode cX6_load 46 = .ok (.aload_n 0, 1) := by decide +kernel
theorem dX6_load_47 : decode cX6_load 47 = .ok (.getfield 41, 3) := by decide +kernel
theorem dX6_load_50 : decode cX6_load 50 = .ok (.istore_n 2, 1) := by decide +kernel
theorem dX6_load_51 : decode cX6_load 51 = .ok (.aload_n 0, 1) := by decide +kernel
theorem dX6_load_52 : decode cX6_load 52 = .ok (.iconst 0, 1) := by decide +kernel
theorem dX6_load_53 : decode cX6_load 53 = .ok (.putfield 41, 3) := by decide +kernel
theorem dX6_load_56 : decode cX6_load 56 = .ok (.aload_n 0, 1) := by decide +kernel
theorem dX6_load_57 : decode cX6_load 57 = .ok (.getfield 133, 3) := by decide +kernel
theorem dX6_load_60 : decode cX6_load 60 = .ok (.ifCond .le 9, 3) := by decide +kernel
theorem dX6_load_63 : decode cX6_load 63 = .ok (.aload_n 0, 1) := by decide +kernel
theorem dX6_load_64 : decode cX6_load 64 = .ok (.iconst 1, 1) := by decide +kernel
theorem dX6_load_65 : decode cX6_load 65 = .ok (.invokevirtual 127, 3) := by decide +kernel
theorem dX6_load_68 : decode cX6_load 68 = .ok (.ireturn, 1) := by decide +kernel
theorem dX6_load_69 : decode cX6_load 69 = .ok (.aload_n 0, 1) := by decide +kernel
theorem dX6_load_70 : decode cX6_load 70 = .ok (.iconst 0, 1) := by decide +kernel
theorem dX6_load_71 : decode cX6_load 71 = .ok (.putfield 37, 3) := by decide +kernel
theorem dX6_load_74 : decode cX6_load 74 = .ok (.aload_n 0, 1) := by decide +kernel
theorem dX6_load_75 : decode cX6_load 75 = .ok (.getfield 17, 3) := by decide +kernel
theorem dX6_load_78 : decode cX6_load 78 = .ok (.aload_n 0, 1) := by decide +kernel
theorem dX6_load_79 : decode cX6_load 79 = .ok (.getfield 45, 3) := by decide +kernel
theorem dX6_load_82 : decode cX6_load 82 = .ok (.iload_n 1, 1) := by decide +kernel
theorem dX6_load_83 : decode cX6_load 83 = .ok (.ifCond .ne 14, 3) := by decide +kernel
theorem dX6_load_86 : decode cX6_load 86 = .ok (.aload_n 0, 1) := by decide +kernel
theorem dX6_load_87 : decode cX6_load 87 = .ok (.bipush 7, 2) := by decide +kernel
theorem dX6_load_89 : decode cX6_load 89 = .ok (.invokevirtual 83, 3) := by decide +kernel
theorem dX6_load_92 : decode cX6_load 92 = .ok (.iconst 4, 1) := by decide +kernel
theorem dX6_load_93 : decode cX6_load 93 = .ok (.ishr, 1) := by decide +kernel
theorem dX6_load_94 : decode cX6_load 94 = .ok (.goto 4, 3) := by decide +kernel
theorem dX6_load_97 : decode cX6_load 97 = .ok (.iload_n 1, 1) := by decide +kernel
theorem dX6_load_98 : decode cX6_load 98 = .ok (.iastore, 1) := by decide +kernel
theorem dX6_load_99 : decode cX6_load 99 = .ok (.aload_n 0, 1) := by decide +kernel
theorem dX6_load_100 : decode cX6_load 100 = .ok (.dup, 1) := by decide +kernel
theorem dX6_load_101 : decode cX6_load 101 = .ok (.getfield 45, 3) := by decide +kernel
theorem dX6_load_104 : decode cX6_load 104 = .ok (.iconst 1, 1) := by decide +kernel
theorem dX6_load_105 : decode cX6_load 105 = .ok (.iadd, 1) := by decide +kernel
theorem dX6_load_106 : decode cX6_load 106 = .ok (.putfield 45, 3) := by decide +kernel
theorem dX6_load_109 : decode cX6_load 109 = .ok (.aload_n 0, 1) := by decide +kernel
theorem dX6_load_110 : decode cX6_load 110 = .ok (.getfield 14, 3) := by decide +kernel
end
section
theorem dX6_load_113 : decode cX6_load 113 = .ok (.aload_n 0, 1) := by decide +kernel
theorem dX6_load_114 : decode cX6_load 114 = .ok (.getfield 45, 3) := by decide +kernel
theorem dX6_load_117 : decode cX6_load 117 = .ok (.aload_n 0, 1) := by decide +kernel
theorem dX6_load_118 : decode cX6_load 118 = .ok (.getfield 50, 3) := by decide +kernel
theorem dX6_load_121 : decode cX6_load 121 = .ok (.iload_n 2, 1) := by decide +kernel
theorem dX6_load_122 : decode cX6_load 122 = .ok (.iadd, 1) := by decide +kernel
theorem dX6_load_123 : decode cX6_load 123 = .ok (.iastore, 1) := by decide +kernel
theorem dX6_load_124 : decode cX6_load 124 = .ok (.aload_n 0, 1) := by decide +kernel
theorem dX6_load_125 : decode cX6_load 125 = .ok (.getfield 45, 3) := by decide +kernel
theorem dX6_load_128 : decode cX6_load 128 = .ok (.iconst 1, 1) := by decide +kernel
theorem dX6_load_129 : decode cX6_load 129 = .ok (.isub, 1) := by decide +kernel
theorem dX6_load_130 : decode cX6_load 130 = .ok (.ireturn, 1) := by decide +kernel
theorem dX6_fault_0 : decode cX6_fault 0 = .ok (.aload_n 0, 1) := by decide +kernel
theorem dX6_fault_1 : decode cX6_fault 1 = .ok (.iconst 0, 1) := by decide +kernel
theorem dX6_fault_2 : decode cX6_fault 2 = .ok (.putfield 37, 3) := by decide +kernel
theorem dX6_fault_5 : decode cX6_fault 5 = .ok (.aload_n 0, 1) := by decide +kernel
theorem dX6_fault_6 : decode cX6_fault 6 = .ok (.getfield 133, 3) := by decide +kernel
theorem dX6_fault_9 : decode cX6_fault 9 = .ok (.ireturn, 1) := by decide +kernel
theorem dX6_choose_0 : decode cX6_choose 0 = .ok (.iload_n 1, 1) := by decide +kernel
theorem dX6_choose_1 : decode cX6_choose 1 = .ok (.ifCond .lt 15, 3) := by decide +kernel
theorem dX6_choose_4 : decode cX6_choose 4 = .ok (.iload_n 1, 1) := by decide +kernel
theorem dX6_choose_5 : decode cX6_choose 5 = .ok (.aload_n 0, 1) := by decide +kernel
theorem dX6_choose_6 : decode cX6_choose 6 = .ok (.getfield 45, 3) := by decide +kernel
theorem dX6_choose_9 : decode cX6_choose 9 = .ok (.if_icmp .ge 7, 3) := by decide +kernel
theorem dX6_choose_12 : decode cX6_choose 12 = .ok (.iconst 1, 1) := by decide +kernel
theorem dX6_choose_13 : decode cX6_choose 13 = .ok (.goto 4, 3) := by decide +kernel
theorem dX6_choose_16 : decode cX6_choose 16 = .ok (.iconst 0, 1) := by decide +kernel
theorem dX6_choose_17 : decode cX6_choose 17 = .ok (.istore_n 2, 1) := by decide +kernel
theorem dX6_choose_18 : decode cX6_choose 18 = .ok (.aload_n 0, 1) := by decide +kernel
theorem dX6_choose_19 : decode cX6_choose 19 = .ok (.iload_n 2, 1) := by decide +kernel
theorem dX6_choose_20 : decode cX6_choose 20 = .ok (.ifCond .eq 12, 3) := by decide +kernel
theorem dX6_choose_23 : decode cX6_choose 23 = .ok (.aload_n 0, 1) := by decide +kernel
theorem dX6_choose_24 : decode cX6_choose 24 = .ok (.getfield 14, 3) := by decide +kernel
theorem dX6_choose_27 : decode cX6_choose 27 = .ok (.iload_n 1, 1) := by decide +kernel
theorem dX6_choose_28 : decode cX6_choose 28 = .ok (.iaload, 1) := by decide +kernel
theorem dX6_choose_29 : decode cX6_choose 29 = .ok (.goto 4, 3) := by decide +kernel
theorem dX6_choose_32 : decode cX6_choose 32 = .ok (.iconst 0, 1) := by decide +kernel
theorem dX6_choose_33 : decode cX6_choose 33 = .ok (.putfield 50, 3) := by decide +kernel
theorem dX6_choose_36 : decode cX6_choose 36 = .ok (.iload_n 2, 1) := by decide +kernel
theorem dX6_choose_37 : decode cX6_choose 37 = .ok (.ireturn, 1) := by decide +kernel
theorem dX6_scaled_0 : decode cX6_scaled 0 = .ok (.aload_n 0, 1) := by decide +kernel
theorem dX6_scaled_1 : decode cX6_scaled 1 = .ok (.aload_n 0, 1) := by decide +kernel
theorem dX6_scaled_2 : decode cX6_scaled 2 = .ok (.iload_n 2, 1) := by decide +kernel
theorem dX6_scaled_3 : decode cX6_scaled 3 = .ok (.invokevirtual 64, 3) := by decide +kernel
theorem dX6_scaled_6 : decode cX6_scaled 6 = .ok (.iload_n 3, 1) := by decide +kernel
theorem dX6_scaled_7 : decode cX6_scaled 7 = .ok (.iadd, 1) := by decide +kernel
theorem dX6_scaled_8 : decode cX6_scaled 8 = .ok (.invokevirtual 83, 3) := by decide +kernel
theorem dX6_scaled_11 : decode cX6_scaled 11 = .ok (.i2l, 1) := by decide +kernel
theorem dX6_scaled_12 : decode cX6_scaled 12 = .ok (.aload_n 0, 1) := by decide +kernel
theorem dX6_scaled_13 : decode cX6_scaled 13 = .ok (.getfield 17, 3) := by decide +kernel
theorem dX6_scaled_16 : decode cX6_scaled 16 = .ok (.iload_n 1, 1) := by decide +kernel
theorem dX6_scaled_17 : decode cX6_scaled 17 = .ok (.iaload, 1) := by decide +kernel
theorem dX6_scaled_18 : decode cX6_scaled 18 = .ok (.i2l, 1) := by decide +kernel
theorem dX6_scaled_19 : decode cX6_scaled 19 = .ok (.lmul, 1) := by decide +kernel
theorem dX6_scaled_20 : decode cX6_scaled 20 = .ok (.bipush 20, 2) := by decide +kernel
theorem dX6_scaled_22 : decode cX6_scaled 22 = .ok (.lshr, 1) := by decide +kernel
theorem dX6_scaled_23 : decode cX6_scaled 23 = .ok (.l2i, 1) := by decide +kernel
theorem dX6_scaled_24 : decode cX6_scaled 24 = .ok (.ireturn, 1) := by decide +kernel
theorem dX6_metricOf_0 : decode cX6_metricOf 0 = .ok (.aload_n 0, 1) := by decide +kernel
theorem dX6_metricOf_1 : decode cX6_metricOf 1 = .ok (.iload_n 2, 1) := by decide +kernel
theorem dX6_metricOf_2 : decode cX6_metricOf 2 = .ok (.iconst 1, 1) := by decide +kernel
theorem dX6_metricOf_3 : decode cX6_metricOf 3 = .ok (.invokevirtual 71, 3) := by decide +kernel
theorem dX6_metricOf_6 : decode cX6_metricOf 6 = .ok (.istore 4, 2) := by decide +kernel
theorem dX6_metricOf_8 : decode cX6_metricOf 8 = .ok (.aload_n 0, 1) := by decide +kernel
theorem dX6_metricOf_9 : decode cX6_metricOf 9 = .ok (.iload_n 2, 1) := by decide +kernel
theorem dX6_metricOf_10 : decode cX6_metricOf 10 = .ok (.iconst 2, 1) := by decide +kernel
theorem dX6_metricOf_11 : decode cX6_metricOf 11 = .ok (.invokevirtual 71, 3) := by decide +kernel
theorem dX6_metricOf_14 : decode cX6_metricOf 14 = .ok (.istore 5, 2) := by decide +kernel
theorem dX6_metricOf_16 : decode cX6_metricOf 16 = .ok (.iload_n 3, 1) := by decide +kernel
theorem dX6_metricOf_17 : decode cX6_metricOf 17 = .ok (.ifCond .ne 18, 3) := by decide +kernel
theorem dX6_metricOf_20 : decode cX6_metricOf 20 = .ok (.aload_n 0, 1) := by decide +kernel
theorem dX6_metricOf_21 : decode cX6_metricOf 21 = .ok (.iload_n 1, 1) := by decide +kernel
theorem dX6_metricOf_22 : decode cX6_metricOf 22 = .ok (.iconst 2, 1) := by decide +kernel
theorem dX6_metricOf_23 : decode cX6_metricOf 23 = .ok (.aload_n 0, 1) := by decide +kernel
theorem dX6_metricOf_24 : decode cX6_metricOf 24 = .ok (.iload_n 2, 1) := by decide +kernel
theorem dX6_metricOf_25 : decode cX6_metricOf 25 = .ok (.iconst 0, 1) := by decide +kernel
theorem dX6_metricOf_26 : decode cX6_metricOf 26 = .ok (.invokevirtual 71, 3) := by decide +kernel
theorem dX6_metricOf_29 : decode cX6_metricOf 29 = .ok (.invokevirtual 136, 3) := by decide +kernel
theorem dX6_metricOf_32 : decode cX6_metricOf 32 = .ok (.goto 88, 3) := by decide +kernel
theorem dX6_metricOf_35 : decode cX6_metricOf 35 = .ok (.iload_n 3, 1) := by decide +kernel
theorem dX6_metricOf_36 : decode cX6_metricOf 36 = .ok (.iconst 1, 1) := by decide +kernel
theorem dX6_metricOf_37 : decode cX6_metricOf 37 = .ok (.if_icmp .ne 17, 3) := by decide +kernel
theorem dX6_metricOf_40 : decode cX6_metricOf 40 = .ok (.aload_n 0, 1) := by decide +kernel
theorem dX6_metricOf_41 : decode cX6_metricOf 41 = .ok (.iload_n 1, 1) := by decide +kernel
theorem dX6_metricOf_42 : decode cX6_metricOf 42 = .ok (.iconst 3, 1) := by decide +kernel
theorem dX6_metricOf_43 : decode cX6_metricOf 43 = .ok (.iload 4, 2) := by decide +kernel
theorem dX6_metricOf_45 : decode cX6_metricOf 45 = .ok (.bipush 16, 2) := by decide +kernel
theorem dX6_metricOf_47 : decode cX6_metricOf 47 = .ok (.idiv, 1) := by decide +kernel
theorem dX6_metricOf_48 : decode cX6_metricOf 48 = .ok (.invokevirtual 136, 3) := by decide +kernel
theorem dX6_metricOf_51 : decode cX6_metricOf 51 = .ok (.goto 69, 3) := by decide +kernel
theorem dX6_metricOf_54 : decode cX6_metricOf 54 = .ok (.iload_n 3, 1) := by decide +kernel
theorem dX6_metricOf_55 : decode cX6_metricOf 55 = .ok (.iconst 2, 1) := by decide +kernel
theorem dX6_metricOf_56 : decode cX6_metricOf 56 = .ok (.if_icmp .ne 17, 3) := by decide +kernel
theorem dX6_metricOf_59 : decode cX6_metricOf 59 = .ok (.aload_n 0, 1) := by decide +kernel
theorem dX6_metricOf_60 : decode cX6_metricOf 60 = .ok (.iload_n 1, 1) := by decide +kernel
theorem dX6_metricOf_61 : decode cX6_metricOf 61 = .ok (.iconst 4, 1) := by decide +kernel
theorem dX6_metricOf_62 : decode cX6_metricOf 62 = .ok (.iload 4, 2) := by decide +kernel
theorem dX6_metricOf_64 : decode cX6_metricOf 64 = .ok (.bipush 16, 2) := by decide +kernel
theorem dX6_metricOf_66 : decode cX6_metricOf 66 = .ok (.irem, 1) := by decide +kernel
theorem dX6_metricOf_67 : decode cX6_metricOf 67 = .ok (.invokevirtual 136, 3) := by decide +kernel
theorem dX6_metricOf_70 : decode cX6_metricOf 70 = .ok (.goto 50, 3) := by decide +kernel
theorem dX6_metricOf_73 : decode cX6_metricOf 73 = .ok (.iload_n 3, 1) := by decide +kernel
theorem dX6_metricOf_74 : decode cX6_metricOf 74 = .ok (.iconst 3, 1) := by decide +kernel
theorem dX6_metricOf_75 : decode cX6_metricOf 75 = .ok (.if_icmp .ne 16, 3) := by decide +kernel
theorem dX6_metricOf_78 : decode cX6_metricOf 78 = .ok (.aload_n 0, 1) := by decide +kernel
theorem dX6_metricOf_79 : decode cX6_metricOf 79 = .ok (.iload_n 1, 1) := by decide +kernel
theorem dX6_metricOf_80 : decode cX6_metricOf 80 = .ok (.iconst 5, 1) := by decide +kernel
theorem dX6_metricOf_81 : decode cX6_metricOf 81 = .ok (.iload 5, 2) := by decide +kernel
theorem dX6_metricOf_83 : decode cX6_metricOf 83 = .ok (.iconst 4, 1) := by decide +kernel
theorem dX6_metricOf_84 : decode cX6_metricOf 84 = .ok (.idiv, 1) := by decide +kernel
theorem dX6_metricOf_85 : decode cX6_metricOf 85 = .ok (.invokevirtual 136, 3) := by decide +kernel
theorem dX6_metricOf_88 : decode cX6_metricOf 88 = .ok (.goto 32, 3) := by decide +kernel
theorem dX6_metricOf_91 : decode cX6_metricOf 91 = .ok (.iload_n 3, 1) := by decide +kernel
theorem dX6_metricOf_92 : decode cX6_metricOf 92 = .ok (.iconst 4, 1) := by decide +kernel
theorem dX6_metricOf_93 : decode cX6_metricOf 93 = .ok (.if_icmp .ne 10, 3) := by decide +kernel
theorem dX6_metricOf_96 : decode cX6_metricOf 96 = .ok (.iload 5, 2) := by decide +kernel
theorem dX6_metricOf_98 : decode cX6_metricOf 98 = .ok (.iconst 4, 1) := by decide +kernel
theorem dX6_metricOf_99 : decode cX6_metricOf 99 = .ok (.irem, 1) := by decide +kernel
theorem dX6_metricOf_100 : decode cX6_metricOf 100 = .ok (.goto 20, 3) := by decide +kernel
theorem dX6_metricOf_103 : decode cX6_metricOf 103 = .ok (.iload 5, 2) := by decide +kernel
theorem dX6_metricOf_105 : decode cX6_metricOf 105 = .ok (.iconst 4, 1) := by decide +kernel
theorem dX6_metricOf_106 : decode cX6_metricOf 106 = .ok (.irem, 1) := by decide +kernel
theorem dX6_metricOf_107 : decode cX6_metricOf 107 = .ok (.ifCond .ne 7, 3) := by decide +kernel
theorem dX6_metricOf_110 : decode cX6_metricOf 110 = .ok (.iconst 0, 1) := by decide +kernel
theorem dX6_metricOf_111 : decode cX6_metricOf 111 = .ok (.goto 9, 3) := by decide +kernel
theorem dX6_metricOf_114 : decode cX6_metricOf 114 = .ok (.aload_n 0, 1) := by decide +kernel
theorem dX6_metricOf_115 : decode cX6_metricOf 115 = .ok (.iload_n 2, 1) := by decide +kernel
theorem dX6_metricOf_116 : decode cX6_metricOf 116 = .ok (.iconst 3, 1) := by decide +kernel
theorem dX6_metricOf_117 : decode cX6_metricOf 117 = .ok (.invokevirtual 71, 3) := by decide +kernel
theorem dX6_metricOf_120 : decode cX6_metricOf 120 = .ok (.ireturn, 1) := by decide +kernel
theorem dX6_metric_0 : decode cX6_metric 0 = .ok (.aload_n 0, 1) := by decide +kernel
theorem dX6_metric_1 : decode cX6_metric 1 = .ok (.iload_n 1, 1) := by decide +kernel
theorem dX6_metric_2 : decode cX6_metric 2 = .ok (.invokevirtual 139, 3) := by decide +kernel
theorem dX6_metric_5 : decode cX6_metric 5 = .ok (.istore 4, 2) := by decide +kernel
theorem dX6_metric_7 : decode cX6_metric 7 = .ok (.iload 4, 2) := by decide +kernel
theorem dX6_metric_9 : decode cX6_metric 9 = .ok (.ifCond .eq 12, 3) := by decide +kernel
theorem dX6_metric_12 : decode cX6_metric 12 = .ok (.iload_n 3, 1) := by decide +kernel
theorem dX6_metric_13 : decode cX6_metric 13 = .ok (.ifCond .lt 8, 3) := by decide +kernel
theorem dX6_metric_16 : decode cX6_metric 16 = .ok (.iload_n 3, 1) := by decide +kernel
theorem dX6_metric_17 : decode cX6_metric 17 = .ok (.iconst 5, 1) := by decide +kernel
theorem dX6_metric_18 : decode cX6_metric 18 = .ok (.if_icmp .le 9, 3) := by decide +kernel
theorem dX6_metric_21 : decode cX6_metric 21 = .ok (.aload_n 0, 1) := by decide +kernel
theorem dX6_metric_22 : decode cX6_metric 22 = .ok (.iconst 1, 1) := by decide +kernel
theorem dX6_metric_23 : decode cX6_metric 23 = .ok (.invokevirtual 127, 3) := by decide +kernel
theorem dX6_metric_26 : decode cX6_metric 26 = .ok (.ireturn, 1) := by decide +kernel
theorem dX6_metric_27 : decode cX6_metric 27 = .ok (.aload_n 0, 1) := by decide +kernel
theorem dX6_metric_28 : decode cX6_metric 28 = .ok (.iload_n 2, 1) := by decide +kernel
theorem dX6_metric_29 : decode cX6_metric 29 = .ok (.invokevirtual 76, 3) := by decide +kernel
theorem dX6_metric_32 : decode cX6_metric 32 = .ok (.ifCond .ne 9, 3) := by decide +kernel
theorem dX6_metric_35 : decode cX6_metric 35 = .ok (.aload_n 0, 1) := by decide +kernel
theorem dX6_metric_36 : decode cX6_metric 36 = .ok (.iconst 1, 1) := by decide +kernel
theorem dX6_metric_37 : decode cX6_metric 37 = .ok (.invokevirtual 127, 3) := by decide +kernel
theorem dX6_metric_40 : decode cX6_metric 40 = .ok (.ireturn, 1) := by decide +kernel
theorem dX6_metric_41 : decode cX6_metric 41 = .ok (.aload_n 0, 1) := by decide +kernel
theorem dX6_metric_42 : decode cX6_metric 42 = .ok (.iconst 0, 1) := by decide +kernel
theorem dX6_metric_43 : decode cX6_metric 43 = .ok (.putfield 37, 3) := by decide +kernel
theorem dX6_metric_46 : decode cX6_metric 46 = .ok (.aload_n 0, 1) := by decide +kernel
theorem dX6_metric_47 : decode cX6_metric 47 = .ok (.iload_n 1, 1) := by decide +kernel
theorem dX6_metric_48 : decode cX6_metric 48 = .ok (.iload_n 2, 1) := by decide +kernel
theorem dX6_metric_49 : decode cX6_metric 49 = .ok (.iload_n 3, 1) := by decide +kernel
theorem dX6_metric_50 : decode cX6_metric 50 = .ok (.invokevirtual 142, 3) := by decide +kernel
theorem dX6_metric_53 : decode cX6_metric 53 = .ok (.ireturn, 1) := by decide +kernel
theorem dX6_parameter_0 : decode cX6_parameter 0 = .ok (.aload_n 0, 1) := by decide +kernel
theorem dX6_parameter_1 : decode cX6_parameter 1 = .ok (.iload_n 1, 1) := by decide +kernel
theorem dX6_parameter_2 : decode cX6_parameter 2 = .ok (.invokevirtual 139, 3) := by decide +kernel
theorem dX6_parameter_5 : decode cX6_parameter 5 = .ok (.ifCond .eq 8, 3) := by decide +kernel
theorem dX6_parameter_8 : decode cX6_parameter 8 = .ok (.iload_n 2, 1) := by decide +kernel
theorem dX6_parameter_9 : decode cX6_parameter 9 = .ok (.iconst 1, 1) := by decide +kernel
theorem dX6_parameter_10 : decode cX6_parameter 10 = .ok (.if_icmp .ge 9, 3) := by decide +kernel
theorem dX6_parameter_13 : decode cX6_parameter 13 = .ok (.aload_n 0, 1) := by decide +kernel
theorem dX6_parameter_14 : decode cX6_parameter 14 = .ok (.iconst 1, 1) := by decide +kernel
theorem dX6_parameter_15 : decode cX6_parameter 15 = .ok (.invokevirtual 127, 3) := by decide +kernel
theorem dX6_parameter_18 : decode cX6_parameter 18 = .ok (.ireturn, 1) := by decide +kernel
theorem dX6_parameter_19 : decode cX6_parameter 19 = .ok (.aload_n 0, 1) := by decide +kernel
theorem dX6_parameter_20 : decode cX6_parameter 20 = .ok (.iconst 0, 1) := by decide +kernel
theorem dX6_parameter_21 : decode cX6_parameter 21 = .ok (.putfield 37, 3) := by decide +kernel
theorem dX6_parameter_24 : decode cX6_parameter 24 = .ok (.iload_n 2, 1) := by decide +kernel
theorem dX6_parameter_25 : decode cX6_parameter 25 = .ok (.aload_n 0, 1) := by decide +kernel
theorem dX6_parameter_26 : decode cX6_parameter 26 = .ok (.bipush 11, 2) := by decide +kernel
theorem dX6_parameter_28 : decode cX6_parameter 28 = .ok (.invokevirtual 57, 3) := by decide +kernel
theorem dX6_parameter_31 : decode cX6_parameter 31 = .ok (.if_icmp .le 7, 3) := by decide +kernel
theorem dX6_parameter_34 : decode cX6_parameter 34 = .ok (.iconst 0, 1) := by decide +kernel
theorem dX6_parameter_35 : decode cX6_parameter 35 = .ok (.goto 33, 3) := by decide +kernel
theorem dX6_parameter_38 : decode cX6_parameter 38 = .ok (.iload_n 2, 1) := by decide +kernel
theorem dX6_parameter_39 : decode cX6_parameter 39 = .ok (.iconst 1, 1) := by decide +kernel
theorem dX6_parameter_40 : decode cX6_parameter 40 = .ok (.if_icmp .ne 18, 3) := by decide +kernel
theorem dX6_parameter_43 : decode cX6_parameter 43 = .ok (.aload_n 0, 1) := by decide +kernel
theorem dX6_parameter_44 : decode cX6_parameter 44 = .ok (.aload_n 0, 1) := by decide +kernel
theorem dX6_parameter_45 : decode cX6_parameter 45 = .ok (.bipush 9, 2) := by decide +kernel
theorem dX6_parameter_47 : decode cX6_parameter 47 = .ok (.invokevirtual 64, 3) := by decide +kernel
theorem dX6_parameter_50 : decode cX6_parameter 50 = .ok (.invokevirtual 83, 3) := by decide +kernel
theorem dX6_parameter_53 : decode cX6_parameter 53 = .ok (.iconst 4, 1) := by decide +kernel
theorem dX6_parameter_54 : decode cX6_parameter 54 = .ok (.ishr, 1) := by decide +kernel
theorem dX6_parameter_55 : decode cX6_parameter 55 = .ok (.goto 13, 3) := by decide +kernel
theorem dX6_parameter_58 : decode cX6_parameter 58 = .ok (.aload_n 0, 1) := by decide +kernel
theorem dX6_parameter_59 : decode cX6_parameter 59 = .ok (.iload_n 1, 1) := by decide +kernel
theorem dX6_parameter_60 : decode cX6_parameter 60 = .ok (.bipush 9, 2) := by decide +kernel
theorem dX6_parameter_62 : decode cX6_parameter 62 = .ok (.iload_n 2, 1) := by decide +kernel
theorem dX6_parameter_63 : decode cX6_parameter 63 = .ok (.iconst 1, 1) := by decide +kernel
theorem dX6_parameter_64 : decode cX6_parameter 64 = .ok (.isub, 1) := by decide +kernel
theorem dX6_parameter_65 : decode cX6_parameter 65 = .ok (.invokevirtual 136, 3) := by decide +kernel
theorem dX6_parameter_68 : decode cX6_parameter 68 = .ok (.ireturn, 1) := by decide +kernel
theorem dX6_open_0 : decode cX6_open 0 = .ok (.aload_n 0, 1) := by decide +kernel
theorem dX6_open_1 : decode cX6_open 1 = .ok (.getfield 145, 3) := by decide +kernel
theorem dX6_open_4 : decode cX6_open 4 = .ok (.istore 4, 2) := by decide +kernel
theorem dX6_open_6 : decode cX6_open 6 = .ok (.iload 4, 2) := by decide +kernel
theorem dX6_open_8 : decode cX6_open 8 = .ok (.iload_n 1, 1) := by decide +kernel
theorem dX6_open_9 : decode cX6_open 9 = .ok (.if_icmp .le 41, 3) := by decide +kernel
theorem dX6_open_12 : decode cX6_open 12 = .ok (.aload_n 0, 1) := by decide +kernel
theorem dX6_open_13 : decode cX6_open 13 = .ok (.getfield 31, 3) := by decide +kernel
theorem dX6_open_16 : decode cX6_open 16 = .ok (.iload 4, 2) := by decide +kernel
theorem dX6_open_18 : decode cX6_open 18 = .ok (.aload_n 0, 1) := by decide +kernel
theorem dX6_open_19 : decode cX6_open 19 = .ok (.getfield 31, 3) := by decide +kernel
theorem dX6_open_22 : decode cX6_open 22 = .ok (.iload 4, 2) := by decide +kernel
theorem dX6_open_24 : decode cX6_open 24 = .ok (.iconst 1, 1) := by decide +kernel
theorem dX6_open_25 : decode cX6_open 25 = .ok (.isub, 1) := by decide +kernel
theorem dX6_open_26 : decode cX6_open 26 = .ok (.iaload, 1) := by decide +kernel
theorem dX6_open_27 : decode cX6_open 27 = .ok (.iastore, 1) := by decide +kernel
theorem dX6_open_28 : decode cX6_open 28 = .ok (.aload_n 0, 1) := by decide +kernel
theorem dX6_open_29 : decode cX6_open 29 = .ok (.getfield 34, 3) := by decide +kernel
theorem dX6_open_32 : decode cX6_open 32 = .ok (.iload 4, 2) := by decide +kernel
theorem dX6_open_34 : decode cX6_open 34 = .ok (.aload_n 0, 1) := by decide +kernel
theorem dX6_open_35 : decode cX6_open 35 = .ok (.getfield 34, 3) := by decide +kernel
theorem dX6_open_38 : decode cX6_open 38 = .ok (.iload 4, 2) := by decide +kernel
theorem dX6_open_40 : decode cX6_open 40 = .ok (.iconst 1, 1) := by decide +kernel
theorem dX6_open_41 : decode cX6_open 41 = .ok (.isub, 1) := by decide +kernel
theorem dX6_open_42 : decode cX6_open 42 = .ok (.iaload, 1) := by decide +kernel
theorem dX6_open_43 : decode cX6_open 43 = .ok (.iastore, 1) := by decide +kernel
theorem dX6_open_44 : decode cX6_open 44 = .ok (.iinc 4 (-1), 3) := by decide +kernel
theorem dX6_open_47 : decode cX6_open 47 = .ok (.goto (-41), 3) := by decide +kernel
theorem dX6_open_50 : decode cX6_open 50 = .ok (.aload_n 0, 1) := by decide +kernel
theorem dX6_open_51 : decode cX6_open 51 = .ok (.getfield 31, 3) := by decide +kernel
theorem dX6_open_54 : decode cX6_open 54 = .ok (.iload_n 1, 1) := by decide +kernel
theorem dX6_open_55 : decode cX6_open 55 = .ok (.iload_n 2, 1) := by decide +kernel
theorem dX6_open_56 : decode cX6_open 56 = .ok (.iastore, 1) := by decide +kernel
theorem dX6_open_57 : decode cX6_open 57 = .ok (.aload_n 0, 1) := by decide +kernel
theorem dX6_open_58 : decode cX6_open 58 = .ok (.getfield 34, 3) := by decide +kernel
theorem dX6_open_61 : decode cX6_open 61 = .ok (.iload_n 1, 1) := by decide +kernel
theorem dX6_open_62 : decode cX6_open 62 = .ok (.iload_n 3, 1) := by decide +kernel
theorem dX6_open_63 : decode cX6_open 63 = .ok (.iastore, 1) := by decide +kernel
theorem dX6_open_64 : decode cX6_open 64 = .ok (.aload_n 0, 1) := by decide +kernel
theorem dX6_open_65 : decode cX6_open 65 = .ok (.dup, 1) := by decide +kernel
theorem dX6_open_66 : decode cX6_open 66 = .ok (.getfield 145, 3) := by decide +kernel
theorem dX6_open_69 : decode cX6_open 69 = .ok (.iconst 1, 1) := by decide +kernel
theorem dX6_open_70 : decode cX6_open 70 = .ok (.iadd, 1) := by decide +kernel
theorem dX6_open_71 : decode cX6_open 71 = .ok (.putfield 145, 3) := by decide +kernel
theorem dX6_open_74 : decode cX6_open 74 = .ok (.return_, 1) := by decide +kernel
theorem dX6_close_0 : decode cX6_close 0 = .ok (.aload_n 0, 1) := by decide +kernel
theorem dX6_close_1 : decode cX6_close 1 = .ok (.dup, 1) := by decide +kernel
theorem dX6_close_2 : decode cX6_close 2 = .ok (.getfield 145, 3) := by decide +kernel
theorem dX6_close_5 : decode cX6_close 5 = .ok (.iconst 1, 1) := by decide +kernel
theorem dX6_close_6 : decode cX6_close 6 = .ok (.isub, 1) := by decide +kernel
theorem dX6_close_7 : decode cX6_close 7 = .ok (.putfield 145, 3) := by decide +kernel
theorem dX6_close_10 : decode cX6_close 10 = .ok (.iload_n 1, 1) := by decide +kernel
theorem dX6_close_11 : decode cX6_close 11 = .ok (.istore_n 2, 1) := by decide +kernel
theorem dX6_close_12 : decode cX6_close 12 = .ok (.iload_n 2, 1) := by decide +kernel
theorem dX6_close_13 : decode cX6_close 13 = .ok (.aload_n 0, 1) := by decide +kernel
theorem dX6_close_14 : decode cX6_close 14 = .ok (.getfield 145, 3) := by decide +kernel
theorem dX6_close_17 : decode cX6_close 17 = .ok (.if_icmp .ge 37, 3) := by decide +kernel
theorem dX6_close_20 : decode cX6_close 20 = .ok (.aload_n 0, 1) := by decide +kernel
theorem dX6_close_21 : decode cX6_close 21 = .ok (.getfield 31, 3) := by decide +kernel
theorem dX6_close_24 : decode cX6_close 24 = .ok (.iload_n 2, 1) := by decide +kernel
theorem dX6_close_25 : decode cX6_close 25 = .ok (.aload_n 0, 1) := by decide +kernel
theorem dX6_close_26 : decode cX6_close 26 = .ok (.getfield 31, 3) := by decide +kernel
theorem dX6_close_29 : decode cX6_close 29 = .ok (.iload_n 2, 1) := by decide +kernel
theorem dX6_close_30 : decode cX6_close 30 = .ok (.iconst 1, 1) := by decide +kernel
theorem dX6_close_31 : decode cX6_close 31 = .ok (.iadd, 1) := by decide +kernel
theorem dX6_close_32 : decode cX6_close 32 = .ok (.iaload, 1) := by decide +kernel
theorem dX6_close_33 : decode cX6_close 33 = .ok (.iastore, 1) := by decide +kernel
theorem dX6_close_34 : decode cX6_close 34 = .ok (.aload_n 0, 1) := by decide +kernel
theorem dX6_close_35 : decode cX6_close 35 = .ok (.getfield 34, 3) := by decide +kernel
theorem dX6_close_38 : decode cX6_close 38 = .ok (.iload_n 2, 1) := by decide +kernel
theorem dX6_close_39 : decode cX6_close 39 = .ok (.aload_n 0, 1) := by decide +kernel
theorem dX6_close_40 : decode cX6_close 40 = .ok (.getfield 34, 3) := by decide +kernel
theorem dX6_close_43 : decode cX6_close 43 = .ok (.iload_n 2, 1) := by decide +kernel
theorem dX6_close_44 : decode cX6_close 44 = .ok (.iconst 1, 1) := by decide +kernel
theorem dX6_close_45 : decode cX6_close 45 = .ok (.iadd, 1) := by decide +kernel
theorem dX6_close_46 : decode cX6_close 46 = .ok (.iaload, 1) := by decide +kernel
theorem dX6_close_47 : decode cX6_close 47 = .ok (.iastore, 1) := by decide +kernel
theorem dX6_close_48 : decode cX6_close 48 = .ok (.iinc 2 1, 3) := by decide +kernel
theorem dX6_close_51 : decode cX6_close 51 = .ok (.goto (-39), 3) := by decide +kernel
theorem dX6_close_54 : decode cX6_close 54 = .ok (.return_, 1) := by decide +kernel
theorem dX6_change_0 : decode cX6_change 0 = .ok (.aload_n 0, 1) := by decide +kernel
theorem dX6_change_1 : decode cX6_change 1 = .ok (.getfield 31, 3) := by decide +kernel
theorem dX6_change_4 : decode cX6_change 4 = .ok (.iload_n 1, 1) := by decide +kernel
theorem dX6_change_5 : decode cX6_change 5 = .ok (.iconst 1, 1) := by decide +kernel
theorem dX6_change_6 : decode cX6_change 6 = .ok (.iastore, 1) := by decide +kernel
theorem dX6_change_7 : decode cX6_change 7 = .ok (.aload_n 0, 1) := by decide +kernel
theorem dX6_change_8 : decode cX6_change 8 = .ok (.getfield 34, 3) := by decide +kernel
theorem dX6_change_11 : decode cX6_change 11 = .ok (.iload_n 1, 1) := by decide +kernel
theorem dX6_change_12 : decode cX6_change 12 = .ok (.iload_n 2, 1) := by decide +kernel
theorem dX6_change_13 : decode cX6_change 13 = .ok (.iastore, 1) := by decide +kernel
theorem dX6_change_14 : decode cX6_change 14 = .ok (.return_, 1) := by decide +kernel
theorem dX6_join_0 : decode cX6_join 0 = .ok (.iload_n 2, 1) := by decide +kernel
theorem dX6_join_1 : decode cX6_join 1 = .ok (.ifCond .ne 18, 3) := by decide +kernel
theorem dX6_join_4 : decode cX6_join 4 = .ok (.aload_n 0, 1) := by decide +kernel
theorem dX6_join_5 : decode cX6_join 5 = .ok (.iload_n 1, 1) := by decide +kernel
theorem dX6_join_6 : decode cX6_join 6 = .ok (.iload_n 3, 1) := by decide +kernel
theorem dX6_join_7 : decode cX6_join 7 = .ok (.invokevirtual 148, 3) := by decide +kernel
theorem dX6_join_10 : decode cX6_join 10 = .ok (.aload_n 0, 1) := by decide +kernel
theorem dX6_join_11 : decode cX6_join 11 = .ok (.iload_n 1, 1) := by decide +kernel
theorem dX6_join_12 : decode cX6_join 12 = .ok (.iconst 1, 1) := by decide +kernel
theorem dX6_join_13 : decode cX6_join 13 = .ok (.iadd, 1) := by decide +kernel
theorem dX6_join_14 : decode cX6_join 14 = .ok (.invokevirtual 152, 3) := by decide +kernel
theorem dX6_join_17 : decode cX6_join 17 = .ok (.iload_n 1, 1) := by decide +kernel
theorem dX6_join_18 : decode cX6_join 18 = .ok (.ireturn, 1) := by decide +kernel
theorem dX6_join_19 : decode cX6_join 19 = .ok (.iload_n 2, 1) := by decide +kernel
theorem dX6_join_20 : decode cX6_join 20 = .ok (.iconst 1, 1) := by decide +kernel
theorem dX6_join_21 : decode cX6_join 21 = .ok (.if_icmp .eq 8, 3) := by decide +kernel
theorem dX6_join_24 : decode cX6_join 24 = .ok (.iload_n 2, 1) := by decide +kernel
theorem dX6_join_25 : decode cX6_join 25 = .ok (.iconst 5, 1) := by decide +kernel
theorem dX6_join_26 : decode cX6_join 26 = .ok (.if_icmp .ne 12, 3) := by decide +kernel
theorem dX6_join_29 : decode cX6_join 29 = .ok (.aload_n 0, 1) := by decide +kernel
theorem dX6_join_30 : decode cX6_join 30 = .ok (.iload_n 1, 1) := by decide +kernel
theorem dX6_join_31 : decode cX6_join 31 = .ok (.iload_n 3, 1) := by decide +kernel
theorem dX6_join_32 : decode cX6_join 32 = .ok (.invokevirtual 148, 3) := by decide +kernel
theorem dX6_join_35 : decode cX6_join 35 = .ok (.goto 34, 3) := by decide +kernel
theorem dX6_join_38 : decode cX6_join 38 = .ok (.iload_n 2, 1) := by decide +kernel
theorem dX6_join_39 : decode cX6_join 39 = .ok (.iconst 2, 1) := by decide +kernel
theorem dX6_join_40 : decode cX6_join 40 = .ok (.if_icmp .eq 9, 3) := by decide +kernel
theorem dX6_join_43 : decode cX6_join 43 = .ok (.iload_n 2, 1) := by decide +kernel
theorem dX6_join_44 : decode cX6_join 44 = .ok (.bipush 6, 2) := by decide +kernel
theorem dX6_join_46 : decode cX6_join 46 = .ok (.if_icmp .ne 14, 3) := by decide +kernel
theorem dX6_join_49 : decode cX6_join 49 = .ok (.aload_n 0, 1) := by decide +kernel
theorem dX6_join_50 : decode cX6_join 50 = .ok (.iload_n 1, 1) := by decide +kernel
theorem dX6_join_51 : decode cX6_join 51 = .ok (.iconst 1, 1) := by decide +kernel
theorem dX6_join_52 : decode cX6_join 52 = .ok (.iadd, 1) := by decide +kernel
theorem dX6_join_53 : decode cX6_join 53 = .ok (.iload_n 3, 1) := by decide +kernel
theorem dX6_join_54 : decode cX6_join 54 = .ok (.invokevirtual 148, 3) := by decide +kernel
theorem dX6_join_57 : decode cX6_join 57 = .ok (.goto 12, 3) := by decide +kernel
theorem dX6_join_60 : decode cX6_join 60 = .ok (.aload_n 0, 1) := by decide +kernel
theorem dX6_join_61 : decode cX6_join 61 = .ok (.iload_n 1, 1) := by decide +kernel
theorem dX6_join_62 : decode cX6_join 62 = .ok (.iconst 1, 1) := by decide +kernel
theorem dX6_join_63 : decode cX6_join 63 = .ok (.iadd, 1) := by decide +kernel
theorem dX6_join_64 : decode cX6_join 64 = .ok (.iconst 1, 1) := by decide +kernel
theorem dX6_join_65 : decode cX6_join 65 = .ok (.iload_n 3, 1) := by decide +kernel
theorem dX6_join_66 : decode cX6_join 66 = .ok (.invokevirtual 156, 3) := by decide +kernel
theorem dX6_join_69 : decode cX6_join 69 = .ok (.iload_n 2, 1) := by decide +kernel
theorem dX6_join_70 : decode cX6_join 70 = .ok (.iconst 4, 1) := by decide +kernel
theorem dX6_join_71 : decode cX6_join 71 = .ok (.if_icmp .ge 7, 3) := by decide +kernel
theorem dX6_join_74 : decode cX6_join 74 = .ok (.iload_n 1, 1) := by decide +kernel
theorem dX6_join_75 : decode cX6_join 75 = .ok (.goto 18, 3) := by decide +kernel
theorem dX6_join_78 : decode cX6_join 78 = .ok (.iload_n 2, 1) := by decide +kernel
theorem dX6_join_79 : decode cX6_join 79 = .ok (.bipush 11, 2) := by decide +kernel
theorem dX6_join_81 : decode cX6_join 81 = .ok (.if_icmp .ne 9, 3) := by decide +kernel
theorem dX6_join_84 : decode cX6_join 84 = .ok (.iload_n 1, 1) := by decide +kernel
theorem dX6_join_85 : decode cX6_join 85 = .ok (.iconst 2, 1) := by decide +kernel
theorem dX6_join_86 : decode cX6_join 86 = .ok (.iadd, 1) := by decide +kernel
theorem dX6_join_87 : decode cX6_join 87 = .ok (.goto 6, 3) := by decide +kernel
theorem dX6_join_90 : decode cX6_join 90 = .ok (.iload_n 1, 1) := by decide +kernel
theorem dX6_join_91 : decode cX6_join 91 = .ok (.iconst 1, 1) := by decide +kernel
theorem dX6_join_92 : decode cX6_join 92 = .ok (.iadd, 1) := by decide +kernel
theorem dX6_join_93 : decode cX6_join 93 = .ok (.ireturn, 1) := by decide +kernel
theorem dX6_setting_0 : decode cX6_setting 0 = .ok (.aload_n 0, 1) := by decide +kernel
theorem dX6_setting_1 : decode cX6_setting 1 = .ok (.iconst 0, 1) := by decide +kernel
theorem dX6_setting_2 : decode cX6_setting 2 = .ok (.putfield 145, 3) := by decide +kernel
theorem dX6_setting_5 : decode cX6_setting 5 = .ok (.aload_n 0, 1) := by decide +kernel
theorem dX6_setting_6 : decode cX6_setting 6 = .ok (.iconst 0, 1) := by decide +kernel
theorem dX6_setting_7 : decode cX6_setting 7 = .ok (.iconst 3, 1) := by decide +kernel
theorem dX6_setting_8 : decode cX6_setting 8 = .ok (.sipush 256, 3) := by decide +kernel
theorem dX6_setting_11 : decode cX6_setting 11 = .ok (.invokevirtual 156, 3) := by decide +kernel
theorem dX6_setting_14 : decode cX6_setting 14 = .ok (.iconst 0, 1) := by decide +kernel
theorem dX6_setting_15 : decode cX6_setting 15 = .ok (.istore_n 3, 1) := by decide +kernel
theorem dX6_setting_16 : decode cX6_setting 16 = .ok (.iload_n 3, 1) := by decide +kernel
theorem dX6_setting_17 : decode cX6_setting 17 = .ok (.iload_n 2, 1) := by decide +kernel
theorem dX6_setting_18 : decode cX6_setting 18 = .ok (.if_icmp .ge 33, 3) := by decide +kernel
theorem dX6_setting_21 : decode cX6_setting 21 = .ok (.aload_n 0, 1) := by decide +kernel
theorem dX6_setting_22 : decode cX6_setting 22 = .ok (.iload_n 3, 1) := by decide +kernel
theorem dX6_setting_23 : decode cX6_setting 23 = .ok (.iconst 1, 1) := by decide +kernel
theorem dX6_setting_24 : decode cX6_setting 24 = .ok (.iadd, 1) := by decide +kernel
theorem dX6_setting_25 : decode cX6_setting 25 = .ok (.iconst 0, 1) := by decide +kernel
theorem dX6_setting_26 : decode cX6_setting 26 = .ok (.aload_n 0, 1) := by decide +kernel
theorem dX6_setting_27 : decode cX6_setting 27 = .ok (.getfield 8, 3) := by decide +kernel
theorem dX6_setting_30 : decode cX6_setting 30 = .ok (.aload_n 0, 1) := by decide +kernel
theorem dX6_setting_31 : decode cX6_setting 31 = .ok (.getfield 14, 3) := by decide +kernel
theorem dX6_setting_34 : decode cX6_setting 34 = .ok (.aload_n 0, 1) := by decide +kernel
theorem dX6_setting_35 : decode cX6_setting 35 = .ok (.getfield 45, 3) := by decide +kernel
theorem dX6_setting_38 : decode cX6_setting 38 = .ok (.iaload, 1) := by decide +kernel
theorem dX6_setting_39 : decode cX6_setting 39 = .ok (.iload_n 3, 1) := by decide +kernel
theorem dX6_setting_40 : decode cX6_setting 40 = .ok (.iadd, 1) := by decide +kernel
theorem dX6_setting_41 : decode cX6_setting 41 = .ok (.iaload, 1) := by decide +kernel
theorem dX6_setting_42 : decode cX6_setting 42 = .ok (.invokevirtual 156, 3) := by decide +kernel
theorem dX6_setting_45 : decode cX6_setting 45 = .ok (.iinc 3 1, 3) := by decide +kernel
theorem dX6_setting_48 : decode cX6_setting 48 = .ok (.goto (-32), 3) := by decide +kernel
theorem dX6_setting_51 : decode cX6_setting 51 = .ok (.aload_n 0, 1) := by decide +kernel
theorem dX6_setting_52 : decode cX6_setting 52 = .ok (.iload_n 2, 1) := by decide +kernel
theorem dX6_setting_53 : decode cX6_setting 53 = .ok (.iconst 1, 1) := by decide +kernel
theorem dX6_setting_54 : decode cX6_setting 54 = .ok (.iadd, 1) := by decide +kernel
theorem dX6_setting_55 : decode cX6_setting 55 = .ok (.iconst 3, 1) := by decide +kernel
theorem dX6_setting_56 : decode cX6_setting 56 = .ok (.aload_n 0, 1) := by decide +kernel
theorem dX6_setting_57 : decode cX6_setting 57 = .ok (.invokevirtual 91, 3) := by decide +kernel
theorem dX6_setting_60 : decode cX6_setting 60 = .ok (.invokevirtual 156, 3) := by decide +kernel
theorem dX6_setting_63 : decode cX6_setting 63 = .ok (.iconst 0, 1) := by decide +kernel
theorem dX6_setting_64 : decode cX6_setting 64 = .ok (.istore_n 3, 1) := by decide +kernel
theorem dX6_setting_65 : decode cX6_setting 65 = .ok (.iconst 0, 1) := by decide +kernel
theorem dX6_setting_66 : decode cX6_setting 66 = .ok (.istore 4, 2) := by decide +kernel
theorem dX6_setting_68 : decode cX6_setting 68 = .ok (.iload_n 3, 1) := by decide +kernel
theorem dX6_setting_69 : decode cX6_setting 69 = .ok (.iconst 1, 1) := by decide +kernel
theorem dX6_setting_70 : decode cX6_setting 70 = .ok (.iadd, 1) := by decide +kernel
theorem dX6_setting_71 : decode cX6_setting 71 = .ok (.aload_n 0, 1) := by decide +kernel
theorem dX6_setting_72 : decode cX6_setting 72 = .ok (.getfield 145, 3) := by decide +kernel
theorem dX6_setting_75 : decode cX6_setting 75 = .ok (.if_icmp .ge 151, 3) := by decide +kernel
theorem dX6_setting_78 : decode cX6_setting 78 = .ok (.iinc 4 1, 3) := by decide +kernel
theorem dX6_setting_81 : decode cX6_setting 81 = .ok (.iload 4, 2) := by decide +kernel
theorem dX6_setting_83 : decode cX6_setting 83 = .ok (.sipush 10000, 3) := by decide +kernel
theorem dX6_setting_86 : decode cX6_setting 86 = .ok (.if_icmp .le 5, 3) := by decide +kernel
theorem dX6_setting_89 : decode cX6_setting 89 = .ok (.iconst 3, 1) := by decide +kernel
theorem dX6_setting_90 : decode cX6_setting 90 = .ok (.ireturn, 1) := by decide +kernel
theorem dX6_setting_91 : decode cX6_setting 91 = .ok (.aload_n 0, 1) := by decide +kernel
theorem dX6_setting_92 : decode cX6_setting 92 = .ok (.getfield 34, 3) := by decide +kernel
theorem dX6_setting_95 : decode cX6_setting 95 = .ok (.iload_n 3, 1) := by decide +kernel
theorem dX6_setting_96 : decode cX6_setting 96 = .ok (.iconst 1, 1) := by decide +kernel
theorem dX6_setting_97 : decode cX6_setting 97 = .ok (.iadd, 1) := by decide +kernel
theorem dX6_setting_98 : decode cX6_setting 98 = .ok (.iaload, 1) := by decide +kernel
theorem dX6_setting_99 : decode cX6_setting 99 = .ok (.istore 5, 2) := by decide +kernel
theorem dX6_setting_101 : decode cX6_setting 101 = .ok (.iload 5, 2) := by decide +kernel
theorem dX6_setting_103 : decode cX6_setting 103 = .ok (.ifCond .ge 7, 3) := by decide +kernel
theorem dX6_setting_106 : decode cX6_setting 106 = .ok (.iconst (-1), 1) := by decide +kernel
theorem dX6_setting_107 : decode cX6_setting 107 = .ok (.goto 15, 3) := by decide +kernel
theorem dX6_setting_110 : decode cX6_setting 110 = .ok (.aload_n 0, 1) := by decide +kernel
theorem dX6_setting_111 : decode cX6_setting 111 = .ok (.aload_n 0, 1) := by decide +kernel
theorem dX6_setting_112 : decode cX6_setting 112 = .ok (.getfield 34, 3) := by decide +kernel
theorem dX6_setting_115 : decode cX6_setting 115 = .ok (.iload_n 3, 1) := by decide +kernel
theorem dX6_setting_116 : decode cX6_setting 116 = .ok (.iaload, 1) := by decide +kernel
theorem dX6_setting_117 : decode cX6_setting 117 = .ok (.iload 5, 2) := by decide +kernel
theorem dX6_setting_119 : decode cX6_setting 119 = .ok (.invokevirtual 160, 3) := by decide +kernel
theorem dX6_setting_122 : decode cX6_setting 122 = .ok (.istore 6, 2) := by decide +kernel
theorem dX6_setting_124 : decode cX6_setting 124 = .ok (.iload 6, 2) := by decide +kernel
theorem dX6_setting_126 : decode cX6_setting 126 = .ok (.ifCond .ge 9, 3) := by decide +kernel
theorem dX6_setting_129 : decode cX6_setting 129 = .ok (.iinc 3 1, 3) := by decide +kernel
theorem dX6_setting_132 : decode cX6_setting 132 = .ok (.goto 79, 3) := by decide +kernel
theorem dX6_setting_135 : decode cX6_setting 135 = .ok (.aload_n 0, 1) := by decide +kernel
theorem dX6_setting_136 : decode cX6_setting 136 = .ok (.iload 6, 2) := by decide +kernel
theorem dX6_setting_138 : decode cX6_setting 138 = .ok (.iconst 2, 1) := by decide +kernel
theorem dX6_setting_139 : decode cX6_setting 139 = .ok (.invokevirtual 88, 3) := by decide +kernel
theorem dX6_setting_142 : decode cX6_setting 142 = .ok (.bipush 127, 2) := by decide +kernel
theorem dX6_setting_144 : decode cX6_setting 144 = .ok (.if_icmp .le 47, 3) := by decide +kernel
theorem dX6_setting_147 : decode cX6_setting 147 = .ok (.aload_n 0, 1) := by decide +kernel
theorem dX6_setting_148 : decode cX6_setting 148 = .ok (.iload_n 3, 1) := by decide +kernel
theorem dX6_setting_149 : decode cX6_setting 149 = .ok (.iconst 1, 1) := by decide +kernel
theorem dX6_setting_150 : decode cX6_setting 150 = .ok (.iadd, 1) := by decide +kernel
theorem dX6_setting_151 : decode cX6_setting 151 = .ok (.iconst 2, 1) := by decide +kernel
theorem dX6_setting_152 : decode cX6_setting 152 = .ok (.aload_n 0, 1) := by decide +kernel
theorem dX6_setting_153 : decode cX6_setting 153 = .ok (.iload_n 1, 1) := by decide +kernel
theorem dX6_setting_154 : decode cX6_setting 154 = .ok (.bipush 7, 2) := by decide +kernel
theorem dX6_setting_156 : decode cX6_setting 156 = .ok (.sipush 256, 3) := by decide +kernel
theorem dX6_setting_159 : decode cX6_setting 159 = .ok (.aload_n 0, 1) := by decide +kernel
theorem dX6_setting_160 : decode cX6_setting 160 = .ok (.iload 6, 2) := by decide +kernel
theorem dX6_setting_162 : decode cX6_setting 162 = .ok (.iconst 2, 1) := by decide +kernel
theorem dX6_setting_163 : decode cX6_setting 163 = .ok (.invokevirtual 88, 3) := by decide +kernel
theorem dX6_setting_166 : decode cX6_setting 166 = .ok (.sipush 128, 3) := by decide +kernel
theorem dX6_setting_169 : decode cX6_setting 169 = .ok (.isub, 1) := by decide +kernel
theorem dX6_setting_170 : decode cX6_setting 170 = .ok (.imul, 1) := by decide +kernel
theorem dX6_setting_171 : decode cX6_setting 171 = .ok (.aload_n 0, 1) := by decide +kernel
theorem dX6_setting_172 : decode cX6_setting 172 = .ok (.iload 6, 2) := by decide +kernel
theorem dX6_setting_174 : decode cX6_setting 174 = .ok (.iconst 3, 1) := by decide +kernel
theorem dX6_setting_175 : decode cX6_setting 175 = .ok (.invokevirtual 88, 3) := by decide +kernel
theorem dX6_setting_178 : decode cX6_setting 178 = .ok (.iadd, 1) := by decide +kernel
theorem dX6_setting_179 : decode cX6_setting 179 = .ok (.invokevirtual 136, 3) := by decide +kernel
theorem dX6_setting_182 : decode cX6_setting 182 = .ok (.invokevirtual 156, 3) := by decide +kernel
theorem dX6_setting_185 : decode cX6_setting 185 = .ok (.iinc 3 2, 3) := by decide +kernel
theorem dX6_setting_188 : decode cX6_setting 188 = .ok (.goto 23, 3) := by decide +kernel
theorem dX6_setting_191 : decode cX6_setting 191 = .ok (.aload_n 0, 1) := by decide +kernel
theorem dX6_setting_192 : decode cX6_setting 192 = .ok (.iload_n 3, 1) := by decide +kernel
theorem dX6_setting_193 : decode cX6_setting 193 = .ok (.aload_n 0, 1) := by decide +kernel
theorem dX6_setting_194 : decode cX6_setting 194 = .ok (.iload 6, 2) := by decide +kernel
theorem dX6_setting_196 : decode cX6_setting 196 = .ok (.iconst 2, 1) := by decide +kernel
theorem dX6_setting_197 : decode cX6_setting 197 = .ok (.invokevirtual 88, 3) := by decide +kernel
theorem dX6_setting_200 : decode cX6_setting 200 = .ok (.aload_n 0, 1) := by decide +kernel
theorem dX6_setting_201 : decode cX6_setting 201 = .ok (.iload 6, 2) := by decide +kernel
theorem dX6_setting_203 : decode cX6_setting 203 = .ok (.iconst 3, 1) := by decide +kernel
theorem dX6_setting_204 : decode cX6_setting 204 = .ok (.invokevirtual 88, 3) := by decide +kernel
theorem dX6_setting_207 : decode cX6_setting 207 = .ok (.invokevirtual 163, 3) := by decide +kernel
theorem dX6_setting_210 : decode cX6_setting 210 = .ok (.istore_n 3, 1) := by decide +kernel
theorem dX6_setting_211 : decode cX6_setting 211 = .ok (.aload_n 0, 1) := by decide +kernel
theorem dX6_setting_212 : decode cX6_setting 212 = .ok (.getfield 145, 3) := by decide +kernel
theorem dX6_setting_215 : decode cX6_setting 215 = .ok (.sipush 1000, 3) := by decide +kernel
theorem dX6_setting_218 : decode cX6_setting 218 = .ok (.if_icmp .le 5, 3) := by decide +kernel
theorem dX6_setting_221 : decode cX6_setting 221 = .ok (.iconst 3, 1) := by decide +kernel
theorem dX6_setting_222 : decode cX6_setting 222 = .ok (.ireturn, 1) := by decide +kernel
theorem dX6_setting_223 : decode cX6_setting 223 = .ok (.goto (-155), 3) := by decide +kernel
theorem dX6_setting_226 : decode cX6_setting 226 = .ok (.iconst 0, 1) := by decide +kernel
theorem dX6_setting_227 : decode cX6_setting 227 = .ok (.ireturn, 1) := by decide +kernel
theorem dX6_set_0 : decode cX6_set 0 = .ok (.aload_n 0, 1) := by decide +kernel
theorem dX6_set_1 : decode cX6_set 1 = .ok (.getfield 41, 3) := by decide +kernel
theorem dX6_set_4 : decode cX6_set 4 = .ok (.istore_n 2, 1) := by decide +kernel
theorem dX6_set_5 : decode cX6_set 5 = .ok (.aload_n 0, 1) := by decide +kernel
theorem dX6_set_6 : decode cX6_set 6 = .ok (.iconst 0, 1) := by decide +kernel
theorem dX6_set_7 : decode cX6_set 7 = .ok (.putfield 41, 3) := by decide +kernel
theorem dX6_set_10 : decode cX6_set 10 = .ok (.aload_n 0, 1) := by decide +kernel
theorem dX6_set_11 : decode cX6_set 11 = .ok (.iconst 0, 1) := by decide +kernel
theorem dX6_set_12 : decode cX6_set 12 = .ok (.putfield 145, 3) := by decide +kernel
theorem dX6_set_15 : decode cX6_set 15 = .ok (.aload_n 0, 1) := by decide +kernel
theorem dX6_set_16 : decode cX6_set 16 = .ok (.lconst 0, 1) := by decide +kernel
theorem dX6_set_17 : decode cX6_set 17 = .ok (.putfield 166, 3) := by decide +kernel
theorem dX6_set_20 : decode cX6_set 20 = .ok (.aload_n 0, 1) := by decide +kernel
theorem dX6_set_21 : decode cX6_set 21 = .ok (.iload_n 1, 1) := by decide +kernel
theorem dX6_set_22 : decode cX6_set 22 = .ok (.invokevirtual 139, 3) := by decide +kernel
theorem dX6_set_25 : decode cX6_set 25 = .ok (.ifCond .ne 9, 3) := by decide +kernel
theorem dX6_set_28 : decode cX6_set 28 = .ok (.aload_n 0, 1) := by decide +kernel
theorem dX6_set_29 : decode cX6_set 29 = .ok (.iconst 1, 1) := by decide +kernel
theorem dX6_set_30 : decode cX6_set 30 = .ok (.invokevirtual 127, 3) := by decide +kernel
theorem dX6_set_33 : decode cX6_set 33 = .ok (.ireturn, 1) := by decide +kernel
theorem dX6_set_34 : decode cX6_set 34 = .ok (.iload_n 2, 1) := by decide +kernel
theorem dX6_set_35 : decode cX6_set 35 = .ok (.sipush 200, 3) := by decide +kernel
theorem dX6_set_38 : decode cX6_set 38 = .ok (.if_icmp .gt 7, 3) := by decide +kernel
theorem dX6_set_41 : decode cX6_set 41 = .ok (.iconst 1, 1) := by decide +kernel
theorem dX6_set_42 : decode cX6_set 42 = .ok (.goto 4, 3) := by decide +kernel
theorem dX6_set_45 : decode cX6_set 45 = .ok (.iconst 0, 1) := by decide +kernel
theorem dX6_set_46 : decode cX6_set 46 = .ok (.istore_n 3, 1) := by decide +kernel
theorem dX6_set_47 : decode cX6_set 47 = .ok (.iconst 0, 1) := by decide +kernel
theorem dX6_set_48 : decode cX6_set 48 = .ok (.istore 4, 2) := by decide +kernel
theorem dX6_set_50 : decode cX6_set 50 = .ok (.iload 4, 2) := by decide +kernel
theorem dX6_set_52 : decode cX6_set 52 = .ok (.iload_n 2, 1) := by decide +kernel
theorem dX6_set_53 : decode cX6_set 53 = .ok (.if_icmp .ge 35, 3) := by decide +kernel
theorem dX6_set_56 : decode cX6_set 56 = .ok (.iload_n 3, 1) := by decide +kernel
theorem dX6_set_57 : decode cX6_set 57 = .ok (.ifCond .eq 31, 3) := by decide +kernel
theorem dX6_set_60 : decode cX6_set 60 = .ok (.aload_n 0, 1) := by decide +kernel
theorem dX6_set_61 : decode cX6_set 61 = .ok (.aload_n 0, 1) := by decide +kernel
theorem dX6_set_62 : decode cX6_set 62 = .ok (.getfield 8, 3) := by decide +kernel
theorem dX6_set_65 : decode cX6_set 65 = .ok (.aload_n 0, 1) := by decide +kernel
theorem dX6_set_66 : decode cX6_set 66 = .ok (.getfield 14, 3) := by decide +kernel
theorem dX6_set_69 : decode cX6_set 69 = .ok (.aload_n 0, 1) := by decide +kernel
theorem dX6_set_70 : decode cX6_set 70 = .ok (.getfield 45, 3) := by decide +kernel
theorem dX6_set_73 : decode cX6_set 73 = .ok (.iaload, 1) := by decide +kernel
theorem dX6_set_74 : decode cX6_set 74 = .ok (.iload 4, 2) := by decide +kernel
theorem dX6_set_76 : decode cX6_set 76 = .ok (.iadd, 1) := by decide +kernel
theorem dX6_set_77 : decode cX6_set 77 = .ok (.iaload, 1) := by decide +kernel
theorem dX6_set_78 : decode cX6_set 78 = .ok (.invokevirtual 76, 3) := by decide +kernel
theorem dX6_set_81 : decode cX6_set 81 = .ok (.istore_n 3, 1) := by decide +kernel
theorem dX6_set_82 : decode cX6_set 82 = .ok (.iinc 4 1, 3) := by decide +kernel
theorem dX6_set_85 : decode cX6_set 85 = .ok (.goto (-35), 3) := by decide +kernel
theorem dX6_set_88 : decode cX6_set 88 = .ok (.iload_n 3, 1) := by decide +kernel
theorem dX6_set_89 : decode cX6_set 89 = .ok (.ifCond .ne 9, 3) := by decide +kernel
theorem dX6_set_92 : decode cX6_set 92 = .ok (.aload_n 0, 1) := by decide +kernel
theorem dX6_set_93 : decode cX6_set 93 = .ok (.iconst 2, 1) := by decide +kernel
theorem dX6_set_94 : decode cX6_set 94 = .ok (.invokevirtual 127, 3) := by decide +kernel
theorem dX6_set_97 : decode cX6_set 97 = .ok (.ireturn, 1) := by decide +kernel
theorem dX6_set_98 : decode cX6_set 98 = .ok (.aload_n 0, 1) := by decide +kernel
theorem dX6_set_99 : decode cX6_set 99 = .ok (.iload_n 1, 1) := by decide +kernel
theorem dX6_set_100 : decode cX6_set 100 = .ok (.iload_n 2, 1) := by decide +kernel
theorem dX6_set_101 : decode cX6_set 101 = .ok (.invokevirtual 170, 3) := by decide +kernel
theorem dX6_set_104 : decode cX6_set 104 = .ok (.istore 4, 2) := by decide +kernel
theorem dX6_set_106 : decode cX6_set 106 = .ok (.iload 4, 2) := by decide +kernel
theorem dX6_set_108 : decode cX6_set 108 = .ok (.ifCond .le 15, 3) := by decide +kernel
theorem dX6_set_111 : decode cX6_set 111 = .ok (.aload_n 0, 1) := by decide +kernel
theorem dX6_set_112 : decode cX6_set 112 = .ok (.iconst 0, 1) := by decide +kernel
theorem dX6_set_113 : decode cX6_set 113 = .ok (.putfield 145, 3) := by decide +kernel
theorem dX6_set_116 : decode cX6_set 116 = .ok (.aload_n 0, 1) := by decide +kernel
theorem dX6_set_117 : decode cX6_set 117 = .ok (.iload 4, 2) := by decide +kernel
theorem dX6_set_119 : decode cX6_set 119 = .ok (.invokevirtual 127, 3) := by decide +kernel
theorem dX6_set_122 : decode cX6_set 122 = .ok (.ireturn, 1) := by decide +kernel
theorem dX6_set_123 : decode cX6_set 123 = .ok (.aload_n 0, 1) := by decide +kernel
theorem dX6_set_124 : decode cX6_set 124 = .ok (.iconst 0, 1) := by decide +kernel
theorem dX6_set_125 : decode cX6_set 125 = .ok (.putfield 37, 3) := by decide +kernel
theorem dX6_set_128 : decode cX6_set 128 = .ok (.iconst 0, 1) := by decide +kernel
theorem dX6_set_129 : decode cX6_set 129 = .ok (.istore 5, 2) := by decide +kernel
theorem dX6_set_131 : decode cX6_set 131 = .ok (.iload 5, 2) := by decide +kernel
theorem dX6_set_133 : decode cX6_set 133 = .ok (.aload_n 0, 1) := by decide +kernel
theorem dX6_set_134 : decode cX6_set 134 = .ok (.getfield 145, 3) := by decide +kernel
theorem dX6_set_137 : decode cX6_set 137 = .ok (.if_icmp .ge 74, 3) := by decide +kernel
theorem dX6_set_140 : decode cX6_set 140 = .ok (.aload_n 0, 1) := by decide +kernel
theorem dX6_set_141 : decode cX6_set 141 = .ok (.getfield 31, 3) := by decide +kernel
theorem dX6_set_144 : decode cX6_set 144 = .ok (.iload 5, 2) := by decide +kernel
theorem dX6_set_146 : decode cX6_set 146 = .ok (.iaload, 1) := by decide +kernel
theorem dX6_set_147 : decode cX6_set 147 = .ok (.iconst 3, 1) := by decide +kernel
theorem dX6_set_148 : decode cX6_set 148 = .ok (.if_icmp .ne 12, 3) := by decide +kernel
theorem dX6_set_151 : decode cX6_set 151 = .ok (.aload_n 0, 1) := by decide +kernel
theorem dX6_set_152 : decode cX6_set 152 = .ok (.iload 5, 2) := by decide +kernel
theorem dX6_set_154 : decode cX6_set 154 = .ok (.invokevirtual 152, 3) := by decide +kernel
theorem dX6_set_157 : decode cX6_set 157 = .ok (.goto (-26), 3) := by decide +kernel
theorem dX6_set_160 : decode cX6_set 160 = .ok (.aload_n 0, 1) := by decide +kernel
theorem dX6_set_161 : decode cX6_set 161 = .ok (.dup, 1) := by decide +kernel
theorem dX6_set_162 : decode cX6_set 162 = .ok (.getfield 166, 3) := by decide +kernel
theorem dX6_set_165 : decode cX6_set 165 = .ok (.aload_n 0, 1) := by decide +kernel
theorem dX6_set_166 : decode cX6_set 166 = .ok (.getfield 31, 3) := by decide +kernel
theorem dX6_set_169 : decode cX6_set 169 = .ok (.iload 5, 2) := by decide +kernel
theorem dX6_set_171 : decode cX6_set 171 = .ok (.iaload, 1) := by decide +kernel
theorem dX6_set_172 : decode cX6_set 172 = .ok (.iconst 2, 1) := by decide +kernel
theorem dX6_set_173 : decode cX6_set 173 = .ok (.if_icmp .ne 14, 3) := by decide +kernel
theorem dX6_set_176 : decode cX6_set 176 = .ok (.aload_n 0, 1) := by decide +kernel
theorem dX6_set_177 : decode cX6_set 177 = .ok (.getfield 34, 3) := by decide +kernel
theorem dX6_set_180 : decode cX6_set 180 = .ok (.iload 5, 2) := by decide +kernel
theorem dX6_set_182 : decode cX6_set 182 = .ok (.iaload, 1) := by decide +kernel
theorem dX6_set_183 : decode cX6_set 183 = .ok (.i2l, 1) := by decide +kernel
theorem dX6_set_184 : decode cX6_set 184 = .ok (.goto 17, 3) := by decide +kernel
theorem dX6_set_187 : decode cX6_set 187 = .ok (.aload_n 0, 1) := by decide +kernel
theorem dX6_set_188 : decode cX6_set 188 = .ok (.iload_n 1, 1) := by decide +kernel
theorem dX6_set_189 : decode cX6_set 189 = .ok (.aload_n 0, 1) := by decide +kernel
theorem dX6_set_190 : decode cX6_set 190 = .ok (.getfield 34, 3) := by decide +kernel
theorem dX6_set_193 : decode cX6_set 193 = .ok (.iload 5, 2) := by decide +kernel
theorem dX6_set_195 : decode cX6_set 195 = .ok (.iaload, 1) := by decide +kernel
theorem dX6_set_196 : decode cX6_set 196 = .ok (.iconst 0, 1) := by decide +kernel
theorem dX6_set_197 : decode cX6_set 197 = .ok (.invokevirtual 142, 3) := by decide +kernel
theorem dX6_set_200 : decode cX6_set 200 = .ok (.i2l, 1) := by decide +kernel
theorem dX6_set_201 : decode cX6_set 201 = .ok (.ladd, 1) := by decide +kernel
theorem dX6_set_202 : decode cX6_set 202 = .ok (.putfield 166, 3) := by decide +kernel
theorem dX6_set_205 : decode cX6_set 205 = .ok (.iinc 5 1, 3) := by decide +kernel
theorem dX6_set_208 : decode cX6_set 208 = .ok (.goto (-77), 3) := by decide +kernel
theorem dX6_set_211 : decode cX6_set 211 = .ok (.aload_n 0, 1) := by decide +kernel
theorem dX6_set_212 : decode cX6_set 212 = .ok (.getfield 145, 3) := by decide +kernel
theorem dX6_set_215 : decode cX6_set 215 = .ok (.ireturn, 1) := by decide +kernel
theorem dX6_item_0 : decode cX6_item 0 = .ok (.aload_n 0, 1) := by decide +kernel
theorem dX6_item_1 : decode cX6_item 1 = .ok (.iconst 0, 1) := by decide +kernel
theorem dX6_item_2 : decode cX6_item 2 = .ok (.putfield 37, 3) := by decide +kernel
theorem dX6_item_5 : decode cX6_item 5 = .ok (.iload_n 1, 1) := by decide +kernel
theorem dX6_item_6 : decode cX6_item 6 = .ok (.ifCond .lt 20, 3) := by decide +kernel
theorem dX6_item_9 : decode cX6_item 9 = .ok (.iload_n 1, 1) := by decide +kernel
theorem dX6_item_10 : decode cX6_item 10 = .ok (.aload_n 0, 1) := by decide +kernel
theorem dX6_item_11 : decode cX6_item 11 = .ok (.getfield 145, 3) := by decide +kernel
theorem dX6_item_14 : decode cX6_item 14 = .ok (.if_icmp .ge 12, 3) := by decide +kernel
theorem dX6_item_17 : decode cX6_item 17 = .ok (.iload_n 2, 1) := by decide +kernel
theorem dX6_item_18 : decode cX6_item 18 = .ok (.ifCond .lt 8, 3) := by decide +kernel
theorem dX6_item_21 : decode cX6_item 21 = .ok (.iload_n 2, 1) := by decide +kernel
theorem dX6_item_22 : decode cX6_item 22 = .ok (.iconst 1, 1) := by decide +kernel
theorem dX6_item_23 : decode cX6_item 23 = .ok (.if_icmp .le 7, 3) := by decide +kernel
theorem dX6_item_26 : decode cX6_item 26 = .ok (.iconst (-1), 1) := by decide +kernel
theorem dX6_item_27 : decode cX6_item 27 = .ok (.goto 22, 3) := by decide +kernel
theorem dX6_item_30 : decode cX6_item 30 = .ok (.iload_n 2, 1) := by decide +kernel
theorem dX6_item_31 : decode cX6_item 31 = .ok (.ifCond .ne 12, 3) := by decide +kernel
theorem dX6_item_34 : decode cX6_item 34 = .ok (.aload_n 0, 1) := by decide +kernel
theorem dX6_item_35 : decode cX6_item 35 = .ok (.getfield 31, 3) := by decide +kernel
theorem dX6_item_38 : decode cX6_item 38 = .ok (.iload_n 1, 1) := by decide +kernel
theorem dX6_item_39 : decode cX6_item 39 = .ok (.iaload, 1) := by decide +kernel
theorem dX6_item_40 : decode cX6_item 40 = .ok (.goto 9, 3) := by decide +kernel
theorem dX6_item_43 : decode cX6_item 43 = .ok (.aload_n 0, 1) := by decide +kernel
theorem dX6_item_44 : decode cX6_item 44 = .ok (.getfield 34, 3) := by decide +kernel
theorem dX6_item_47 : decode cX6_item 47 = .ok (.iload_n 1, 1) := by decide +kernel
theorem dX6_item_48 : decode cX6_item 48 = .ok (.iaload, 1) := by decide +kernel
theorem dX6_item_49 : decode cX6_item 49 = .ok (.ireturn, 1) := by decide +kernel
theorem dX6_width_0 : decode cX6_width 0 = .ok (.aload_n 0, 1) := by decide +kernel
theorem dX6_width_1 : decode cX6_width 1 = .ok (.iconst 0, 1) := by decide +kernel
theorem dX6_width_2 : decode cX6_width 2 = .ok (.putfield 37, 3) := by decide +kernel
theorem dX6_width_5 : decode cX6_width 5 = .ok (.aload_n 0, 1) := by decide +kernel
theorem dX6_width_6 : decode cX6_width 6 = .ok (.getfield 166, 3) := by decide +kernel
theorem dX6_width_9 : decode cX6_width 9 = .ok (.lreturn, 1) := by decide +kernel
theorem dX6_count_0 : decode cX6_count 0 = .ok (.aload_n 0, 1) := by decide +kernel
theorem dX6_count_1 : decode cX6_count 1 = .ok (.iconst 0, 1) := by decide +kernel
theorem dX6_count_2 : decode cX6_count 2 = .ok (.putfield 37, 3) := by decide +kernel
theorem dX6_count_5 : decode cX6_count 5 = .ok (.iload_n 1, 1) := by decide +kernel
theorem dX6_count_6 : decode cX6_count 6 = .ok (.ifCond .eq 8, 3) := by decide +kernel
theorem dX6_count_9 : decode cX6_count 9 = .ok (.iload_n 1, 1) := by decide +kernel
theorem dX6_count_10 : decode cX6_count 10 = .ok (.iconst 1, 1) := by decide +kernel
theorem dX6_count_11 : decode cX6_count 11 = .ok (.if_icmp .ne 19, 3) := by decide +kernel
theorem dX6_count_14 : decode cX6_count 14 = .ok (.iload_n 1, 1) := by decide +kernel
theorem dX6_count_15 : decode cX6_count 15 = .ok (.ifCond .ne 10, 3) := by decide +kernel
theorem dX6_count_18 : decode cX6_count 18 = .ok (.aload_n 0, 1) := by decide +kernel
theorem dX6_count_19 : decode cX6_count 19 = .ok (.getfield 45, 3) := by decide +kernel
theorem dX6_count_22 : decode cX6_count 22 = .ok (.goto 7, 3) := by decide +kernel
theorem dX6_count_25 : decode cX6_count 25 = .ok (.aload_n 0, 1) := by decide +kernel
theorem dX6_count_26 : decode cX6_count 26 = .ok (.getfield 41, 3) := by decide +kernel
theorem dX6_count_29 : decode cX6_count 29 = .ok (.ireturn, 1) := by decide +kernel
theorem dX6_count_30 : decode cX6_count 30 = .ok (.iload_n 1, 1) := by decide +kernel
theorem dX6_count_31 : decode cX6_count 31 = .ok (.ifCond .lt 8, 3) := by decide +kernel
theorem dX6_count_34 : decode cX6_count 34 = .ok (.iload_n 1, 1) := by decide +kernel
theorem dX6_count_35 : decode cX6_count 35 = .ok (.iconst 5, 1) := by decide +kernel
theorem dX6_count_36 : decode cX6_count 36 = .ok (.if_icmp .le 5, 3) := by decide +kernel
theorem dX6_count_39 : decode cX6_count 39 = .ok (.iconst (-1), 1) := by decide +kernel
theorem dX6_count_40 : decode cX6_count 40 = .ok (.ireturn, 1) := by decide +kernel
theorem dX6_count_41 : decode cX6_count 41 = .ok (.aload_n 0, 1) := by decide +kernel
theorem dX6_count_42 : decode cX6_count 42 = .ok (.getfield 45, 3) := by decide +kernel
theorem dX6_count_45 : decode cX6_count 45 = .ok (.ifCond .ne 5, 3) := by decide +kernel
theorem dX6_count_48 : decode cX6_count 48 = .ok (.iconst 0, 1) := by decide +kernel
theorem dX6_count_49 : decode cX6_count 49 = .ok (.ireturn, 1) := by decide +kernel
theorem dX6_count_50 : decode cX6_count 50 = .ok (.aload_n 0, 1) := by decide +kernel
theorem dX6_count_51 : decode cX6_count 51 = .ok (.aload_n 0, 1) := by decide +kernel
theorem dX6_count_52 : decode cX6_count 52 = .ok (.getfield 45, 3) := by decide +kernel
theorem dX6_count_55 : decode cX6_count 55 = .ok (.iconst 1, 1) := by decide +kernel
theorem dX6_count_56 : decode cX6_count 56 = .ok (.isub, 1) := by decide +kernel
theorem dX6_count_57 : decode cX6_count 57 = .ok (.invokevirtual 139, 3) := by decide +kernel
theorem dX6_count_60 : decode cX6_count 60 = .ok (.istore_n 2, 1) := by decide +kernel
theorem dX6_count_61 : decode cX6_count 61 = .ok (.iconst 0, 1) := by decide +kernel
theorem dX6_count_62 : decode cX6_count 62 = .ok (.istore_n 3, 1) := by decide +kernel
theorem dX6_count_63 : decode cX6_count 63 = .ok (.aload_n 0, 1) := by decide +kernel
theorem dX6_count_64 : decode cX6_count 64 = .ok (.iconst 2, 1) := by decide +kernel
theorem dX6_count_65 : decode cX6_count 65 = .ok (.invokevirtual 57, 3) := by decide +kernel
theorem dX6_count_68 : decode cX6_count 68 = .ok (.istore 4, 2) := by decide +kernel
theorem dX6_count_70 : decode cX6_count 70 = .ok (.iload 4, 2) := by decide +kernel
theorem dX6_count_72 : decode cX6_count 72 = .ok (.aload_n 0, 1) := by decide +kernel
theorem dX6_count_73 : decode cX6_count 73 = .ok (.iconst 3, 1) := by decide +kernel
theorem dX6_count_74 : decode cX6_count 74 = .ok (.invokevirtual 57, 3) := by decide +kernel
theorem dX6_count_77 : decode cX6_count 77 = .ok (.if_icmp .gt 26, 3) := by decide +kernel
theorem dX6_count_80 : decode cX6_count 80 = .ok (.iload_n 3, 1) := by decide +kernel
theorem dX6_count_81 : decode cX6_count 81 = .ok (.aload_n 0, 1) := by decide +kernel
theorem dX6_count_82 : decode cX6_count 82 = .ok (.iload 4, 2) := by decide +kernel
theorem dX6_count_84 : decode cX6_count 84 = .ok (.invokevirtual 76, 3) := by decide +kernel
theorem dX6_count_87 : decode cX6_count 87 = .ok (.ifCond .eq 7, 3) := by decide +kernel
theorem dX6_count_90 : decode cX6_count 90 = .ok (.iconst 1, 1) := by decide +kernel
theorem dX6_count_91 : decode cX6_count 91 = .ok (.goto 4, 3) := by decide +kernel
theorem dX6_count_94 : decode cX6_count 94 = .ok (.iconst 0, 1) := by decide +kernel
theorem dX6_count_95 : decode cX6_count 95 = .ok (.iadd, 1) := by decide +kernel
theorem dX6_count_96 : decode cX6_count 96 = .ok (.istore_n 3, 1) := by decide +kernel
theorem dX6_count_97 : decode cX6_count 97 = .ok (.iinc 4 1, 3) := by decide +kernel
theorem dX6_count_100 : decode cX6_count 100 = .ok (.goto (-30), 3) := by decide +kernel
theorem dX6_count_103 : decode cX6_count 103 = .ok (.iload_n 1, 1) := by decide +kernel
theorem dX6_count_104 : decode cX6_count 104 = .ok (.iconst 2, 1) := by decide +kernel
theorem dX6_count_105 : decode cX6_count 105 = .ok (.if_icmp .ne 11, 3) := by decide +kernel
theorem dX6_count_108 : decode cX6_count 108 = .ok (.aload_n 0, 1) := by decide +kernel
theorem dX6_count_109 : decode cX6_count 109 = .ok (.iconst 0, 1) := by decide +kernel
theorem dX6_count_110 : decode cX6_count 110 = .ok (.invokevirtual 57, 3) := by decide +kernel
theorem dX6_count_113 : decode cX6_count 113 = .ok (.goto 35, 3) := by decide +kernel
theorem dX6_count_116 : decode cX6_count 116 = .ok (.iload_n 1, 1) := by decide +kernel
theorem dX6_count_117 : decode cX6_count 117 = .ok (.iconst 3, 1) := by decide +kernel
theorem dX6_count_118 : decode cX6_count 118 = .ok (.if_icmp .ne 7, 3) := by decide +kernel
theorem dX6_count_121 : decode cX6_count 121 = .ok (.iload_n 3, 1) := by decide +kernel
theorem dX6_count_122 : decode cX6_count 122 = .ok (.goto 26, 3) := by decide +kernel
theorem dX6_count_125 : decode cX6_count 125 = .ok (.iload_n 1, 1) := by decide +kernel
theorem dX6_count_126 : decode cX6_count 126 = .ok (.iconst 4, 1) := by decide +kernel
theorem dX6_count_127 : decode cX6_count 127 = .ok (.if_icmp .ne 17, 3) := by decide +kernel
theorem dX6_count_130 : decode cX6_count 130 = .ok (.aload_n 0, 1) := by decide +kernel
theorem dX6_count_131 : decode cX6_count 131 = .ok (.getfield 17, 3) := by decide +kernel
theorem dX6_count_134 : decode cX6_count 134 = .ok (.aload_n 0, 1) := by decide +kernel
theorem dX6_count_135 : decode cX6_count 135 = .ok (.getfield 45, 3) := by decide +kernel
theorem dX6_count_138 : decode cX6_count 138 = .ok (.iconst 1, 1) := by decide +kernel
theorem dX6_count_139 : decode cX6_count 139 = .ok (.isub, 1) := by decide +kernel
theorem dX6_count_140 : decode cX6_count 140 = .ok (.iaload, 1) := by decide +kernel
theorem dX6_count_141 : decode cX6_count 141 = .ok (.goto 7, 3) := by decide +kernel
theorem dX6_count_144 : decode cX6_count 144 = .ok (.aload_n 0, 1) := by decide +kernel
theorem dX6_count_145 : decode cX6_count 145 = .ok (.invokevirtual 91, 3) := by decide +kernel
theorem dX6_count_148 : decode cX6_count 148 = .ok (.ireturn, 1) := by decide +kernel
theorem dJ9_max_7cf53_0 : decode cJ9_max_7cf53 0 = .ok (.iload_n 0, 1) := by decide +kernel
theorem dJ9_max_7cf53_1 : decode cJ9_max_7cf53 1 = .ok (.iload_n 1, 1) := by decide +kernel
theorem dJ9_max_7cf53_2 : decode cJ9_max_7cf53 2 = .ok (.if_icmp .lt 7, 3) := by decide +kernel
theorem dJ9_max_7cf53_5 : decode cJ9_max_7cf53 5 = .ok (.iload_n 0, 1) := by decide +kernel
theorem dJ9_max_7cf53_6 : decode cJ9_max_7cf53 6 = .ok (.goto 4, 3) := by decide +kernel
theorem dJ9_max_7cf53_9 : decode cJ9_max_7cf53 9 = .ok (.iload_n 1, 1) := by decide +kernel
theorem dJ9_max_7cf53_10 : decode cJ9_max_7cf53 10 = .ok (.ireturn, 1) := by decide +kernel
theorem dJ9_min_7cf53_0 : decode cJ9_min_7cf53 0 = .ok (.iload_n 0, 1) := by decide +kernel
theorem dJ9_min_7cf53_1 : decode cJ9_min_7cf53 1 = .ok (.iload_n 1, 1) := by decide +kernel
theorem dJ9_min_7cf53_2 : decode cJ9_min_7cf53 2 = .ok (.if_icmp .gt 7, 3) := by decide +kernel
theorem dJ9_min_7cf53_5 : decode cJ9_min_7cf53 5 = .ok (.iload_n 0, 1) := by decide +kernel
theorem dJ9_min_7cf53_6 : decode cJ9_min_7cf53 6 = .ok (.goto 4, 3) := by decide +kernel
theorem dJ9_min_7cf53_9 : decode cJ9_min_7cf53 9 = .ok (.iload_n 1, 1) := by decide +kernel
theorem dJ9_min_7cf53_10 : decode cJ9_min_7cf53 10 = .ok (.ireturn, 1) := by decide +kernel
theorem dJ7_copyOf_9075b_0 : decode cJ7_copyOf_9075b 0 = .ok (.iload_n 1, 1) := by decide +kernel
theorem dJ7_copyOf_9075b_1 : decode cJ7_copyOf_9075b 1 = .ok (.aload_n 0, 1) := by decide +kernel
theorem dJ7_copyOf_9075b_2 : decode cJ7_copyOf_9075b 2 = .ok (.arraylength, 1) := by decide +kernel
theorem dJ7_copyOf_9075b_3 : decode cJ7_copyOf_9075b 3 = .ok (.if_icmp .ne 11, 3) := by decide +kernel
theorem dJ7_copyOf_9075b_6 : decode cJ7_copyOf_9075b 6 = .ok (.aload_n 0, 1) := by decide +kernel
theorem dJ7_copyOf_9075b_7 : decode cJ7_copyOf_9075b 7 = .ok (.invokevirtual 310, 3) := by decide +kernel
theorem dJ7_copyOf_9075b_10 : decode cJ7_copyOf_9075b 10 = .ok (.checkcast 311, 3) := by decide +kernel
theorem dJ7_copyOf_9075b_13 : decode cJ7_copyOf_9075b 13 = .ok (.areturn, 1) := by decide +kernel
theorem dJ7_copyOf_9075b_14 : decode cJ7_copyOf_9075b 14 = .ok (.iload_n 1, 1) := by decide +kernel
theorem dJ7_copyOf_9075b_15 : decode cJ7_copyOf_9075b 15 = .ok (.newarray .byte, 2) := by decide +kernel
theorem dJ7_copyOf_9075b_17 : decode cJ7_copyOf_9075b 17 = .ok (.astore_n 2, 1) := by decide +kernel
theorem dJ7_copyOf_9075b_18 : decode cJ7_copyOf_9075b 18 = .ok (.aload_n 0, 1) := by decide +kernel
theorem dJ7_copyOf_9075b_19 : decode cJ7_copyOf_9075b 19 = .ok (.iconst 0, 1) := by decide +kernel
theorem dJ7_copyOf_9075b_20 : decode cJ7_copyOf_9075b 20 = .ok (.aload_n 2, 1) := by decide +kernel
theorem dJ7_copyOf_9075b_21 : decode cJ7_copyOf_9075b 21 = .ok (.iconst 0, 1) := by decide +kernel
theorem dJ7_copyOf_9075b_22 : decode cJ7_copyOf_9075b 22 = .ok (.aload_n 0, 1) := by decide +kernel
theorem dJ7_copyOf_9075b_23 : decode cJ7_copyOf_9075b 23 = .ok (.arraylength, 1) := by decide +kernel
theorem dJ7_copyOf_9075b_24 : decode cJ7_copyOf_9075b 24 = .ok (.iload_n 1, 1) := by decide +kernel
theorem dJ7_copyOf_9075b_25 : decode cJ7_copyOf_9075b 25 = .ok (.invokestatic 304, 3) := by decide +kernel
theorem dJ7_copyOf_9075b_28 : decode cJ7_copyOf_9075b 28 = .ok (.invokestatic 150, 3) := by decide +kernel
theorem dJ7_copyOf_9075b_31 : decode cJ7_copyOf_9075b 31 = .ok (.aload_n 2, 1) := by decide +kernel
theorem dJ7_copyOf_9075b_32 : decode cJ7_copyOf_9075b 32 = .ok (.areturn, 1) := by decide +kernel
theorem dL_load_0 : decode cL_load 0 = .ok (.aload_n 2, 1) := by decide +kernel
theorem dL_load_1 : decode cL_load 1 = .ok (.iconst 0, 1) := by decide +kernel
theorem dL_load_2 : decode cL_load 2 = .ok (.aload_n 0, 1) := by decide +kernel
theorem dL_load_3 : decode cL_load 3 = .ok (.iload_n 1, 1) := by decide +kernel
theorem dL_load_4 : decode cL_load 4 = .ok (.invokevirtual 7, 3) := by decide +kernel
theorem dL_load_7 : decode cL_load 7 = .ok (.i2l, 1) := by decide +kernel
theorem dL_load_8 : decode cL_load 8 = .ok (.lastore, 1) := by decide +kernel
theorem dL_load_9 : decode cL_load 9 = .ok (.goto 9, 3) := by decide +kernel
theorem dL_load_12 : decode cL_load 12 = .ok (.astore_n 3, 1) := by decide +kernel
theorem dL_load_13 : decode cL_load 13 = .ok (.iconst 1, 1) := by decide +kernel
theorem dL_load_14 : decode cL_load 14 = .ok (.ireturn, 1) := by decide +kernel
theorem dL_load_15 : decode cL_load 15 = .ok (.astore_n 3, 1) := by decide +kernel
theorem dL_load_16 : decode cL_load 16 = .ok (.iconst 2, 1) := by decide +kernel
theorem dL_load_17 : decode cL_load 17 = .ok (.ireturn, 1) := by decide +kernel
theorem dL_load_18 : decode cL_load 18 = .ok (.iconst 0, 1) := by decide +kernel
theorem dL_load_19 : decode cL_load 19 = .ok (.ireturn, 1) := by decide +kernel
theorem dL_metric_0 : decode cL_metric 0 = .ok (.aload 4, 2) := by decide +kernel
theorem dL_metric_2 : decode cL_metric 2 = .ok (.iconst 0, 1) := by decide +kernel
theorem dL_metric_3 : decode cL_metric 3 = .ok (.aload_n 0, 1) := by decide +kernel
theorem dL_metric_4 : decode cL_metric 4 = .ok (.iload_n 1, 1) := by decide +kernel
theorem dL_metric_5 : decode cL_metric 5 = .ok (.iload_n 2, 1) := by decide +kernel
theorem dL_metric_6 : decode cL_metric 6 = .ok (.iload_n 3, 1) := by decide +kernel
theorem dL_metric_7 : decode cL_metric 7 = .ok (.invokevirtual 17, 3) := by decide +kernel
theorem dL_metric_10 : decode cL_metric 10 = .ok (.i2l, 1) := by decide +kernel
theorem dL_metric_11 : decode cL_metric 11 = .ok (.lastore, 1) := by decide +kernel
theorem dL_metric_12 : decode cL_metric 12 = .ok (.goto 7, 3) := by decide +kernel
theorem dL_metric_15 : decode cL_metric 15 = .ok (.astore 5, 2) := by decide +kernel
theorem dL_metric_17 : decode cL_metric 17 = .ok (.iconst 1, 1) := by decide +kernel
theorem dL_metric_18 : decode cL_metric 18 = .ok (.ireturn, 1) := by decide +kernel
theorem dL_metric_19 : decode cL_metric 19 = .ok (.iconst 0, 1) := by decide +kernel
theorem dL_metric_20 : decode cL_metric 20 = .ok (.ireturn, 1) := by decide +kernel
theorem dL_parameter_0 : decode cL_parameter 0 = .ok (.aload_n 3, 1) := by decide +kernel
theorem dL_parameter_1 : decode cL_parameter 1 = .ok (.iconst 0, 1) := by decide +kernel
theorem dL_parameter_2 : decode cL_parameter 2 = .ok (.aload_n 0, 1) := by decide +kernel
theorem dL_parameter_3 : decode cL_parameter 3 = .ok (.iload_n 1, 1) := by decide +kernel
theorem dL_parameter_4 : decode cL_parameter 4 = .ok (.iload_n 2, 1) := by decide +kernel
theorem dL_parameter_5 : decode cL_parameter 5 = .ok (.invokevirtual 23, 3) := by decide +kernel
theorem dL_parameter_8 : decode cL_parameter 8 = .ok (.i2l, 1) := by decide +kernel
theorem dL_parameter_9 : decode cL_parameter 9 = .ok (.lastore, 1) := by decide +kernel
theorem dL_parameter_10 : decode cL_parameter 10 = .ok (.goto 7, 3) := by decide +kernel
theorem dL_parameter_13 : decode cL_parameter 13 = .ok (.astore 4, 2) := by decide +kernel
theorem dL_parameter_15 : decode cL_parameter 15 = .ok (.iconst 1, 1) := by decide +kernel
theorem dL_parameter_16 : decode cL_parameter 16 = .ok (.ireturn, 1) := by decide +kernel
theorem dL_parameter_17 : decode cL_parameter 17 = .ok (.iconst 0, 1) := by decide +kernel
theorem dL_parameter_18 : decode cL_parameter 18 = .ok (.ireturn, 1) := by decide +kernel
theorem dL_set_0 : decode cL_set 0 = .ok (.aload_n 2, 1) := by decide +kernel
theorem dL_set_1 : decode cL_set 1 = .ok (.iconst 0, 1) := by decide +kernel
theorem dL_set_2 : decode cL_set 2 = .ok (.aload_n 0, 1) := by decide +kernel
theorem dL_set_3 : decode cL_set 3 = .ok (.iload_n 1, 1) := by decide +kernel
theorem dL_set_4 : decode cL_set 4 = .ok (.invokevirtual 27, 3) := by decide +kernel
theorem dL_set_7 : decode cL_set 7 = .ok (.i2l, 1) := by decide +kernel
theorem dL_set_8 : decode cL_set 8 = .ok (.lastore, 1) := by decide +kernel
theorem dL_set_9 : decode cL_set 9 = .ok (.goto 12, 3) := by decide +kernel
theorem dL_set_12 : decode cL_set 12 = .ok (.astore_n 3, 1) := by decide +kernel
theorem dL_set_13 : decode cL_set 13 = .ok (.iconst 1, 1) := by decide +kernel
theorem dL_set_14 : decode cL_set 14 = .ok (.ireturn, 1) := by decide +kernel
theorem dL_set_15 : decode cL_set 15 = .ok (.astore_n 3, 1) := by decide +kernel
theorem dL_set_16 : decode cL_set 16 = .ok (.iconst 2, 1) := by decide +kernel
theorem dL_set_17 : decode cL_set 17 = .ok (.ireturn, 1) := by decide +kernel
theorem dL_set_18 : decode cL_set 18 = .ok (.astore_n 3, 1) := by decide +kernel
theorem dL_set_19 : decode cL_set 19 = .ok (.iconst 3, 1) := by decide +kernel
theorem dL_set_20 : decode cL_set 20 = .ok (.ireturn, 1) := by decide +kernel
theorem dL_set_21 : decode cL_set 21 = .ok (.iconst 0, 1) := by decide +kernel
theorem dL_set_22 : decode cL_set 22 = .ok (.ireturn, 1) := by decide +kernel
theorem dL_law_0 : decode cL_law 0 = .ok (.new 8, 3) := by decide +kernel
theorem dL_law_3 : decode cL_law 3 = .ok (.dup, 1) := by decide +kernel
theorem dL_law_4 : decode cL_law 4 = .ok (.invokespecial 30, 3) := by decide +kernel
theorem dL_law_7 : decode cL_law 7 = .ok (.astore_n 1, 1) := by decide +kernel
theorem dL_law_8 : decode cL_law 8 = .ok (.new 31, 3) := by decide +kernel
theorem dL_law_11 : decode cL_law 11 = .ok (.dup, 1) := by decide +kernel
theorem dL_law_12 : decode cL_law 12 = .ok (.invokespecial 33, 3) := by decide +kernel
theorem dL_law_15 : decode cL_law 15 = .ok (.astore_n 2, 1) := by decide +kernel
theorem dL_law_16 : decode cL_law 16 = .ok (.iconst 1, 1) := by decide +kernel
theorem dL_law_17 : decode cL_law 17 = .ok (.newarray .long, 2) := by decide +kernel
theorem dL_law_19 : decode cL_law 19 = .ok (.astore_n 3, 1) := by decide +kernel
theorem dL_law_20 : decode cL_law 20 = .ok (.iconst 0, 1) := by decide +kernel
theorem dL_law_21 : decode cL_law 21 = .ok (.istore 4, 2) := by decide +kernel
theorem dL_law_23 : decode cL_law 23 = .ok (.iload 4, 2) := by decide +kernel
theorem dL_law_25 : decode cL_law 25 = .ok (.aload_n 0, 1) := by decide +kernel
theorem dL_law_26 : decode cL_law 26 = .ok (.arraylength, 1) := by decide +kernel
theorem dL_law_27 : decode cL_law 27 = .ok (.iconst 4, 1) := by decide +kernel
theorem dL_law_28 : decode cL_law 28 = .ok (.isub, 1) := by decide +kernel
theorem dL_law_29 : decode cL_law 29 = .ok (.if_icmp .gt 483, 3) := by decide +kernel
theorem dL_law_32 : decode cL_law 32 = .ok (.aload_n 0, 1) := by decide +kernel
theorem dL_law_33 : decode cL_law 33 = .ok (.iload 4, 2) := by decide +kernel
theorem dL_law_35 : decode cL_law 35 = .ok (.iaload, 1) := by decide +kernel
theorem dL_law_36 : decode cL_law 36 = .ok (.bipush 15, 2) := by decide +kernel
theorem dL_law_38 : decode cL_law 38 = .ok (.iand, 1) := by decide +kernel
theorem dL_law_39 : decode cL_law 39 = .ok (.tableswitch 467 0 8 #[49, 118, 174, 187, 267, 335, 391, 428, 442], 49) := by decide +kernel
theorem dL_law_88 : decode cL_law 88 = .ok (.aload_n 1, 1) := by decide +kernel
theorem dL_law_89 : decode cL_law 89 = .ok (.aload_n 0, 1) := by decide +kernel
theorem dL_law_90 : decode cL_law 90 = .ok (.iload 4, 2) := by decide +kernel
theorem dL_law_92 : decode cL_law 92 = .ok (.iconst 1, 1) := by decide +kernel
theorem dL_law_93 : decode cL_law 93 = .ok (.iadd, 1) := by decide +kernel
theorem dL_law_94 : decode cL_law 94 = .ok (.iaload, 1) := by decide +kernel
theorem dL_law_95 : decode cL_law 95 = .ok (.i2l, 1) := by decide +kernel
theorem dL_law_96 : decode cL_law 96 = .ok (.bipush 32, 2) := by decide +kernel
theorem dL_law_98 : decode cL_law 98 = .ok (.lshl, 1) := by decide +kernel
theorem dL_law_99 : decode cL_law 99 = .ok (.aload_n 0, 1) := by decide +kernel
theorem dL_law_100 : decode cL_law 100 = .ok (.iload 4, 2) := by decide +kernel
theorem dL_law_102 : decode cL_law 102 = .ok (.iconst 2, 1) := by decide +kernel
theorem dL_law_103 : decode cL_law 103 = .ok (.iadd, 1) := by decide +kernel
theorem dL_law_104 : decode cL_law 104 = .ok (.iaload, 1) := by decide +kernel
theorem dL_law_105 : decode cL_law 105 = .ok (.i2l, 1) := by decide +kernel
theorem dL_law_106 : decode cL_law 106 = .ok (.ldc2_w 34, 3) := by decide +kernel
theorem dL_law_109 : decode cL_law 109 = .ok (.land, 1) := by decide +kernel
theorem dL_law_110 : decode cL_law 110 = .ok (.lor, 1) := by decide +kernel
theorem dL_law_111 : decode cL_law 111 = .ok (.aload_n 0, 1) := by decide +kernel
theorem dL_law_112 : decode cL_law 112 = .ok (.iload 4, 2) := by decide +kernel
theorem dL_law_114 : decode cL_law 114 = .ok (.iconst 3, 1) := by decide +kernel
theorem dL_law_115 : decode cL_law 115 = .ok (.iadd, 1) := by decide +kernel
theorem dL_law_116 : decode cL_law 116 = .ok (.iaload, 1) := by decide +kernel
theorem dL_law_117 : decode cL_law 117 = .ok (.invokevirtual 36, 3) := by decide +kernel
theorem dL_law_120 : decode cL_law 120 = .ok (.aload_n 2, 1) := by decide +kernel
theorem dL_law_121 : decode cL_law 121 = .ok (.aload_n 0, 1) := by decide +kernel
theorem dL_law_122 : decode cL_law 122 = .ok (.iload 4, 2) := by decide +kernel
theorem dL_law_124 : decode cL_law 124 = .ok (.iconst 1, 1) := by decide +kernel
theorem dL_law_125 : decode cL_law 125 = .ok (.iadd, 1) := by decide +kernel
theorem dL_law_126 : decode cL_law 126 = .ok (.iaload, 1) := by decide +kernel
theorem dL_law_127 : decode cL_law 127 = .ok (.i2l, 1) := by decide +kernel
theorem dL_law_128 : decode cL_law 128 = .ok (.bipush 32, 2) := by decide +kernel
theorem dL_law_130 : decode cL_law 130 = .ok (.lshl, 1) := by decide +kernel
theorem dL_law_131 : decode cL_law 131 = .ok (.aload_n 0, 1) := by decide +kernel
theorem dL_law_132 : decode cL_law 132 = .ok (.iload 4, 2) := by decide +kernel
theorem dL_law_134 : decode cL_law 134 = .ok (.iconst 2, 1) := by decide +kernel
theorem dL_law_135 : decode cL_law 135 = .ok (.iadd, 1) := by decide +kernel
theorem dL_law_136 : decode cL_law 136 = .ok (.iaload, 1) := by decide +kernel
theorem dL_law_137 : decode cL_law 137 = .ok (.i2l, 1) := by decide +kernel
theorem dL_law_138 : decode cL_law 138 = .ok (.ldc2_w 34, 3) := by decide +kernel
theorem dL_law_141 : decode cL_law 141 = .ok (.land, 1) := by decide +kernel
theorem dL_law_142 : decode cL_law 142 = .ok (.lor, 1) := by decide +kernel
theorem dL_law_143 : decode cL_law 143 = .ok (.aload_n 0, 1) := by decide +kernel
theorem dL_law_144 : decode cL_law 144 = .ok (.iload 4, 2) := by decide +kernel
theorem dL_law_146 : decode cL_law 146 = .ok (.iconst 3, 1) := by decide +kernel
theorem dL_law_147 : decode cL_law 147 = .ok (.iadd, 1) := by decide +kernel
theorem dL_law_148 : decode cL_law 148 = .ok (.iaload, 1) := by decide +kernel
theorem dL_law_149 : decode cL_law 149 = .ok (.invokevirtual 40, 3) := by decide +kernel
theorem dL_law_152 : decode cL_law 152 = .ok (.if_icmp .eq 354, 3) := by decide +kernel
theorem dL_law_155 : decode cL_law 155 = .ok (.iconst 0, 1) := by decide +kernel
theorem dL_law_156 : decode cL_law 156 = .ok (.ireturn, 1) := by decide +kernel
theorem dL_law_157 : decode cL_law 157 = .ok (.aload_n 1, 1) := by decide +kernel
theorem dL_law_158 : decode cL_law 158 = .ok (.aload_n 0, 1) := by decide +kernel
theorem dL_law_159 : decode cL_law 159 = .ok (.iload 4, 2) := by decide +kernel
theorem dL_law_161 : decode cL_law 161 = .ok (.iconst 1, 1) := by decide +kernel
end
section
theorem dL_law_162 : decode cL_law 162 = .ok (.iadd, 1) := by decide +kernel
theorem dL_law_163 : decode cL_law 163 = .ok (.iaload, 1) := by decide +kernel
theorem dL_law_164 : decode cL_law 164 = .ok (.aload_n 3, 1) := by decide +kernel
theorem dL_law_165 : decode cL_law 165 = .ok (.invokestatic 41, 3) := by decide +kernel
theorem dL_law_168 : decode cL_law 168 = .ok (.istore 5, 2) := by decide +kernel
theorem dL_law_170 : decode cL_law 170 = .ok (.aload_n 2, 1) := by decide +kernel
theorem dL_law_171 : decode cL_law 171 = .ok (.aload_n 0, 1) := by decide +kernel
theorem dL_law_172 : decode cL_law 172 = .ok (.iload 4, 2) := by decide +kernel
theorem dL_law_174 : decode cL_law 174 = .ok (.iconst 1, 1) := by decide +kernel
theorem dL_law_175 : decode cL_law 175 = .ok (.iadd, 1) := by decide +kernel
theorem dL_law_176 : decode cL_law 176 = .ok (.iaload, 1) := by decide +kernel
theorem dL_law_177 : decode cL_law 177 = .ok (.invokevirtual 46, 3) := by decide +kernel
theorem dL_law_180 : decode cL_law 180 = .ok (.istore 6, 2) := by decide +kernel
theorem dL_law_182 : decode cL_law 182 = .ok (.aload_n 2, 1) := by decide +kernel
theorem dL_law_183 : decode cL_law 183 = .ok (.invokevirtual 47, 3) := by decide +kernel
theorem dL_law_186 : decode cL_law 186 = .ok (.iload 5, 2) := by decide +kernel
theorem dL_law_188 : decode cL_law 188 = .ok (.if_icmp .eq 5, 3) := by decide +kernel
theorem dL_law_191 : decode cL_law 191 = .ok (.iconst 0, 1) := by decide +kernel
theorem dL_law_192 : decode cL_law 192 = .ok (.ireturn, 1) := by decide +kernel
theorem dL_law_193 : decode cL_law 193 = .ok (.iload 5, 2) := by decide +kernel
theorem dL_law_195 : decode cL_law 195 = .ok (.ifCond .ne 15, 3) := by decide +kernel
theorem dL_law_198 : decode cL_law 198 = .ok (.aload_n 3, 1) := by decide +kernel
theorem dL_law_199 : decode cL_law 199 = .ok (.iconst 0, 1) := by decide +kernel
theorem dL_law_200 : decode cL_law 200 = .ok (.laload, 1) := by decide +kernel
theorem dL_law_201 : decode cL_law 201 = .ok (.iload 6, 2) := by decide +kernel
theorem dL_law_203 : decode cL_law 203 = .ok (.i2l, 1) := by decide +kernel
theorem dL_law_204 : decode cL_law 204 = .ok (.lcmp, 1) := by decide +kernel
theorem dL_law_205 : decode cL_law 205 = .ok (.ifCond .eq 5, 3) := by decide +kernel
theorem dL_law_208 : decode cL_law 208 = .ok (.iconst 0, 1) := by decide +kernel
theorem dL_law_209 : decode cL_law 209 = .ok (.ireturn, 1) := by decide +kernel
theorem dL_law_210 : decode cL_law 210 = .ok (.goto 296, 3) := by decide +kernel
theorem dL_law_213 : decode cL_law 213 = .ok (.aload_n 1, 1) := by decide +kernel
theorem dL_law_214 : decode cL_law 214 = .ok (.invokevirtual 51, 3) := by decide +kernel
theorem dL_law_217 : decode cL_law 217 = .ok (.aload_n 2, 1) := by decide +kernel
theorem dL_law_218 : decode cL_law 218 = .ok (.invokevirtual 54, 3) := by decide +kernel
theorem dL_law_221 : decode cL_law 221 = .ok (.if_icmp .eq 285, 3) := by decide +kernel
theorem dL_law_224 : decode cL_law 224 = .ok (.iconst 0, 1) := by decide +kernel
theorem dL_law_225 : decode cL_law 225 = .ok (.ireturn, 1) := by decide +kernel
theorem dL_law_226 : decode cL_law 226 = .ok (.aload_n 1, 1) := by decide +kernel
theorem dL_law_227 : decode cL_law 227 = .ok (.aload_n 0, 1) := by decide +kernel
theorem dL_law_228 : decode cL_law 228 = .ok (.iload 4, 2) := by decide +kernel
theorem dL_law_230 : decode cL_law 230 = .ok (.iconst 1, 1) := by decide +kernel
theorem dL_law_231 : decode cL_law 231 = .ok (.iadd, 1) := by decide +kernel
theorem dL_law_232 : decode cL_law 232 = .ok (.iaload, 1) := by decide +kernel
theorem dL_law_233 : decode cL_law 233 = .ok (.aload_n 0, 1) := by decide +kernel
theorem dL_law_234 : decode cL_law 234 = .ok (.iload 4, 2) := by decide +kernel
theorem dL_law_236 : decode cL_law 236 = .ok (.iconst 2, 1) := by decide +kernel
theorem dL_law_237 : decode cL_law 237 = .ok (.iadd, 1) := by decide +kernel
theorem dL_law_238 : decode cL_law 238 = .ok (.iaload, 1) := by decide +kernel
theorem dL_law_239 : decode cL_law 239 = .ok (.aload_n 0, 1) := by decide +kernel
theorem dL_law_240 : decode cL_law 240 = .ok (.iload 4, 2) := by decide +kernel
theorem dL_law_242 : decode cL_law 242 = .ok (.iconst 3, 1) := by decide +kernel
theorem dL_law_243 : decode cL_law 243 = .ok (.iadd, 1) := by decide +kernel
theorem dL_law_244 : decode cL_law 244 = .ok (.iaload, 1) := by decide +kernel
theorem dL_law_245 : decode cL_law 245 = .ok (.aload_n 3, 1) := by decide +kernel
theorem dL_law_246 : decode cL_law 246 = .ok (.invokestatic 55, 3) := by decide +kernel
theorem dL_law_249 : decode cL_law 249 = .ok (.istore 5, 2) := by decide +kernel
theorem dL_law_251 : decode cL_law 251 = .ok (.aload_n 2, 1) := by decide +kernel
theorem dL_law_252 : decode cL_law 252 = .ok (.aload_n 0, 1) := by decide +kernel
theorem dL_law_253 : decode cL_law 253 = .ok (.iload 4, 2) := by decide +kernel
theorem dL_law_255 : decode cL_law 255 = .ok (.iconst 1, 1) := by decide +kernel
theorem dL_law_256 : decode cL_law 256 = .ok (.iadd, 1) := by decide +kernel
theorem dL_law_257 : decode cL_law 257 = .ok (.iaload, 1) := by decide +kernel
theorem dL_law_258 : decode cL_law 258 = .ok (.aload_n 0, 1) := by decide +kernel
theorem dL_law_259 : decode cL_law 259 = .ok (.iload 4, 2) := by decide +kernel
theorem dL_law_261 : decode cL_law 261 = .ok (.iconst 2, 1) := by decide +kernel
theorem dL_law_262 : decode cL_law 262 = .ok (.iadd, 1) := by decide +kernel
theorem dL_law_263 : decode cL_law 263 = .ok (.iaload, 1) := by decide +kernel
theorem dL_law_264 : decode cL_law 264 = .ok (.aload_n 0, 1) := by decide +kernel
theorem dL_law_265 : decode cL_law 265 = .ok (.iload 4, 2) := by decide +kernel
theorem dL_law_267 : decode cL_law 267 = .ok (.iconst 3, 1) := by decide +kernel
theorem dL_law_268 : decode cL_law 268 = .ok (.iadd, 1) := by decide +kernel
theorem dL_law_269 : decode cL_law 269 = .ok (.iaload, 1) := by decide +kernel
theorem dL_law_270 : decode cL_law 270 = .ok (.invokevirtual 58, 3) := by decide +kernel
theorem dL_law_273 : decode cL_law 273 = .ok (.istore 6, 2) := by decide +kernel
theorem dL_law_275 : decode cL_law 275 = .ok (.aload_n 2, 1) := by decide +kernel
theorem dL_law_276 : decode cL_law 276 = .ok (.invokevirtual 47, 3) := by decide +kernel
theorem dL_law_279 : decode cL_law 279 = .ok (.iload 5, 2) := by decide +kernel
theorem dL_law_281 : decode cL_law 281 = .ok (.if_icmp .eq 5, 3) := by decide +kernel
theorem dL_law_284 : decode cL_law 284 = .ok (.iconst 0, 1) := by decide +kernel
theorem dL_law_285 : decode cL_law 285 = .ok (.ireturn, 1) := by decide +kernel
theorem dL_law_286 : decode cL_law 286 = .ok (.iload 5, 2) := by decide +kernel
theorem dL_law_288 : decode cL_law 288 = .ok (.ifCond .ne 15, 3) := by decide +kernel
theorem dL_law_291 : decode cL_law 291 = .ok (.aload_n 3, 1) := by decide +kernel
theorem dL_law_292 : decode cL_law 292 = .ok (.iconst 0, 1) := by decide +kernel
theorem dL_law_293 : decode cL_law 293 = .ok (.laload, 1) := by decide +kernel
theorem dL_law_294 : decode cL_law 294 = .ok (.iload 6, 2) := by decide +kernel
theorem dL_law_296 : decode cL_law 296 = .ok (.i2l, 1) := by decide +kernel
theorem dL_law_297 : decode cL_law 297 = .ok (.lcmp, 1) := by decide +kernel
theorem dL_law_298 : decode cL_law 298 = .ok (.ifCond .eq 5, 3) := by decide +kernel
theorem dL_law_301 : decode cL_law 301 = .ok (.iconst 0, 1) := by decide +kernel
theorem dL_law_302 : decode cL_law 302 = .ok (.ireturn, 1) := by decide +kernel
theorem dL_law_303 : decode cL_law 303 = .ok (.goto 203, 3) := by decide +kernel
theorem dL_law_306 : decode cL_law 306 = .ok (.aload_n 1, 1) := by decide +kernel
theorem dL_law_307 : decode cL_law 307 = .ok (.aload_n 0, 1) := by decide +kernel
theorem dL_law_308 : decode cL_law 308 = .ok (.iload 4, 2) := by decide +kernel
theorem dL_law_310 : decode cL_law 310 = .ok (.iconst 1, 1) := by decide +kernel
theorem dL_law_311 : decode cL_law 311 = .ok (.iadd, 1) := by decide +kernel
theorem dL_law_312 : decode cL_law 312 = .ok (.iaload, 1) := by decide +kernel
theorem dL_law_313 : decode cL_law 313 = .ok (.aload_n 0, 1) := by decide +kernel
theorem dL_law_314 : decode cL_law 314 = .ok (.iload 4, 2) := by decide +kernel
theorem dL_law_316 : decode cL_law 316 = .ok (.iconst 2, 1) := by decide +kernel
theorem dL_law_317 : decode cL_law 317 = .ok (.iadd, 1) := by decide +kernel
theorem dL_law_318 : decode cL_law 318 = .ok (.iaload, 1) := by decide +kernel
theorem dL_law_319 : decode cL_law 319 = .ok (.aload_n 3, 1) := by decide +kernel
theorem dL_law_320 : decode cL_law 320 = .ok (.invokestatic 59, 3) := by decide +kernel
theorem dL_law_323 : decode cL_law 323 = .ok (.istore 5, 2) := by decide +kernel
theorem dL_law_325 : decode cL_law 325 = .ok (.aload_n 2, 1) := by decide +kernel
theorem dL_law_326 : decode cL_law 326 = .ok (.aload_n 0, 1) := by decide +kernel
theorem dL_law_327 : decode cL_law 327 = .ok (.iload 4, 2) := by decide +kernel
theorem dL_law_329 : decode cL_law 329 = .ok (.iconst 1, 1) := by decide +kernel
theorem dL_law_330 : decode cL_law 330 = .ok (.iadd, 1) := by decide +kernel
theorem dL_law_331 : decode cL_law 331 = .ok (.iaload, 1) := by decide +kernel
theorem dL_law_332 : decode cL_law 332 = .ok (.aload_n 0, 1) := by decide +kernel
theorem dL_law_333 : decode cL_law 333 = .ok (.iload 4, 2) := by decide +kernel
theorem dL_law_335 : decode cL_law 335 = .ok (.iconst 2, 1) := by decide +kernel
theorem dL_law_336 : decode cL_law 336 = .ok (.iadd, 1) := by decide +kernel
theorem dL_law_337 : decode cL_law 337 = .ok (.iaload, 1) := by decide +kernel
theorem dL_law_338 : decode cL_law 338 = .ok (.invokevirtual 62, 3) := by decide +kernel
theorem dL_law_341 : decode cL_law 341 = .ok (.istore 6, 2) := by decide +kernel
theorem dL_law_343 : decode cL_law 343 = .ok (.aload_n 2, 1) := by decide +kernel
theorem dL_law_344 : decode cL_law 344 = .ok (.invokevirtual 47, 3) := by decide +kernel
theorem dL_law_347 : decode cL_law 347 = .ok (.iload 5, 2) := by decide +kernel
theorem dL_law_349 : decode cL_law 349 = .ok (.if_icmp .eq 5, 3) := by decide +kernel
theorem dL_law_352 : decode cL_law 352 = .ok (.iconst 0, 1) := by decide +kernel
theorem dL_law_353 : decode cL_law 353 = .ok (.ireturn, 1) := by decide +kernel
theorem dL_law_354 : decode cL_law 354 = .ok (.iload 5, 2) := by decide +kernel
theorem dL_law_356 : decode cL_law 356 = .ok (.ifCond .ne 15, 3) := by decide +kernel
theorem dL_law_359 : decode cL_law 359 = .ok (.aload_n 3, 1) := by decide +kernel
theorem dL_law_360 : decode cL_law 360 = .ok (.iconst 0, 1) := by decide +kernel
theorem dL_law_361 : decode cL_law 361 = .ok (.laload, 1) := by decide +kernel
theorem dL_law_362 : decode cL_law 362 = .ok (.iload 6, 2) := by decide +kernel
theorem dL_law_364 : decode cL_law 364 = .ok (.i2l, 1) := by decide +kernel
theorem dL_law_365 : decode cL_law 365 = .ok (.lcmp, 1) := by decide +kernel
theorem dL_law_366 : decode cL_law 366 = .ok (.ifCond .eq 5, 3) := by decide +kernel
theorem dL_law_369 : decode cL_law 369 = .ok (.iconst 0, 1) := by decide +kernel
theorem dL_law_370 : decode cL_law 370 = .ok (.ireturn, 1) := by decide +kernel
theorem dL_law_371 : decode cL_law 371 = .ok (.goto 135, 3) := by decide +kernel
theorem dL_law_374 : decode cL_law 374 = .ok (.aload_n 1, 1) := by decide +kernel
theorem dL_law_375 : decode cL_law 375 = .ok (.aload_n 0, 1) := by decide +kernel
theorem dL_law_376 : decode cL_law 376 = .ok (.iload 4, 2) := by decide +kernel
theorem dL_law_378 : decode cL_law 378 = .ok (.iconst 1, 1) := by decide +kernel
theorem dL_law_379 : decode cL_law 379 = .ok (.iadd, 1) := by decide +kernel
theorem dL_law_380 : decode cL_law 380 = .ok (.iaload, 1) := by decide +kernel
theorem dL_law_381 : decode cL_law 381 = .ok (.aload_n 3, 1) := by decide +kernel
theorem dL_law_382 : decode cL_law 382 = .ok (.invokestatic 63, 3) := by decide +kernel
theorem dL_law_385 : decode cL_law 385 = .ok (.istore 5, 2) := by decide +kernel
theorem dL_law_387 : decode cL_law 387 = .ok (.aload_n 2, 1) := by decide +kernel
theorem dL_law_388 : decode cL_law 388 = .ok (.aload_n 0, 1) := by decide +kernel
theorem dL_law_389 : decode cL_law 389 = .ok (.iload 4, 2) := by decide +kernel
theorem dL_law_391 : decode cL_law 391 = .ok (.iconst 1, 1) := by decide +kernel
theorem dL_law_392 : decode cL_law 392 = .ok (.iadd, 1) := by decide +kernel
theorem dL_law_393 : decode cL_law 393 = .ok (.iaload, 1) := by decide +kernel
theorem dL_law_394 : decode cL_law 394 = .ok (.invokevirtual 65, 3) := by decide +kernel
theorem dL_law_397 : decode cL_law 397 = .ok (.istore 6, 2) := by decide +kernel
theorem dL_law_399 : decode cL_law 399 = .ok (.aload_n 2, 1) := by decide +kernel
theorem dL_law_400 : decode cL_law 400 = .ok (.invokevirtual 47, 3) := by decide +kernel
theorem dL_law_403 : decode cL_law 403 = .ok (.iload 5, 2) := by decide +kernel
theorem dL_law_405 : decode cL_law 405 = .ok (.if_icmp .eq 5, 3) := by decide +kernel
theorem dL_law_408 : decode cL_law 408 = .ok (.iconst 0, 1) := by decide +kernel
theorem dL_law_409 : decode cL_law 409 = .ok (.ireturn, 1) := by decide +kernel
theorem dL_law_410 : decode cL_law 410 = .ok (.iload 5, 2) := by decide +kernel
theorem dL_law_412 : decode cL_law 412 = .ok (.ifCond .ne 15, 3) := by decide +kernel
theorem dL_law_415 : decode cL_law 415 = .ok (.aload_n 3, 1) := by decide +kernel
theorem dL_law_416 : decode cL_law 416 = .ok (.iconst 0, 1) := by decide +kernel
theorem dL_law_417 : decode cL_law 417 = .ok (.laload, 1) := by decide +kernel
theorem dL_law_418 : decode cL_law 418 = .ok (.iload 6, 2) := by decide +kernel
theorem dL_law_420 : decode cL_law 420 = .ok (.i2l, 1) := by decide +kernel
theorem dL_law_421 : decode cL_law 421 = .ok (.lcmp, 1) := by decide +kernel
theorem dL_law_422 : decode cL_law 422 = .ok (.ifCond .eq 5, 3) := by decide +kernel
theorem dL_law_425 : decode cL_law 425 = .ok (.iconst 0, 1) := by decide +kernel
theorem dL_law_426 : decode cL_law 426 = .ok (.ireturn, 1) := by decide +kernel
theorem dL_law_427 : decode cL_law 427 = .ok (.goto 79, 3) := by decide +kernel
theorem dL_law_430 : decode cL_law 430 = .ok (.aload_n 1, 1) := by decide +kernel
theorem dL_law_431 : decode cL_law 431 = .ok (.aload_n 0, 1) := by decide +kernel
theorem dL_law_432 : decode cL_law 432 = .ok (.iload 4, 2) := by decide +kernel
theorem dL_law_434 : decode cL_law 434 = .ok (.iconst 1, 1) := by decide +kernel
theorem dL_law_435 : decode cL_law 435 = .ok (.iadd, 1) := by decide +kernel
theorem dL_law_436 : decode cL_law 436 = .ok (.iaload, 1) := by decide +kernel
theorem dL_law_437 : decode cL_law 437 = .ok (.aload_n 0, 1) := by decide +kernel
theorem dL_law_438 : decode cL_law 438 = .ok (.iload 4, 2) := by decide +kernel
theorem dL_law_440 : decode cL_law 440 = .ok (.iconst 2, 1) := by decide +kernel
theorem dL_law_441 : decode cL_law 441 = .ok (.iadd, 1) := by decide +kernel
theorem dL_law_442 : decode cL_law 442 = .ok (.iaload, 1) := by decide +kernel
theorem dL_law_443 : decode cL_law 443 = .ok (.invokevirtual 66, 3) := by decide +kernel
theorem dL_law_446 : decode cL_law 446 = .ok (.aload_n 2, 1) := by decide +kernel
theorem dL_law_447 : decode cL_law 447 = .ok (.aload_n 0, 1) := by decide +kernel
theorem dL_law_448 : decode cL_law 448 = .ok (.iload 4, 2) := by decide +kernel
theorem dL_law_450 : decode cL_law 450 = .ok (.iconst 1, 1) := by decide +kernel
theorem dL_law_451 : decode cL_law 451 = .ok (.iadd, 1) := by decide +kernel
theorem dL_law_452 : decode cL_law 452 = .ok (.iaload, 1) := by decide +kernel
theorem dL_law_453 : decode cL_law 453 = .ok (.aload_n 0, 1) := by decide +kernel
theorem dL_law_454 : decode cL_law 454 = .ok (.iload 4, 2) := by decide +kernel
theorem dL_law_456 : decode cL_law 456 = .ok (.iconst 2, 1) := by decide +kernel
theorem dL_law_457 : decode cL_law 457 = .ok (.iadd, 1) := by decide +kernel
theorem dL_law_458 : decode cL_law 458 = .ok (.iaload, 1) := by decide +kernel
theorem dL_law_459 : decode cL_law 459 = .ok (.invokevirtual 69, 3) := by decide +kernel
theorem dL_law_462 : decode cL_law 462 = .ok (.if_icmp .eq 44, 3) := by decide +kernel
theorem dL_law_465 : decode cL_law 465 = .ok (.iconst 0, 1) := by decide +kernel
theorem dL_law_466 : decode cL_law 466 = .ok (.ireturn, 1) := by decide +kernel
theorem dL_law_467 : decode cL_law 467 = .ok (.aload_n 1, 1) := by decide +kernel
theorem dL_law_468 : decode cL_law 468 = .ok (.invokevirtual 70, 3) := by decide +kernel
theorem dL_law_471 : decode cL_law 471 = .ok (.aload_n 2, 1) := by decide +kernel
theorem dL_law_472 : decode cL_law 472 = .ok (.invokevirtual 74, 3) := by decide +kernel
theorem dL_law_475 : decode cL_law 475 = .ok (.lcmp, 1) := by decide +kernel
theorem dL_law_476 : decode cL_law 476 = .ok (.ifCond .eq 30, 3) := by decide +kernel
theorem dL_law_479 : decode cL_law 479 = .ok (.iconst 0, 1) := by decide +kernel
theorem dL_law_480 : decode cL_law 480 = .ok (.ireturn, 1) := by decide +kernel
theorem dL_law_481 : decode cL_law 481 = .ok (.aload_n 1, 1) := by decide +kernel
theorem dL_law_482 : decode cL_law 482 = .ok (.aload_n 0, 1) := by decide +kernel
theorem dL_law_483 : decode cL_law 483 = .ok (.iload 4, 2) := by decide +kernel
theorem dL_law_485 : decode cL_law 485 = .ok (.iconst 1, 1) := by decide +kernel
theorem dL_law_486 : decode cL_law 486 = .ok (.iadd, 1) := by decide +kernel
theorem dL_law_487 : decode cL_law 487 = .ok (.iaload, 1) := by decide +kernel
theorem dL_law_488 : decode cL_law 488 = .ok (.invokevirtual 75, 3) := by decide +kernel
theorem dL_law_491 : decode cL_law 491 = .ok (.aload_n 2, 1) := by decide +kernel
theorem dL_law_492 : decode cL_law 492 = .ok (.aload_n 0, 1) := by decide +kernel
theorem dL_law_493 : decode cL_law 493 = .ok (.iload 4, 2) := by decide +kernel
theorem dL_law_495 : decode cL_law 495 = .ok (.iconst 1, 1) := by decide +kernel
theorem dL_law_496 : decode cL_law 496 = .ok (.iadd, 1) := by decide +kernel
theorem dL_law_497 : decode cL_law 497 = .ok (.iaload, 1) := by decide +kernel
theorem dL_law_498 : decode cL_law 498 = .ok (.invokevirtual 78, 3) := by decide +kernel
theorem dL_law_501 : decode cL_law 501 = .ok (.if_icmp .eq 5, 3) := by decide +kernel
theorem dL_law_504 : decode cL_law 504 = .ok (.iconst 0, 1) := by decide +kernel
theorem dL_law_505 : decode cL_law 505 = .ok (.ireturn, 1) := by decide +kernel
theorem dL_law_506 : decode cL_law 506 = .ok (.iinc 4 4, 3) := by decide +kernel
theorem dL_law_509 : decode cL_law 509 = .ok (.goto (-486), 3) := by decide +kernel
theorem dL_law_512 : decode cL_law 512 = .ok (.iconst 1, 1) := by decide +kernel
theorem dL_law_513 : decode cL_law 513 = .ok (.ireturn, 1) := by decide +kernel
end
section
/-! ===== BEGIN exceptions that leave a method, and their catching by the caller (launches without stack traces) ===== -/
section VXA
/-! The laws vx_back, vx_callV, vx_callS, vx_callSW, vx_throw0, vx_throwS follow proofs of the library, with one case more: JvmDerived/Free/Laws.lean (Back.of_free), Shelf42/LK1.lean (callV, callS), Shelf/KitTraced.lean (throwNew0V, throwNewS). -/
/-- where a method has thrown q: the class by its name, the cell, what was written, the world -/
def vx_T (XC : String → State → State → Prop) (st : State) (q : Addr) (t : State) (mc ms : Nat) (free : Addr → Prop) : Prop :=
  ∃ (E : String) (ce : Cell) (L : List Loc), XC E st t ∧ t.heap[q]? = some ce ∧ ce.vm = .none ∧ st.vm.findClass E = some ce.cls ∧ st.WarmedH t.vm ∧ st.sameButNew ({ t with vm := st.vm } : State) L mc ms ∧ ∀ z ∈ L, free z.base
def vx_Q (Qc : Array Value → State → Outcome → State → Prop) (XC : String → State → State → Prop) (mc ms : Nat) (free : Addr → Prop) : Array Value → State → Outcome → State → Prop := fun a st o t =>
  (Qc a st o t ∧ ∃ L, FrameEnd st o t L mc ms ∧ ∀ q ∈ L, free q.base) ∨ ∃ q, o = .threw q ∧ vx_T XC st q t mc ms free
/-- a callee that returns or throws -/
def vx_Met (l : Launch) (y : MethodName) (ws : List Cond) (rm : Room) (Pc : Array Value → State → Prop) (Qc : Array Value → State → Outcome → State → Prop) (XC : String → State → State → Prop) (mc ms : Nat) (free : Addr → Prop) : Prop :=
  MetFree l y (headSpec ws rm) Pc (fun _ _ _ _ _ => True) (vx_Q Qc XC mc ms free)
def vx_Post (XC : String → State → State → Prop) (mc ms : Nat) (free : Addr → Prop) : Pt → Array Value → Addr → Pt → Prop := fun A a q B =>
  ∃ (g : JFrame) (mk : MethodId) (t : State) (L : List Loc) (E : String) (ce : Cell), B.U.heap = t.heap ∧ B.U.vm = t.vm ∧ XC E (A.U.calling g mk a) t ∧ t.heap[q]? = some ce ∧ ce.vm = .none ∧ A.U.vm.findClass E = some ce.cls ∧ B.locs = A.locs ++ L ∧ (∀ z ∈ L, free z.base) ∧ B.cells = A.cells + mc ∧ B.slots = A.slots + ms
def vx_Back (l : Launch) (R : Room) (p : Program) (e : Env) (below : List Frame) (s : State) (sargs : Array Value) (y : MethodName) (len W9 : Nat)
    (Pre : Pt → Array Value → Prop) (Post : Pt → Array Value → Option Value → Pt → Prop) (PostX : Pt → Array Value → Addr → Pt → Prop) : Prop :=
  ∀ (m : MethodId) (meth : Method) (c : Code) (A : Pt) (g : JFrame) (ig : Instr) (mk : MethodId) (a : Array Value),
    Stand p l e R s m sargs below meth c A.U A.locs A.cells A.slots → g.method = m → g.locals.size = c.maxLocals → decode c.code g.pc = .ok (ig, len) →
    2 * g.monitorRoom + (g.stack.map fun v => v.category).sum ≤ W9 → A.U.methodNamed? y = some mk → Pre A a →
    (∃ (v : Option Value) (B : Pt), Stand p l e R s m sargs below meth c B.U B.locs B.cells B.slots ∧ Post A a v B ∧
      Steps p.tables e below (doInvoke e (A.U.setTop g) [] mk a).1 (B.U.setTop { g with pc := g.pc + len, stack := v.toList ++ g.stack })) ∨
    (∃ (q : Addr) (B : Pt), Stand p l e R s m sargs below meth c B.U B.locs B.cells B.slots ∧ PostX A a q B ∧
      Steps p.tables e below (doInvoke e (A.U.setTop g) [] mk a).1 ((B.U.setTop g).pushFrame (.throwing q)))
section Payer
variable {l : Launch} {R : Room} {p : Program} {e : Env} {below : List Frame} {s : State} {sargs : Array Value} {y : MethodName} {len W9 : Nat}
theorem vx_back {ws : List Cond} {rm : Room} {Pc : Array Value → State → Prop} {Qc : Array Value → State → Outcome → State → Prop} {XC : String → State → State → Prop} {mc ms : Nat} {free : Addr → Prop} {bytes : ByteArray} {maxL : Nat} {ret : Option FieldType}
    (hM : vx_Met l y ws rm Pc Qc XC mc ms free) (hblind : FrameBlind Pc) (hrc : rm.cells = mc) (hrs : rm.slots = ms)
    (hframes : rm.frames + 1 ≤ R.frames) (hlocals : W9 + (maxL + 11) + rm.locals ≤ R.locals)
    (hws : ∀ w ∈ ws, ∀ a' U, s.WarmedH U.vm → w.before a' U = true) (hcode : Cond.code y bytes maxL ret ∈ ws) (hinit : ∀ a' U, s.WarmedH U.vm → (Cond.initialized y.cls).before a' U = true) :
    vx_Back l R p e below s sargs y len W9 (PreOf R mc ms Pc) (PostOf Qc mc ms free) (vx_Post XC mc ms free) := by
  intro m meth c A g ig mk a X hg hsize hdg hW hn hp
  have h1 : (headSpec ws rm).pre.before a A.U = true := atoms_intro fun w hw => hws w hw _ _ X.warmed
  have h2 : (Cond.code y bytes maxL ret).before a A.U = true := hws _ hcode _ _ X.warmed
  have h3 : (Cond.initialized y.cls).before a A.U = true := hinit _ _ X.warmed
  have h4 : A.cells + (headSpec ws rm).room.cells ≤ R.cells := by rw [show (headSpec ws rm).room.cells = mc from hrc]; exact hp.1
  have h5 : A.slots + (headSpec ws rm).room.slots ≤ R.slots := by rw [show (headSpec ws rm).room.slots = ms from hrs]; exact hp.2.1
  have hPc : Pc a (A.U.calling g mk a) := hblind _ _ _ _ hp.2.2
  obtain ⟨U, Ls, c0, s0⟩ := A
  dsimp only [Pt.U, Pt.locs, Pt.cells, Pt.slots] at h1 h2 h3 h4 h5 X hn hPc ⊢
  obtain ⟨methY, cY, hmY, hcY, -, hlY, -, -, -, -⟩ := Cond.code_spec hn h2
  obtain ⟨kY, hkY, -⟩ := className_of_methodNamed hn
  have hinitY : kY.init = .initialized := Cond.initialized_spec (findClass_of_methodNamed hn) hkY h3
  have h : At U g.method c below := by rw [hg]; exact X.here
  have hlocals9 : W9 + (maxL + 11) + (headSpec ws rm).room.locals ≤ R.locals := hlocals
  have happ : (headSpec ws rm).appliesLoose y e.platform (U.calling g mk a) = true :=
    Spec.appliesLoose_calling (g := g) h hdg hn hkY hinitY
      (X.room_calling (g := g) (R' := (headSpec ws rm).room) hsize hmY hcY hframes (by rw [hlY]; omega) h4 h5) h1
  obtain ⟨mid, hmid⟩ := h.above
  have hfr : (U.setTop g).frames = (.java g :: mid) ++ below := by rw [State.frames_setTop' g h.top, hmid]; rfl
  obtain ⟨o, s₂, hsteps, -, hend, hq⟩ := Steps.callFree hM p X.admits X.cas X.clock (acts := []) hfr happ hPc trivial
  have hq' : vx_Q Qc XC mc ms free a (U.calling g mk a) o s₂ := hq
  rw [State.frames_setTop' g h.top] at hend
  obtain ⟨g₀, hg0⟩ := Option.isSome_iff_exists.mp h.top
  obtain ⟨r, hr⟩ := State.topJava?_eq_some.mp hg0
  have hr' : (({ U with heap := s₂.heap, slotsUsed := s₂.slotsUsed } : State).setVm s₂.vm).frames = .java g₀ :: r := hr
  rcases hq' with ⟨hqc, L, hfe, hL⟩ | ⟨q, rfl, E, ce, L, hx, hce, hcv, hcl, hW₂, hsm, hL⟩
  · obtain ⟨⟨v, rfl⟩, hW₂, e2, q2, q3, q4, q5, q6⟩ := id hfe
    have e3 : s₂ = ({ (U.calling g mk a).setFrames s₂.frames with heap := s₂.heap, slotsUsed := s₂.slotsUsed } : State).setVm s₂.vm := by
      have : s₂ = ({ s₂ with vm := (U.calling g mk a).vm } : State).setVm s₂.vm := rfl
      rw [e2] at this
      exact this
    obtain ⟨c₂, i₂, len₂, hc₂, hd₂, hf₂⟩ := hend
    have hW' : U.WarmedH s₂.vm := hW₂
    have hcc : c₂ = c := by
      have h1 : s₂.code? g.method = U.code? g.method := by
        rw [State.code?_eq, State.code?_eq, hW'.alike.method?]
      exact Option.some.inj (hc₂.symm.trans (h1.trans h.code))
    subst hcc
    have hlen : len₂ = len := by rw [hdg] at hd₂; cases hd₂; rfl
    subst hlen
    have hs₂ : s₂ = (({ U with heap := s₂.heap, slotsUsed := s₂.slotsUsed } : State).setVm s₂.vm).setTop { g with pc := g.pc + len₂, stack := v.toList ++ g.stack } := by
      refine e3.trans ?_
      rw [hf₂, State.calling_eq h.top, State.setFrames_setFrames, State.setTop_of_frames _ hr', hr]
      rfl
    have hsame : U.sameButNew ({ U with heap := s₂.heap, slotsUsed := s₂.slotsUsed } : State) L mc ms := by
      refine ⟨?_, q2, q3, q4, q5, q6⟩
      obtain ⟨t, ht, -⟩ := State.frames_cons hr
      show ({ U with heap := s₂.heap, slotsUsed := s₂.slotsUsed } : State) = { U.setFrames U.frames with heap := s₂.heap, slotsUsed := s₂.slotsUsed }
      rw [State.setFrames_self ht]
    subst hg
    refine Or.inl ⟨v, ⟨(({ U with heap := s₂.heap, slotsUsed := s₂.slotsUsed } : State).setVm s₂.vm), Ls ++ L, c0 + mc, s0 + ms⟩,
      ⟨X.admits, X.cas, X.clock, X.frames, X.room, X.hears, X.method, X.code, (X.here.setHeapUsed s₂.heap s₂.slotsUsed).setVm hW'.alike, X.tail, State.WarmedH.trans X.warmed hW', X.limits, X.bytes, X.same.trans (hsame.setVm s.vm)⟩,
      ⟨g, mk, s₂, L, rfl, rfl, hqc, rfl, hL, rfl, rfl⟩, ?_⟩
    show Steps p.tables e below _ ((({ U with heap := s₂.heap, slotsUsed := s₂.slotsUsed } : State).setVm s₂.vm).setTop { g with pc := g.pc + len₂, stack := v.toList ++ g.stack })
    rw [← hs₂]
    exact hsteps
  · obtain ⟨e2, q2, q3, q4, q5, q6⟩ := id hsm
    have e3 : s₂ = ({ (U.calling g mk a).setFrames s₂.frames with heap := s₂.heap, slotsUsed := s₂.slotsUsed } : State).setVm s₂.vm := by
      have : s₂ = ({ s₂ with vm := (U.calling g mk a).vm } : State).setVm s₂.vm := rfl
      rw [e2] at this
      exact this
    have hf₂ : s₂.frames = .throwing q :: .java g :: U.frames.tail := hend
    have hW' : U.WarmedH s₂.vm := hW₂
    have hs₂ : s₂ = ((({ U with heap := s₂.heap, slotsUsed := s₂.slotsUsed } : State).setVm s₂.vm).setTop g).pushFrame (.throwing q) := by
      refine e3.trans ?_
      rw [hf₂, State.calling_eq h.top, State.setFrames_setFrames, State.pushFrame, State.frames_setTop _ hr', State.setTop_of_frames _ hr', State.setFrames_setFrames, hr]
      rfl
    have hsame : U.sameButNew ({ U with heap := s₂.heap, slotsUsed := s₂.slotsUsed } : State) L mc ms := by
      refine ⟨?_, q2, q3, q4, q5, q6⟩
      obtain ⟨t, ht, -⟩ := State.frames_cons hr
      show ({ U with heap := s₂.heap, slotsUsed := s₂.slotsUsed } : State) = { U.setFrames U.frames with heap := s₂.heap, slotsUsed := s₂.slotsUsed }
      rw [State.setFrames_self ht]
    subst hg
    refine Or.inr ⟨q, ⟨(({ U with heap := s₂.heap, slotsUsed := s₂.slotsUsed } : State).setVm s₂.vm), Ls ++ L, c0 + mc, s0 + ms⟩,
      ⟨X.admits, X.cas, X.clock, X.frames, X.room, X.hears, X.method, X.code, (X.here.setHeapUsed s₂.heap s₂.slotsUsed).setVm hW'.alike, X.tail, State.WarmedH.trans X.warmed hW', X.limits, X.bytes, X.same.trans (hsame.setVm s.vm)⟩,
      ⟨g, mk, s₂, L, E, ce, rfl, rfl, hx, hce, hcv, hcl, rfl, hL, rfl, rfl⟩, ?_⟩
    show Steps p.tables e below _ (((({ U with heap := s₂.heap, slotsUsed := s₂.slotsUsed } : State).setVm s₂.vm).setTop g).pushFrame (.throwing q))
    rw [← hs₂]
    exact hsteps
end Payer
section Calls
variable {p : Program} {l : Launch} {e : Env} {R : Room} {s : State} {m : MethodId} {args : Array Value} {below : List Frame} {meth : Method} {c : Code} {T : State} {locs : List Loc} {cells slots : Nat}
theorem vx_callV (X : Stand p l e R s m args below meth c T locs cells slots) (hexec : p.tables.exec = Jvm.exec) {own C : String} {index : Nat} {y : MethodName} {bytes : ByteArray} {maxL : Nat} {ret : Option FieldType}
    (hown : s.vm.findClass own = some m.cls) (hlink : (Cond.methodLink own index y).before args s = true) (hinst : (Cond.instanceMethod y).before args s = true) (hsel : (Cond.selects C y y).before args s = true)
    (hcode : (Cond.code y bytes maxL ret).before args s = true) (hy : y.cls ≠ "java/lang/invoke/MethodHandle" ∧ y.cls ≠ "java/lang/invoke/VarHandle")
    {W9 : Nat} {Pre : Pt → Array Value → Prop} {Post : Pt → Array Value → Option Value → Pt → Prop} {PostX : Pt → Array Value → Addr → Pt → Prop} (hK : vx_Back l R p e below s args y 3 W9 Pre Post PostX)
    {b : Addr} {cellB : Cell} (hcell : T.heap[b]? = some cellB) (hobj : cellB.vm.isStatics = false) (hcls : s.vm.findClass C = some cellB.cls)
    {g : JFrame} (hg : g.method = m) (hsize : g.locals.size = c.maxLocals) {argsL rest : List Value} (hlen : ∀ sig, parseMethodDescriptor y.desc = some sig → argsL.length = sig.parameters.length)
    (hstack : g.stack = argsL.reverse ++ .ref b :: rest) (hW : 2 * g.monitorRoom + (rest.map fun v => v.category).sum ≤ W9) (hdg : decode c.code g.pc = .ok (.invokevirtual index, 3))
    (hpre : ∀ vm₁, s.WarmedH vm₁ → Pre ⟨T.setVm vm₁, locs, cells, slots⟩ (Value.ref b :: argsL).toArray) :
    (∃ (v : Option Value) (vm₁ : Vm) (B : Pt), s.WarmedH vm₁ ∧ Stand p l e R s m args below meth c B.U B.locs B.cells B.slots ∧ Post ⟨T.setVm vm₁, locs, cells, slots⟩ (Value.ref b :: argsL).toArray v B ∧
      ∀ target, Steps p.tables e below (B.U.setTop { g with pc := g.pc + 3, stack := v.toList ++ rest }) target → Steps p.tables e below (T.setTop g) target) ∨
    (∃ (q : Addr) (vm₁ : Vm) (B : Pt), s.WarmedH vm₁ ∧ Stand p l e R s m args below meth c B.U B.locs B.cells B.slots ∧ PostX ⟨T.setVm vm₁, locs, cells, slots⟩ (Value.ref b :: argsL).toArray q B ∧
      Steps p.tables e below (T.setTop g) ((B.U.setTop { g with stack := rest }).pushFrame (.throwing q))) := by
  obtain ⟨mk, methM, hnamed, hmethM, hstM, habM⟩ := Cond.instanceMethod_spec hinst
  obtain ⟨methM', cM, hmethM', -, -, -, -, -, -, hsigM⟩ := Cond.code_spec hnamed hcode
  cases hmethM.symm.trans hmethM'
  obtain ⟨c2, r2, m2, q1, q2, q3, q4, kP, hkP, hkPi⟩ := Cond.selects_spec hsel
  cases hcls.symm.trans q1
  cases (State.methodFound?_of_named hnamed hy).symm.trans q2
  cases hnamed.symm.trans q3
  have hselP : selectMethod e.platform s.vm cellB.cls mk = .method mk := by rw [Launch.admits_selectMethod X.admits]; exact q4
  obtain ⟨vm₁, X₁, hstep₁⟩ := X.invokevirtual hexec hown hlink hnamed hmethM hstM hkP hkPi hy (a := b) (cell := cellB) hcell
    (fun z h => by rw [h] at hobj; cases hobj) hselP hmethM habM hkP hkPi (g := g) hg (argsL := argsL) (rest := rest) (hlen _ hsigM) hstack hdg
  rcases hK m meth c ⟨T.setVm vm₁, locs, cells, slots⟩ { g with stack := rest } (.invokevirtual index) mk (Value.ref b :: argsL).toArray X₁ hg hsize hdg hW (X₁.named hnamed) (hpre vm₁ X₁.warmed) with ⟨v, B, X', hpost, hsteps⟩ | ⟨q, B, X', hpost, hsteps⟩
  · exact Or.inl ⟨v, vm₁, B, X₁.warmed, X', hpost, fun target h => hstep₁ _ fun acts => by rw [doInvoke_state]; exact hsteps.trans h⟩
  · exact Or.inr ⟨q, vm₁, B, X₁.warmed, X', hpost, hstep₁ _ fun acts => by rw [doInvoke_state]; exact hsteps⟩
theorem vx_callS (X : Stand p l e R s m args below meth c T locs cells slots) (hexec : p.tables.exec = Jvm.exec) {own : String} {index : Nat} {y : MethodName} {bytes : ByteArray} {maxL : Nat} {ret : Option FieldType}
    (hown : s.vm.findClass own = some m.cls) (hlink : (Cond.methodLink own index y).before args s = true) (hstat : (Cond.static y).before args s = true) (hinit : (Cond.initialized y.cls).before args s = true)
    (hcode : (Cond.code y bytes maxL ret).before args s = true) (hy : y.cls ≠ "java/lang/invoke/MethodHandle" ∧ y.cls ≠ "java/lang/invoke/VarHandle")
    {W9 : Nat} {Pre : Pt → Array Value → Prop} {Post : Pt → Array Value → Option Value → Pt → Prop} {PostX : Pt → Array Value → Addr → Pt → Prop} (hK : vx_Back l R p e below s args y 3 W9 Pre Post PostX)
    {g : JFrame} (hg : g.method = m) (hsize : g.locals.size = c.maxLocals) {argsL rest : List Value} (hlen : ∀ sig, parseMethodDescriptor y.desc = some sig → argsL.length = sig.parameters.length)
    (hstack : g.stack = argsL.reverse ++ rest) (hW : 2 * g.monitorRoom + (rest.map fun v => v.category).sum ≤ W9) (hdg : decode c.code g.pc = .ok (.invokestatic index, 3))
    (hpre : ∀ vm₁, s.WarmedH vm₁ → Pre ⟨T.setVm vm₁, locs, cells, slots⟩ argsL.toArray) :
    (∃ (v : Option Value) (vm₁ : Vm) (B : Pt), s.WarmedH vm₁ ∧ Stand p l e R s m args below meth c B.U B.locs B.cells B.slots ∧ Post ⟨T.setVm vm₁, locs, cells, slots⟩ argsL.toArray v B ∧
      ∀ target, Steps p.tables e below (B.U.setTop { g with pc := g.pc + 3, stack := v.toList ++ rest }) target → Steps p.tables e below (T.setTop g) target) ∨
    (∃ (q : Addr) (vm₁ : Vm) (B : Pt), s.WarmedH vm₁ ∧ Stand p l e R s m args below meth c B.U B.locs B.cells B.slots ∧ PostX ⟨T.setVm vm₁, locs, cells, slots⟩ argsL.toArray q B ∧
      Steps p.tables e below (T.setTop g) ((B.U.setTop { g with stack := rest }).pushFrame (.throwing q))) := by
  obtain ⟨mk, hnamed⟩ := Cond.code_named hcode
  obtain ⟨methM, cM, hmethM, -, -, -, -, -, -, hsigM⟩ := Cond.code_spec hnamed hcode
  have hstatic : methM.isStatic = true := Cond.static_spec hnamed hmethM hstat
  obtain ⟨kP, hkP, -⟩ := className_of_methodNamed hnamed
  have hinitP : kP.init = .initialized := Cond.initialized_spec (findClass_of_methodNamed hnamed) hkP hinit
  obtain ⟨vm₁, X₁, hstep₁⟩ := X.invokestatic hexec hown hlink hnamed hmethM hstatic hkP hinitP hy (g := g) hg (argsL := argsL) (rest := rest) (hlen _ hsigM) hstack hdg
  rcases hK m meth c ⟨T.setVm vm₁, locs, cells, slots⟩ { g with stack := rest } (.invokestatic index) mk argsL.toArray X₁ hg hsize hdg hW (X₁.named hnamed) (hpre vm₁ X₁.warmed) with ⟨v, B, X', hpost, hsteps⟩ | ⟨q, B, X', hpost, hsteps⟩
  · exact Or.inl ⟨v, vm₁, B, X₁.warmed, X', hpost, fun target h => hstep₁ _ fun acts => by rw [doInvoke_state]; exact hsteps.trans h⟩
  · exact Or.inr ⟨q, vm₁, B, X₁.warmed, X', hpost, hstep₁ _ fun acts => by rw [doInvoke_state]; exact hsteps⟩
end Calls
theorem vx_cls {s : State} {T : State} {vm₁ : Vm} {E : String} {k : ClassId} (hW : s.WarmedH vm₁) (h : (T.setVm vm₁).vm.findClass E = some k) : s.vm.findClass E = some k := by
  have h1 : vm₁.findClass E = some k := h
  rw [hW.alike.findClass] at h1
  exact h1
/-- the method's frame g, with q thrown over it -/
def vx_W (p : Program) (l : Launch) (e : Env) (R : Room) (s : State) (m : MethodId) (args : Array Value) (below : List Frame) (meth : Method) (c : Code) (H : Heap) (locs : List Loc) (cells slots : Nat) (Q : State → Prop) (g : JFrame) (q : Addr) : Prop :=
  ∀ T : State, T.heap = H → Stand p l e R s m args below meth c T locs cells slots → ∃ t, Steps p.tables e below ((T.setTop g).pushFrame (.throwing q)) t ∧ Q t
def vx_Run (p : Program) (l : Launch) (e : Env) (R : Room) (s : State) (m : MethodId) (args : Array Value) (below : List Frame) (meth : Method) (c : Code) (H : Heap) (locs : List Loc) (cells slots mc ms : Nat) (g : JFrame) (rest : List Value) (Qa : State → Outcome → State → Prop) (XC : String → State → State → Prop) (free : Addr → Prop) : Prop :=
  ∀ T : State, T.heap = H → Stand p l e R s m args below meth c T locs cells slots →
    (∃ (v : Option Value) (st₀ t T' : State) (L : List Loc), st₀.heap = H ∧ Stand p l e R s m args below meth c T' (locs ++ L) (cells + mc) (slots + ms) ∧ (∀ q ∈ L, free q.base) ∧ T'.heap = t.heap ∧ T'.vm = t.vm ∧ Qa st₀ (.returned v) t ∧
      Goes p e below T g T' { g with pc := g.pc + 3, stack := v.toList ++ rest }) ∨
    (∃ (q : Addr) (st₀ t T' : State) (L : List Loc) (E : String) (ce : Cell), st₀.heap = H ∧ Stand p l e R s m args below meth c T' (locs ++ L) (cells + mc) (slots + ms) ∧ (∀ z ∈ L, free z.base) ∧ T'.heap = t.heap ∧ T'.vm = t.vm ∧ XC E st₀ t ∧ t.heap[q]? = some ce ∧ ce.vm = .none ∧ s.vm.findClass E = some ce.cls ∧
      Steps p.tables e below (T.setTop g) ((T'.setTop { g with stack := rest }).pushFrame (.throwing q)))
def vx_X {S : Type} (px : S → Prop) (B : String → S → State → Prop) (A : Nat → Prop) : String → State → State → Prop := fun E st t => ∃ u : S, px u ∧ B E u t ∧ va_F A st t
section Runs
variable {p : Program} {l : Launch} {e : Env} {R : Room} {s : State} {m : MethodId} {args : Array Value} {below : List Frame} {meth : Method} {c : Code} {H : Heap} {locs : List Loc} {cells slots : Nat}
variable {y : MethodName} {bytes cc : ByteArray} {maxL nL mc ms n index : Nat} {ret : Option FieldType} {ws : List Cond} {rm : Room} {Pc : Array Value → State → Prop} {Qc : Array Value → State → Outcome → State → Prop} {XC : String → State → State → Prop} {free : Addr → Prop} {Ts : List Cond} {own C : String} {b : Addr} {As rest : List Value} {g : JFrame}
theorem vx_callBack (cb : CallB R s args own index y bytes maxL ret ws rm mc ms n) (hM : vx_Met l y ws rm Pc Qc XC mc ms free) (hbl : FrameBlind Pc) : vx_Back l R p e below s args y 3 8 (PreOf R mc ms Pc) (PostOf Qc mc ms free) (vx_Post XC mc ms free) := by
  obtain ⟨hrc, hrs, hfr, hlo, hws, hcw, -, hini, -⟩ := cb
  exact vx_back (bytes := bytes) (maxL := maxL) (ret := ret) hM hbl hrc hrs hfr hlo hws hcw (fun a' U hW => word_at hW (Or.inl (by first | rfl | simp [Cond.onTables, Cond.keeps, Cond.steady])) hini)
theorem vx_runV (S : CallFix p m c cc nL s args Ts own) (hM : vx_Met l y ws rm Pc Qc XC mc ms free) (cw : CallW R s args own C index y bytes maxL ret ws rm mc ms n) (hp : PreV s H C b Pc As)
    (hg : g.method = m) (hn : As.length = n) (hsize : g.locals.size = nL) (hstack : g.stack = As.reverse ++ .ref b :: rest) (hW : 2 * g.monitorRoom + (rest.map fun v => v.category).sum ≤ 8) (hdg : decode cc g.pc = .ok (.invokevirtual index, 3)) (hf : cells + mc ≤ R.cells ∧ slots + ms ≤ R.slots) :
    vx_Run p l e R s m args below meth c H locs cells slots mc ms g rest (Qc (Value.ref b :: As).toArray) XC free := by
  have hK : vx_Back l R p e below s args y 3 8 (PreOf R mc ms Pc) (PostOf Qc mc ms free) (vx_Post XC mc ms free) := vx_callBack cw.1 hM hp.1
  obtain ⟨⟨-, -, -, -, -, -, hcode, -, hy, hlen, hl⟩, hin, hse⟩ := cw
  obtain ⟨hx, hb, hml, ho, -⟩ := S
  obtain ⟨-, ⟨cellB, hcB, hoB, hclB⟩, hPc⟩ := hp
  intro T hT X
  rcases vx_callV X hx (C := C) (bytes := bytes) (maxL := maxL) (ret := ret) ho hl hin hse hcode hy hK (by rw [hT]; exact hcB) hoB hclB hg (hsize.trans hml.symm) (argsL := As) (rest := rest) (fun sig h => hn.trans (hlen sig h)) hstack hW (by rw [hb]; exact hdg)
    (fun vm₁ hW₁ => ⟨hf.1, hf.2, hPc (T.setVm vm₁) hT hW₁⟩) with ⟨v, vm₁, ⟨U', l2, c2, s2⟩, hW₁, X', ⟨g', mk, t, L, e1, e2, hq, h1, hL, h2, h3⟩, st⟩ | ⟨q, vm₁, ⟨U', l2, c2, s2⟩, hW₁, X', ⟨g', mk, t, L, E, ce, e1, e2, hq, hce, hcv, hcl, h1, hL, h2, h3⟩, st⟩
  · dsimp only [Pt.U, Pt.locs, Pt.cells, Pt.slots] at X' e1 e2 h1 h2 h3 st
    subst h1; subst h2; subst h3
    exact Or.inl ⟨v, (T.setVm vm₁).calling g' mk (Value.ref b :: As).toArray, t, U', L, hT, X', hL, e1, e2, hq, st⟩
  · dsimp only [Pt.U, Pt.locs, Pt.cells, Pt.slots] at X' e1 e2 h1 h2 h3 st hcl
    subst h1; subst h2; subst h3
    exact Or.inr ⟨q, (T.setVm vm₁).calling g' mk (Value.ref b :: As).toArray, t, U', L, E, ce, hT, X', hL, e1, e2, hq, hce, hcv, vx_cls hW₁ hcl, st⟩
theorem vx_runS (S : CallFix p m c cc nL s args Ts own) (hM : vx_Met l y ws rm Pc Qc XC mc ms free) (cw : CallB R s args own index y bytes maxL ret ws rm mc ms n ∧ (Cond.static y).before args s = true) (hp : PreS s H Pc As)
    (hg : g.method = m) (hn : As.length = n) (hsize : g.locals.size = nL) (hstack : g.stack = As.reverse ++ rest) (hW : 2 * g.monitorRoom + (rest.map fun v => v.category).sum ≤ 8) (hdg : decode cc g.pc = .ok (.invokestatic index, 3)) (hf : cells + mc ≤ R.cells ∧ slots + ms ≤ R.slots) :
    vx_Run p l e R s m args below meth c H locs cells slots mc ms g rest (Qc As.toArray) XC free := by
  have hK : vx_Back l R p e below s args y 3 8 (PreOf R mc ms Pc) (PostOf Qc mc ms free) (vx_Post XC mc ms free) := vx_callBack cw.1 hM hp.1
  obtain ⟨⟨-, -, -, -, -, -, hcode, hini, hy, hlen, hl⟩, hstt⟩ := cw
  obtain ⟨hx, hb, hml, ho, -⟩ := S
  intro T hT X
  rcases vx_callS X hx (bytes := bytes) (maxL := maxL) (ret := ret) ho hl hstt hini hcode hy hK hg (hsize.trans hml.symm) (argsL := As) (rest := rest) (fun sig h => hn.trans (hlen sig h)) hstack hW (by rw [hb]; exact hdg)
    (fun vm₁ hW₁ => ⟨hf.1, hf.2, hp.2 (T.setVm vm₁) hT hW₁⟩) with ⟨v, vm₁, ⟨U', l2, c2, s2⟩, hW₁, X', ⟨g', mk, t, L, e1, e2, hq, h1, hL, h2, h3⟩, st⟩ | ⟨q, vm₁, ⟨U', l2, c2, s2⟩, hW₁, X', ⟨g', mk, t, L, E, ce, e1, e2, hq, hce, hcv, hcl, h1, hL, h2, h3⟩, st⟩
  · dsimp only [Pt.U, Pt.locs, Pt.cells, Pt.slots] at X' e1 e2 h1 h2 h3 st
    subst h1; subst h2; subst h3
    exact Or.inl ⟨v, (T.setVm vm₁).calling g' mk As.toArray, t, U', L, hT, X', hL, e1, e2, hq, st⟩
  · dsimp only [Pt.U, Pt.locs, Pt.cells, Pt.slots] at X' e1 e2 h1 h2 h3 st hcl
    subst h1; subst h2; subst h3
    exact Or.inr ⟨q, (T.setVm vm₁).calling g' mk As.toArray, t, U', L, E, ce, hT, X', hL, e1, e2, hq, hce, hcv, vx_cls hW₁ hcl, st⟩
end Runs
section Rows
variable {p : Program} {l : Launch} {e : Env} {R : Room} {s : State} {m : MethodId} {args : Array Value} {below : List Frame} {meth : Method} {c : Code} {H : Heap} {locs : List Loc} {cells slots : Nat} {Q : State → Prop}
variable {mc ms : Nat} {free : Addr → Prop} {A0 A1 : Nat → Prop} {H0 : Heap} {a : Array Value} {pc : Nat} {ls : Array Slot} {st0 rest : List Value}
theorem vx_keep {st₀ t T' : State} {L : List Loc} (h0 : st₀.heap = H) (e1 : T'.heap = t.heap) (hS : va_S A0 H0 H locs) (hA : ∀ q, q < H.size → A1 q → A0 q) (hf : ∀ q, free q → A0 q) (hL : ∀ q ∈ L, free q.base) (hF : va_F A1 st₀ t) :
    H.size ≤ T'.heap.size ∧ (∀ q : Nat, q < H.size → ¬ A1 q → T'.heap[q]? = H[q]?) ∧ va_S A0 H0 T'.heap (locs ++ L) := by
  obtain ⟨hz, hk⟩ := hF
  rw [h0] at hz hk
  exact ⟨by rw [e1]; exact hz, fun q h1 h2 => by rw [e1]; exact hk q h1 h2,
    ⟨Nat.le_trans hS.1 (by rw [e1]; exact hz), fun q h1 h2 => by rw [e1, hk q (Nat.lt_of_lt_of_le h1 hS.1) (fun z => h2 (hA q (Nat.lt_of_lt_of_le h1 hS.1) z))]; exact hS.2.1 q h1 h2, fun q hq => by
      rcases List.mem_append.mp hq with h | h
      · exact hS.2.2 q h
      · exact hf _ (hL q h)⟩⟩
theorem vx_calli {S SX : Type} {post : Int32 → S → Prop} {px : SX → Prop} {B : S → State → Prop} {BX : String → SX → State → Prop} {AX : Nat → Prop} (hr : vx_Run p l e R s m args below meth c H locs cells slots mc ms (F0 m pc ls st0) rest (va_Qi post B A1 a) (vx_X px BX AX) free) (hS : va_S A0 H0 H locs) (hA : ∀ q, q < H.size → A1 q → A0 q) (hf : ∀ q, free q → A0 q) (hAX : ∀ q, q < H.size → AX q → A0 q)
    (kx : ∀ (E : String) (ce : Cell) (q9 : Addr) (u : SX) (t : State) (H1 : Heap) (locs1 : List Loc), t.heap = H1 → s.vm.Alike t.vm → px u → BX E u t → H.size ≤ H1.size → (∀ q : Nat, q < H.size → ¬ AX q → H1[q]? = H[q]?) → va_S A0 H0 H1 locs1 → H1[q9]? = some ce → ce.vm = .none → s.vm.findClass E = some ce.cls → vx_W p l e R s m args below meth c H1 locs1 (cells + mc) (slots + ms) Q (F0 m pc ls rest) q9)
    (kk : ∀ (r : Int32) (u : S) (t : State) (H1 : Heap) (locs1 : List Loc), t.heap = H1 → s.vm.Alike t.vm → post r u → B u t → H.size ≤ H1.size → (∀ q : Nat, q < H.size → ¬ A1 q → H1[q]? = H[q]?) → va_S A0 H0 H1 locs1 → W p l e R s m args below meth c H1 locs1 (cells + mc) (slots + ms) Q (F0 m (pc + 3) ls (.int r :: rest))) : W p l e R s m args below meth c H locs cells slots Q (F0 m pc ls st0) := by
  intro T hT X
  rcases hr T hT X with ⟨v, st₀, t, T', L, h0, X', hL, e1, e2, ⟨⟨r, u, hv, hp, hb⟩, hF⟩, st⟩ | ⟨q, st₀, t, T', L, E, ce, h0, X', hL, e1, e2, ⟨u, hp, hb, hF⟩, hce, hcv, hcl, st⟩
  · cases hv
    obtain ⟨k1, k2, k3⟩ := vx_keep h0 e1 hS hA hf hL hF
    obtain ⟨t2, a1, b1⟩ := kk r u t T'.heap (locs ++ L) e1.symm (by rw [← e2]; exact X'.warmed.alike) hp hb k1 k2 k3 T' rfl X'
    exact ⟨t2, st t2 a1, b1⟩
  · obtain ⟨k1, k2, k3⟩ := vx_keep h0 e1 hS hAX hf hL hF
    obtain ⟨t2, a1, b1⟩ := kx E ce q u t T'.heap (locs ++ L) e1.symm (by rw [← e2]; exact X'.warmed.alike) hp hb k1 k2 k3 (by rw [e1]; exact hce) hcv hcl T' rfl X'
    exact ⟨t2, st.trans a1, b1⟩
theorem vx_calll {S SX : Type} {post : Int64 → S → Prop} {px : SX → Prop} {B : S → State → Prop} {BX : String → SX → State → Prop} {AX : Nat → Prop} (hr : vx_Run p l e R s m args below meth c H locs cells slots mc ms (F0 m pc ls st0) rest (va_Ql post B A1 a) (vx_X px BX AX) free) (hS : va_S A0 H0 H locs) (hA : ∀ q, q < H.size → A1 q → A0 q) (hf : ∀ q, free q → A0 q) (hAX : ∀ q, q < H.size → AX q → A0 q)
    (kx : ∀ (E : String) (ce : Cell) (q9 : Addr) (u : SX) (t : State) (H1 : Heap) (locs1 : List Loc), t.heap = H1 → s.vm.Alike t.vm → px u → BX E u t → H.size ≤ H1.size → (∀ q : Nat, q < H.size → ¬ AX q → H1[q]? = H[q]?) → va_S A0 H0 H1 locs1 → H1[q9]? = some ce → ce.vm = .none → s.vm.findClass E = some ce.cls → vx_W p l e R s m args below meth c H1 locs1 (cells + mc) (slots + ms) Q (F0 m pc ls rest) q9)
    (kk : ∀ (r : Int64) (u : S) (t : State) (H1 : Heap) (locs1 : List Loc), t.heap = H1 → s.vm.Alike t.vm → post r u → B u t → H.size ≤ H1.size → (∀ q : Nat, q < H.size → ¬ A1 q → H1[q]? = H[q]?) → va_S A0 H0 H1 locs1 → W p l e R s m args below meth c H1 locs1 (cells + mc) (slots + ms) Q (F0 m (pc + 3) ls (.long r :: rest))) : W p l e R s m args below meth c H locs cells slots Q (F0 m pc ls st0) := by
  intro T hT X
  rcases hr T hT X with ⟨v, st₀, t, T', L, h0, X', hL, e1, e2, ⟨⟨r, u, hv, hp, hb⟩, hF⟩, st⟩ | ⟨q, st₀, t, T', L, E, ce, h0, X', hL, e1, e2, ⟨u, hp, hb, hF⟩, hce, hcv, hcl, st⟩
  · cases hv
    obtain ⟨k1, k2, k3⟩ := vx_keep h0 e1 hS hA hf hL hF
    obtain ⟨t2, a1, b1⟩ := kk r u t T'.heap (locs ++ L) e1.symm (by rw [← e2]; exact X'.warmed.alike) hp hb k1 k2 k3 T' rfl X'
    exact ⟨t2, st t2 a1, b1⟩
  · obtain ⟨k1, k2, k3⟩ := vx_keep h0 e1 hS hAX hf hL hF
    obtain ⟨t2, a1, b1⟩ := kx E ce q u t T'.heap (locs ++ L) e1.symm (by rw [← e2]; exact X'.warmed.alike) hp hb k1 k2 k3 (by rw [e1]; exact hce) hcv hcl T' rfl X'
    exact ⟨t2, st.trans a1, b1⟩
theorem vx_callf {S SX : Type} {post : UInt32 → S → Prop} {px : SX → Prop} {B : S → State → Prop} {BX : String → SX → State → Prop} {AX : Nat → Prop} (hr : vx_Run p l e R s m args below meth c H locs cells slots mc ms (F0 m pc ls st0) rest (va_Qf post B A1 a) (vx_X px BX AX) free) (hS : va_S A0 H0 H locs) (hA : ∀ q, q < H.size → A1 q → A0 q) (hf : ∀ q, free q → A0 q) (hAX : ∀ q, q < H.size → AX q → A0 q)
    (kx : ∀ (E : String) (ce : Cell) (q9 : Addr) (u : SX) (t : State) (H1 : Heap) (locs1 : List Loc), t.heap = H1 → s.vm.Alike t.vm → px u → BX E u t → H.size ≤ H1.size → (∀ q : Nat, q < H.size → ¬ AX q → H1[q]? = H[q]?) → va_S A0 H0 H1 locs1 → H1[q9]? = some ce → ce.vm = .none → s.vm.findClass E = some ce.cls → vx_W p l e R s m args below meth c H1 locs1 (cells + mc) (slots + ms) Q (F0 m pc ls rest) q9)
    (kk : ∀ (r : UInt32) (u : S) (t : State) (H1 : Heap) (locs1 : List Loc), t.heap = H1 → s.vm.Alike t.vm → post r u → B u t → H.size ≤ H1.size → (∀ q : Nat, q < H.size → ¬ A1 q → H1[q]? = H[q]?) → va_S A0 H0 H1 locs1 → W p l e R s m args below meth c H1 locs1 (cells + mc) (slots + ms) Q (F0 m (pc + 3) ls (.float r :: rest))) : W p l e R s m args below meth c H locs cells slots Q (F0 m pc ls st0) := by
  intro T hT X
  rcases hr T hT X with ⟨v, st₀, t, T', L, h0, X', hL, e1, e2, ⟨⟨r, u, hv, hp, hb⟩, hF⟩, st⟩ | ⟨q, st₀, t, T', L, E, ce, h0, X', hL, e1, e2, ⟨u, hp, hb, hF⟩, hce, hcv, hcl, st⟩
  · cases hv
    obtain ⟨k1, k2, k3⟩ := vx_keep h0 e1 hS hA hf hL hF
    obtain ⟨t2, a1, b1⟩ := kk r u t T'.heap (locs ++ L) e1.symm (by rw [← e2]; exact X'.warmed.alike) hp hb k1 k2 k3 T' rfl X'
    exact ⟨t2, st t2 a1, b1⟩
  · obtain ⟨k1, k2, k3⟩ := vx_keep h0 e1 hS hAX hf hL hF
    obtain ⟨t2, a1, b1⟩ := kx E ce q u t T'.heap (locs ++ L) e1.symm (by rw [← e2]; exact X'.warmed.alike) hp hb k1 k2 k3 (by rw [e1]; exact hce) hcv hcl T' rfl X'
    exact ⟨t2, st.trans a1, b1⟩
theorem vx_calld {S SX : Type} {post : UInt64 → S → Prop} {px : SX → Prop} {B : S → State → Prop} {BX : String → SX → State → Prop} {AX : Nat → Prop} (hr : vx_Run p l e R s m args below meth c H locs cells slots mc ms (F0 m pc ls st0) rest (va_Qd post B A1 a) (vx_X px BX AX) free) (hS : va_S A0 H0 H locs) (hA : ∀ q, q < H.size → A1 q → A0 q) (hf : ∀ q, free q → A0 q) (hAX : ∀ q, q < H.size → AX q → A0 q)
    (kx : ∀ (E : String) (ce : Cell) (q9 : Addr) (u : SX) (t : State) (H1 : Heap) (locs1 : List Loc), t.heap = H1 → s.vm.Alike t.vm → px u → BX E u t → H.size ≤ H1.size → (∀ q : Nat, q < H.size → ¬ AX q → H1[q]? = H[q]?) → va_S A0 H0 H1 locs1 → H1[q9]? = some ce → ce.vm = .none → s.vm.findClass E = some ce.cls → vx_W p l e R s m args below meth c H1 locs1 (cells + mc) (slots + ms) Q (F0 m pc ls rest) q9)
    (kk : ∀ (r : UInt64) (u : S) (t : State) (H1 : Heap) (locs1 : List Loc), t.heap = H1 → s.vm.Alike t.vm → post r u → B u t → H.size ≤ H1.size → (∀ q : Nat, q < H.size → ¬ A1 q → H1[q]? = H[q]?) → va_S A0 H0 H1 locs1 → W p l e R s m args below meth c H1 locs1 (cells + mc) (slots + ms) Q (F0 m (pc + 3) ls (.double r :: rest))) : W p l e R s m args below meth c H locs cells slots Q (F0 m pc ls st0) := by
  intro T hT X
  rcases hr T hT X with ⟨v, st₀, t, T', L, h0, X', hL, e1, e2, ⟨⟨r, u, hv, hp, hb⟩, hF⟩, st⟩ | ⟨q, st₀, t, T', L, E, ce, h0, X', hL, e1, e2, ⟨u, hp, hb, hF⟩, hce, hcv, hcl, st⟩
  · cases hv
    obtain ⟨k1, k2, k3⟩ := vx_keep h0 e1 hS hA hf hL hF
    obtain ⟨t2, a1, b1⟩ := kk r u t T'.heap (locs ++ L) e1.symm (by rw [← e2]; exact X'.warmed.alike) hp hb k1 k2 k3 T' rfl X'
    exact ⟨t2, st t2 a1, b1⟩
  · obtain ⟨k1, k2, k3⟩ := vx_keep h0 e1 hS hAX hf hL hF
    obtain ⟨t2, a1, b1⟩ := kx E ce q u t T'.heap (locs ++ L) e1.symm (by rw [← e2]; exact X'.warmed.alike) hp hb k1 k2 k3 (by rw [e1]; exact hce) hcv hcl T' rfl X'
    exact ⟨t2, st.trans a1, b1⟩
theorem vx_callv {S SX : Type} {post : S → Prop} {px : SX → Prop} {B : S → State → Prop} {BX : String → SX → State → Prop} {AX : Nat → Prop} (hr : vx_Run p l e R s m args below meth c H locs cells slots mc ms (F0 m pc ls st0) rest (va_Qv post B A1 a) (vx_X px BX AX) free) (hS : va_S A0 H0 H locs) (hA : ∀ q, q < H.size → A1 q → A0 q) (hf : ∀ q, free q → A0 q) (hAX : ∀ q, q < H.size → AX q → A0 q)
    (kx : ∀ (E : String) (ce : Cell) (q9 : Addr) (u : SX) (t : State) (H1 : Heap) (locs1 : List Loc), t.heap = H1 → s.vm.Alike t.vm → px u → BX E u t → H.size ≤ H1.size → (∀ q : Nat, q < H.size → ¬ AX q → H1[q]? = H[q]?) → va_S A0 H0 H1 locs1 → H1[q9]? = some ce → ce.vm = .none → s.vm.findClass E = some ce.cls → vx_W p l e R s m args below meth c H1 locs1 (cells + mc) (slots + ms) Q (F0 m pc ls rest) q9)
    (kk : ∀ (u : S) (t : State) (H1 : Heap) (locs1 : List Loc), t.heap = H1 → s.vm.Alike t.vm → post u → B u t → H.size ≤ H1.size → (∀ q : Nat, q < H.size → ¬ A1 q → H1[q]? = H[q]?) → va_S A0 H0 H1 locs1 → W p l e R s m args below meth c H1 locs1 (cells + mc) (slots + ms) Q (F0 m (pc + 3) ls (rest))) : W p l e R s m args below meth c H locs cells slots Q (F0 m pc ls st0) := by
  intro T hT X
  rcases hr T hT X with ⟨v, st₀, t, T', L, h0, X', hL, e1, e2, ⟨⟨u, hv, hp, hb⟩, hF⟩, st⟩ | ⟨q, st₀, t, T', L, E, ce, h0, X', hL, e1, e2, ⟨u, hp, hb, hF⟩, hce, hcv, hcl, st⟩
  · cases hv
    obtain ⟨k1, k2, k3⟩ := vx_keep h0 e1 hS hA hf hL hF
    obtain ⟨t2, a1, b1⟩ := kk u t T'.heap (locs ++ L) e1.symm (by rw [← e2]; exact X'.warmed.alike) hp hb k1 k2 k3 T' rfl X'
    exact ⟨t2, st t2 a1, b1⟩
  · obtain ⟨k1, k2, k3⟩ := vx_keep h0 e1 hS hAX hf hL hF
    obtain ⟨t2, a1, b1⟩ := kx E ce q u t T'.heap (locs ++ L) e1.symm (by rw [← e2]; exact X'.warmed.alike) hp hb k1 k2 k3 (by rw [e1]; exact hce) hcv hcl T' rfl X'
    exact ⟨t2, st.trans a1, b1⟩
end Rows
section Ends
variable {p : Program} {l : Launch} {e : Env} {R : Room} {s : State} {m : MethodId} {args : Array Value} {below : List Frame} {meth : Method} {c : Code} {H : Heap} {locs : List Loc} {cells slots : Nat} {Q : State → Prop}
variable {mc ms : Nat} {free : Addr → Prop} {A0 A1 : Nat → Prop} {H0 : Heap} {a : Array Value} {ls : Array Slot} {st0 rest : List Value}
variable {Qc : Array Value → State → Outcome → State → Prop} {XC : String → State → State → Prop}
/-- what a body that may throw owes at its end -/
def vx_MQ (below : List Frame) (Qc : Array Value → State → Outcome → State → Prop) (XC : String → State → State → Prop) (a : Array Value) (s : State) (mc ms : Nat) (free : Addr → Prop) : State → Prop := fun t =>
  ∃ o, t.status = .running ∧ Ended t below o ∧ vx_Q Qc XC mc ms free a s o t
theorem vx_ret {g : JFrame} {mc ms : Nat} (k : W p l e R s m args below meth c H locs cells slots (MQ below Qc args s mc ms free) g) : W p l e R s m args below meth c H locs cells slots (vx_MQ below Qc XC args s mc ms free) g := by
  intro T hT X
  obtain ⟨t, a1, o, b1, b2, b3, b4⟩ := k T hT X
  exact ⟨t, a1, o, b1, b2, Or.inl ⟨b3, b4⟩⟩
/-- not caught here: it goes on to the caller -/
theorem vx_widen {g : JFrame} {q : Addr} {k n : Nat} (h1 : cells ≤ k) (h2 : slots ≤ n) (kk : vx_W p l e R s m args below meth c H locs k n Q g q) : vx_W p l e R s m args below meth c H locs cells slots Q g q := fun T hT X => kk T hT (stand_widen X h1 h2)
theorem vx_out {pc : Nat} {E : String} {ce : Cell} {q : Addr} {mc ms : Nat} (hout : ∀ x ∈ c.exceptionTable.toList, covers x pc = false) (hlocks : meth.locks = false) (hcell : H[q]? = some ce) (hv : ce.vm = .none) (hcl : s.vm.findClass E = some ce.cls)
    (hx : ∀ t : State, t.heap = H → s.vm.Alike t.vm → XC E s t) (hf : ∀ z ∈ locs, free z.base) (hc : cells ≤ mc) (hs : slots ≤ ms) :
    vx_W p l e R s m args below meth c H locs cells slots (vx_MQ below Qc XC args s mc ms free) (F0 m pc ls rest) q := by
  intro T hT X
  obtain ⟨st1, hrun, hend, hW, hsm⟩ := X.leaveThrown q (g := F0 m pc ls rest) rfl rfl rfl hout hlocks
  have hcell9 : (T.setFrames (.throwing q :: below)).heap[q]? = some ce := by
    show T.heap[q]? = some ce
    rw [hT]; exact hcell
  exact ⟨_, st1, .threw q, hrun, hend, Or.inr ⟨q, rfl, E, ce, locs, hx _ hT hW.alike, hcell9, hv, hcl, hW, hsm.mono hc hs, hf⟩⟩
theorem vx_frame {U : State} {k n : Nat} (h : s.sameButNew ({ U with vm := s.vm } : State) locs k n) : s.heap.size ≤ U.heap.size ∧ ∀ q : Nat, q < s.heap.size → (∀ z ∈ locs, z.base ≠ q) → U.heap[q]? = s.heap[q]? := by
  obtain ⟨-, h2, -, -, -, h6⟩ := h
  refine ⟨h2, fun q hq hz => ?_⟩
  obtain ⟨c9, e1, e2, e3, e4⟩ := h6 q _ (Array.getElem?_eq_getElem hq)
  have hs : c9.slots = (s.heap[q]).slots := Array.ext_getElem? fun i => e4 i fun hm => hz _ hm rfl
  have h9 : c9 = s.heap[q] := by
    rw [hs] at e2
    exact e2
  have e5 : U.heap[q]? = some c9 := e1
  rw [e5, h9, Array.getElem?_eq_getElem hq]
/-- the words of a throw but the four that speak of the heap -/
def vx_no (w : Cond) : Bool := decide (w ≠ .isRef (.static Bundle.tN "UNASSIGNED_STACK" Bundle.steD)) && decide (w ≠ .isRef (.static Bundle.tN "SUPPRESSED_SENTINEL" Bundle.listD)) && decide (w ≠ .laysStatic Bundle.tN "UNASSIGNED_STACK" Bundle.steD) && decide (w ≠ .laysStatic Bundle.tN "SUPPRESSED_SENTINEL" Bundle.listD)
def vx_at0 (own : String) (ic : Nat) (X : String) (names : List String) : List Cond := (Bundle.ownAtoms0 own ic X names).filter vx_no
def vx_atS (own : String) (ic : Nat) (X : String) (names : List String) : List Cond := (Bundle.ownAtoms own ic X names).filter vx_no
/-- a word that the tables alone decide, or a good one -/
def vx_ot (w : Cond) : Bool := w.onTables || goodWord w
theorem vx_ot_at {args a' : Array Value} {s U : State} {w : Cond} (hW : s.WarmedH U.vm) (hvm : s.vm = U.vm) (hg : vx_ot w = true) (h : w.before args s = true) : w.before a' U = true := by
  simp only [vx_ot, Bool.or_eq_true] at hg
  rcases hg with hg | hg
  · exact va_tabs hg hvm h
  · exact word_at hW (good_of_word hg) h
/-- a list's words: the good ones out of the method's own list, the others by premises of their own -/
theorem vx_hat {args : Array Value} {s : State} {L B : List Cond} (h1 : ∀ w ∈ L.filter goodWord, w.before args s = true) (h2 : ∀ w ∈ L.filter (fun w => !goodWord w), w ∈ B) (h3 : ∀ w ∈ B, w.before args s = true) : ∀ w ∈ L, w.before args s = true := by
  intro w hw
  by_cases g : goodWord w = true
  · exact h1 w (List.mem_filter.mpr ⟨hw, g⟩)
  · refine h3 w (h2 w (List.mem_filter.mpr ⟨hw, ?_⟩))
    show (!goodWord w) = true
    cases hgw : goodWord w
    · rfl
    · exact absurd hgw g
theorem vx_c {args : Array Value} {s : State} {w : Cond} {B : List Cond} (h : w.before args s = true) (t : ∀ w ∈ B, w.before args s = true) : ∀ w' ∈ w :: B, w'.before args s = true := fun w' h' => (List.mem_cons.mp h').elim (fun e => by rw [e]; exact h) (t w')
theorem vx_n {args : Array Value} {s : State} : ∀ w ∈ ([] : List Cond), w.before args s = true := fun _ h => nomatch h
theorem vx_own {args : Array Value} {s : State} {L : List Cond} (h1 : ∀ w ∈ L.filter vx_no, w.before args s = true)
    (hU : (Cond.isRef (.static Bundle.tN "UNASSIGNED_STACK" Bundle.steD)).before args s = true) (hN : (Cond.isRef (.static Bundle.tN "SUPPRESSED_SENTINEL" Bundle.listD)).before args s = true)
    (lU : (Cond.laysStatic Bundle.tN "UNASSIGNED_STACK" Bundle.steD).before args s = true) (lN : (Cond.laysStatic Bundle.tN "SUPPRESSED_SENTINEL" Bundle.listD).before args s = true) : ∀ w ∈ L, w.before args s = true := by
  intro w hw
  by_cases e1 : w = .isRef (.static Bundle.tN "UNASSIGNED_STACK" Bundle.steD)
  · rw [e1]; exact hU
  · by_cases e2 : w = .isRef (.static Bundle.tN "SUPPRESSED_SENTINEL" Bundle.listD)
    · rw [e2]; exact hN
    · by_cases e3 : w = .laysStatic Bundle.tN "UNASSIGNED_STACK" Bundle.steD
      · rw [e3]; exact lU
      · by_cases e4 : w = .laysStatic Bundle.tN "SUPPRESSED_SENTINEL" Bundle.listD
        · rw [e4]; exact lN
        · exact h1 w (List.mem_filter.mpr ⟨hw, by unfold vx_no; rw [decide_eq_true e1, decide_eq_true e2, decide_eq_true e3, decide_eq_true e4]; rfl⟩)
/-- where a static field lies, its class's statics cell in H -/
def vx_L (C n d : String) (A : Nat → Prop) (U : State) (H : Heap) : Prop := ∃ (c : ClassId) (k : Class) (i : Nat) (f : Field) (a : Nat) (cell : Cell), U.vm.findClass C = some c ∧ U.fieldFound? C n d = some (c, k, i, f) ∧ f.isStatic = true ∧ k.statics = some a ∧ H[a]? = some cell ∧ cell.vm.isStatics = true ∧ cell.cls = c ∧ f.slot < cell.slots.size ∧ k.staticTypes[f.slot]? = some f.type ∧ ¬ A a
theorem vx_L.moved {C n d : String} {A : Nat → Prop} {u U : State} {H : Heap} (hvm : u.vm.Alike U.vm) (h : vx_L C n d A u H) : vx_L C n d A U H := by
  obtain ⟨c, k, i, f, a, cell, h1, h2, h3, h4, h5, h6, h7, h8, h9, h10⟩ := h
  obtain ⟨k', hi', he⟩ := State.fieldFound?_setVm hvm h2
  exact ⟨c, k', i, f, a, cell, by rw [hvm.findClass]; exact h1, hi', h3, by rw [he]; exact h4, h5, h6, h7, h8, by rw [he]; exact h9, h10⟩
theorem vx_L.kept {C n d : String} {A : Nat → Prop} {U : State} {H H1 : Heap} (h : vx_L C n d A U H) (hq : ∀ a : Nat, a < H.size → ¬ A a → H1[a]? = H[a]?) : vx_L C n d A U H1 := by
  obtain ⟨c, k, i, f, a, cell, h1, h2, h3, h4, h5, h6, h7, h8, h9, h10⟩ := h
  exact ⟨c, k, i, f, a, cell, h1, h2, h3, h4, by rw [hq a (Array.getElem?_eq_some_iff.mp h5).1 h10]; exact h5, h6, h7, h8, h9, h10⟩
theorem vx_L.narrow {C n d : String} {A B : Nat → Prop} {U : State} {H : Heap} (h : vx_L C n d A U H) (hAB : ∀ q, B q → A q) : vx_L C n d B U H := by
  obtain ⟨c, k, i, f, a, cell, h1, h2, h3, h4, h5, h6, h7, h8, h9, h10⟩ := h
  exact ⟨c, k, i, f, a, cell, h1, h2, h3, h4, h5, h6, h7, h8, h9, fun z => h10 (hAB _ z)⟩
theorem vx_L.word {C n d : String} {A : Nat → Prop} {s : State} {args : Array Value} (h : vx_L C n d A s s.heap) : (Cond.laysStatic C n d).before args s = true := by
  obtain ⟨c, k, i, f, a, cell, h1, h2, h3, h4, h5, h6, h7, h8, h9, -⟩ := h
  show (Cond.laysStatic C n d).holds args s none s [] = true
  exact Cond.laysStatic_of h1 h2 h3 h4 h5 h6 h7 h8 h9
/-- .. and what it holds: null or some reference -/
def vx_Zq (C n d : String) (A : Nat → Prop) (U : State) (H : Heap) : Prop := va_Zq C n d A U H ∧ vx_L C n d A U H
theorem vx_Zq.moved {C n d : String} {A : Nat → Prop} {u U : State} {H : Heap} (hvm : u.vm.Alike U.vm) (h : vx_Zq C n d A u H) : vx_Zq C n d A U H := ⟨va_Zq.moved hvm h.1, vx_L.moved hvm h.2⟩
theorem vx_Zq.kept {C n d : String} {A : Nat → Prop} {U : State} {H H1 : Heap} (h : vx_Zq C n d A U H) (hq : ∀ a : Nat, a < H.size → ¬ A a → H1[a]? = H[a]?) : vx_Zq C n d A U H1 := ⟨va_Zq.kept h.1 hq, vx_L.kept h.2 hq⟩
theorem vx_Zq.narrow {C n d : String} {A B : Nat → Prop} {U : State} {H : Heap} (h : vx_Zq C n d A U H) (hAB : ∀ q, B q → A q) : vx_Zq C n d B U H := ⟨va_Zq.narrow h.1 hAB, vx_L.narrow h.2 hAB⟩
theorem vx_Zqof {args : Array Value} {s : State} {C n d : String} {A : Nat → Prop} (hl : (Cond.laysStatic C n d).before args s = true) (hini : (Cond.initialized C).before args s = true) (h : (Cond.isRef (.static C n d)).before args s = true) (hA : ∀ a : Nat, a < s.heap.size → ¬ A a) : vx_Zq C n d A s s.heap := by
  refine ⟨va_Zqof hl hini h hA, ?_⟩
  obtain ⟨c, k, i, f, a, cell, h1, h2, h3, h4, h5, h6, h7, h8, h9⟩ := Cond.laysStatic_spec hl
  exact ⟨c, k, i, f, a, cell, h1, h2, h3, h4, h5, h6, h7, h8, h9, hA a (Array.getElem?_eq_some_iff.mp h5).1⟩
theorem vx_isRef {C n d : String} {v : Value} {A : Nat → Prop} {s : State} {args : Array Value} (h : va_Z C n d v A s s.heap) (hv : v.isRef = true) : (Cond.isRef (.static C n d)).before args s = true := by
  obtain ⟨cf, kf, fi, f, a, cell, h1, h2, h3, h4, h5, h6, h7, -⟩ := h
  have he : (Term.static C n d).eval args s none [] s = some v := by
    simp [Term.eval, State.fieldNamed?, h1, h2, h4, h5, h6, h7]
  simp only [Cond.before, Cond.holds, Cond.value, he]
  cases v <;> simp_all [Value.isRef]
theorem vx_isRefq {C n d : String} {A : Nat → Prop} {s : State} {args : Array Value} (h : va_Zq C n d A s s.heap) : (Cond.isRef (.static C n d)).before args s = true := by
  rcases h with h | ⟨t, h⟩
  · exact vx_isRef h rfl
  · exact vx_isRef h rfl
/-- the same frame, seen from here: as if the method were called anew in this heap -/
theorem vx_rebase {T : State} (X : Stand p l e R s m args below meth c T locs cells slots) {R' : Room} (hf : R'.frames ≤ R.frames) (hl : R'.locals ≤ R.locals) (hc : cells + R'.cells ≤ R.cells) (hs : slots + R'.slots ≤ R.slots) :
    Stand p l e R' ((T.setVm s.vm).setFrames (.invoking m args :: below)) m args below meth c T [] 0 0 := by
  have htop : (T.setVm s.vm).topJava?.isSome := X.here.top
  have hF : ((T.setVm s.vm).setFrames (.invoking m args :: below)).frames = .invoking m args :: below := State.frames_setFrames _ (State.cur_lt_of_top htop)
  obtain ⟨g₀, hg0⟩ := Option.isSome_iff_exists.mp htop
  obtain ⟨r, hr⟩ := State.topJava?_eq_some.mp hg0
  have hl9 : e.platform.stackLimits (T.setVm s.vm).me = e.platform.stackLimits s.me := X.limits
  have hb9 : (T.setVm s.vm).me.stackBytes = s.me.stackBytes := X.bytes
  refine ⟨X.admits, X.cas, X.clock, hF, ?_, X.hears, X.method, X.code, X.here, X.tail, X.warmed, ?_, ?_, ?_⟩
  · have h := X.room
    have hU : ((T.setVm s.vm).setFrames (.invoking m args :: below)).localsInUse = s.localsInUse := by
      rw [State.localsInUse_invoking hF (meth := meth) (c := c) X.method X.code, State.localsInUse_invoking X.frames X.method X.code]
    simp only [State.hasRoom, Bool.and_eq_true, decide_eq_true_eq] at h ⊢
    obtain ⟨⟨⟨⟨h1, h2, h3, h4, h5, h6⟩, h7⟩, h8⟩, h9⟩ := h
    rw [X.frames, List.length_cons] at h2 h3
    have q1 := X.heapSize
    have q2 := X.used
    simp only [hF, hU, List.length_cons, State.stackLimits_setFrames, State.stackBytes_setFrames, hl9, hb9]
    refine ⟨⟨⟨⟨by omega, by omega, by omega, by omega, by omega, h6⟩, ?_⟩, ?_⟩, X.book⟩
    · show T.heap.size + R'.cells ≤ e.platform.maxCells
      omega
    · show T.slotsUsed + R'.slots ≤ e.platform.maxSlots
      omega
  · rw [State.stackLimits_setFrames]; rfl
  · rw [State.stackBytes_setFrames]; rfl
  · refine ⟨?_, Nat.le_refl _, Nat.le_refl _, ?_, ?_, fun a c9 h9 => ⟨c9, h9, rfl, rfl, fun _ _ => rfl⟩⟩
    · obtain ⟨t, ht, -⟩ := State.frames_cons hr
      show T.setVm s.vm = { ((T.setVm s.vm).setFrames (.invoking m args :: below)).setFrames (T.setVm s.vm).frames with heap := T.heap, slotsUsed := T.slotsUsed }
      rw [State.setFrames_setFrames, State.setFrames_self ht]
      rfl
    · show T.slotsUsed = T.slotsUsed + ((T.heap.toList.drop T.heap.size).map (·.slots.size)).sum
      rw [List.drop_eq_nil_of_le (Nat.le_of_eq Array.length_toList)]
      rfl
    · show ((T.heap.toList.drop T.heap.size).map (·.slots.size)).sum ≤ 0
      rw [List.drop_eq_nil_of_le (Nat.le_of_eq Array.length_toList)]
      exact Nat.le_refl _
/-- 'throw new E()': new; dup; invokespecial; athrow -/
theorem vx_throw0 {cc : ByteArray} {pc : Nat} (hexec : p.tables.exec = Jvm.exec) (hb : c.code = cc) (hl : l.stackTraces = false) {own cls : String} {names : List String} {ik ic mc ms : Nat} {A : Nat → Prop}
    (hown : s.vm.findClass own = some m.cls) (hcls : Bundle.fit cls = true) (hnames : ∀ n ∈ names, Bundle.fit n = true)
    (hk : (Cond.classLink own ik cls).before args s = true) (hini : (Cond.initialized cls).before args s = true) (hat : ∀ w ∈ vx_at0 own ic cls names, w.before args s = true)
    (hgood : ∀ w ∈ Cond.classLink own ik cls :: Cond.initialized cls :: vx_at0 own ic cls names, vx_ot w = true)
    (hU : vx_Zq Bundle.tN "UNASSIGNED_STACK" Bundle.steD A s s.heap) (hN : vx_Zq Bundle.tN "SUPPRESSED_SENTINEL" Bundle.listD A s s.heap) (hS : va_S A s.heap H locs) (hsize : ls.size = c.maxLocals)
    (d0 : decode cc pc = .ok (.new ik, 3)) (d3 : decode cc (pc + 3) = .ok (.dup, 1)) (d4 : decode cc (pc + 4) = .ok (.invokespecial ic, 3)) (d7 : decode cc (pc + 7) = .ok (.athrow, 1))
    (hout : ∀ x ∈ c.exceptionTable.toList, covers x (pc + 7) = false)
    (hRframes : names.length + 3 < R.frames) (hRlocals : (rest.map fun v => v.category).sum + (13 * (names.length + 1) + 42) ≤ R.locals) (hRcells : cells + 1 ≤ R.cells) (hRslots : slots + 6 ≤ R.slots) (hlocks : meth.locks = false)
    (hx : ∀ t : State, s.vm.Alike t.vm → H.size ≤ t.heap.size → (∀ q : Nat, q < H.size → t.heap[q]? = H[q]?) → XC cls s t)
    (hf : ∀ z ∈ locs, free z.base) (hc : cells + 1 ≤ mc) (hs : slots + 6 ≤ ms) :
    W p l e R s m args below meth c H locs cells slots (vx_MQ below Qc XC args s mc ms free) (F0 m pc ls rest) := by
  intro T hT X
  have htr : e.platform.stackTraces = false := (show e.platform.stackTraces = l.stackTraces by rw [X.admits.platform]).trans hl
  have Y := vx_rebase X (R' := { frames := R.frames, locals := R.locals, cells := 1, slots := 6 }) (Nat.le_refl _) (Nat.le_refl _) hRcells hRslots
  obtain ⟨s', hA⟩ : ∃ z, z = (T.setVm s.vm).setFrames (.invoking m args :: below) := ⟨_, rfl⟩
  rw [← hA] at Y
  have hvm : s'.vm = s.vm := by rw [hA]; rfl
  have hhp : s'.heap = H := by rw [hA]; exact hT
  have hW0 : s.WarmedH s'.vm := by rw [hvm]; exact State.WarmedH.refl s
  have hat' : ∀ w ∈ vx_at0 own ic cls names, w.before args s' = true := fun w hw => vx_ot_at hW0 hvm.symm (hgood w (List.mem_cons_of_mem _ (List.mem_cons_of_mem _ hw))) (hat w hw)
  have hk' : (Cond.classLink own ik cls).before args s' = true := vx_ot_at hW0 hvm.symm (hgood _ List.mem_cons_self) hk
  have hini' : (Cond.initialized cls).before args s' = true := vx_ot_at hW0 hvm.symm (hgood _ (List.mem_cons_of_mem _ List.mem_cons_self)) hini
  have hU' : vx_Zq Bundle.tN "UNASSIGNED_STACK" Bundle.steD A s' s'.heap := by rw [hhp]; exact vx_Zq.moved hW0.alike (hU.kept hS.2.1)
  have hN' : vx_Zq Bundle.tN "SUPPRESSED_SENTINEL" Bundle.listD A s' s'.heap := by rw [hhp]; exact vx_Zq.moved hW0.alike (hN.kept hS.2.1)
  have h : ∀ w ∈ Bundle.ownAtoms0 own ic cls names, w.before args s' = true := vx_own hat' (vx_isRefq hU'.1) (vx_isRefq hN'.1) hU'.2.word hN'.2.word
  have hown' : s'.vm.findClass own = some m.cls := by rw [hvm]; exact hown
  have hins : (Cond.instantiable cls 6).before args s' = true := h _ (by simp [Bundle.ownAtoms0])
  obtain ⟨vm₁, cX, kX, hfX, hkX, -, -, X₁, st1⟩ := Y.newCold hexec (own := own) (C := cls) (index := ik) (n := 6) hown' hk' hins hini'
    (g := F0 m pc ls rest) rfl (by rw [hb]; exact d0) (Nat.le_refl _) (Nat.le_refl _)
  generalize hT1 : (T.setVm vm₁).pushCell { cls := cX, slots := kX.instanceTypes.map defaultValue, vm := .none } = T1 at X₁ st1
  have hcat : (Value.ref T.heap.size).category = 1 := rfl
  have hcellA : T1.heap[T.heap.size]? = some (freshCell cX kX) := by rw [← hT1]; exact State.heap_pushCell_size _ _
  have d3' : decode c.code (pc + 3) = .ok (.dup, 1) := by rw [hb]; exact d3
  obtain ⟨U, hsteps, hrun, hend, hW, hsame, ce, hce, hO⟩ := X₁.ctorThrow0 hexec htr (own := own) (cls := cls) (names := names) (ic := ic) hown' hcls hnames h (fun x hx => nomatch hx) hfX hkX hcellA (by rw [hhp, hT]; exact Nat.le_refl _)
    (g := { method := m, pc := pc + 4, locals := ls, stack := .ref T.heap.size :: .ref T.heap.size :: rest, locked := none }) rfl hsize rfl rfl (rest := rest) rfl
    (by rw [hb]; exact d4) (by rw [hb]; exact d7) hout hRframes (by simp only [List.map_cons, List.sum_cons, hcat]; omega) hlocks
  obtain ⟨f1, f2⟩ := vx_frame hsame
  rw [hhp] at f1 f2
  have hWs : s.WarmedH U.vm := State.WarmedH.trans hW0 hW
  have hcl : s.vm.findClass cls = some ce.cls := by
    have h9 := hO.cls
    rw [hvm] at h9
    exact h9
  have hall : s.sameButNew ({ U with vm := s.vm } : State) locs mc ms := by
    subst hA
    obtain ⟨e1, e2⟩ := hsame
    rw [State.setFrames_setFrames] at e1
    have h2 : (T.setVm s.vm).sameButNew ({ U with vm := s.vm } : State) [] (0 + 1) (0 + 6) := ⟨e1, e2⟩
    have h3 := X.same.trans h2
    rw [List.append_nil] at h3
    exact h3.mono hc hs
  refine ⟨U, ?_, .threw T.heap.size, hrun, hend, Or.inr ⟨T.heap.size, rfl, cls, ce, locs, hx U hWs.alike f1 (fun q hq => f2 q hq (fun z hz => nomatch hz)), hce, hO.vm, hcl, hWs, hall, hf⟩⟩
  refine st1 _ ?_
  show Steps p.tables e below (T1.setTop { method := m, pc := pc + 3, locals := ls, stack := .ref T.heap.size :: rest, locked := none }) _
  jvm_step X₁.here [X₁.here.top, hexec, d3', Value.category]
  exact hsteps
/-- 'throw new E("text")': new; dup; ldc; invokespecial; athrow -/
theorem vx_throwS {cc : ByteArray} {pc : Nat} (hexec : p.tables.exec = Jvm.exec) (hb : c.code = cc) (hl : l.stackTraces = false) {own cls text : String} {names : List String} {ik is ic mc ms sa : Nat} {A : Nat → Prop}
    (hown : s.vm.findClass own = some m.cls) (hcls : Bundle.fit cls = true) (hnames : ∀ n ∈ names, Bundle.fit n = true)
    (hk : (Cond.classLink own ik cls).before args s = true) (hini : (Cond.initialized cls).before args s = true) (hstr : vk_R own is text sa s) (hat : ∀ w ∈ vx_atS own ic cls names, w.before args s = true)
    (hgood : ∀ w ∈ Cond.classLink own ik cls :: Cond.initialized cls :: vx_atS own ic cls names, vx_ot w = true)
    (hU : vx_Zq Bundle.tN "UNASSIGNED_STACK" Bundle.steD A s s.heap) (hN : vx_Zq Bundle.tN "SUPPRESSED_SENTINEL" Bundle.listD A s s.heap) (hS : va_S A s.heap H locs) (hsize : ls.size = c.maxLocals)
    (d0 : decode cc pc = .ok (.new ik, 3)) (d3 : decode cc (pc + 3) = .ok (.dup, 1)) (d4 : decode cc (pc + 4) = .ok (.ldc is, 2)) (d6 : decode cc (pc + 6) = .ok (.invokespecial ic, 3)) (d9 : decode cc (pc + 9) = .ok (.athrow, 1))
    (hout : ∀ x ∈ c.exceptionTable.toList, covers x (pc + 9) = false)
    (hRframes : names.length + 3 < R.frames) (hRlocals : (rest.map fun v => v.category).sum + (13 * (names.length + 1) + 43) ≤ R.locals) (hRcells : cells + 1 ≤ R.cells) (hRslots : slots + 6 ≤ R.slots) (hlocks : meth.locks = false)
    (hx : ∀ t : State, s.vm.Alike t.vm → H.size ≤ t.heap.size → (∀ q : Nat, q < H.size → t.heap[q]? = H[q]?) → XC cls s t)
    (hf : ∀ z ∈ locs, free z.base) (hc : cells + 1 ≤ mc) (hs : slots + 6 ≤ ms) :
    W p l e R s m args below meth c H locs cells slots (vx_MQ below Qc XC args s mc ms free) (F0 m pc ls rest) := by
  intro T hT X
  have htr : e.platform.stackTraces = false := (show e.platform.stackTraces = l.stackTraces by rw [X.admits.platform]).trans hl
  have Y := vx_rebase X (R' := { frames := R.frames, locals := R.locals, cells := 1, slots := 6 }) (Nat.le_refl _) (Nat.le_refl _) hRcells hRslots
  obtain ⟨s', hA⟩ : ∃ z, z = (T.setVm s.vm).setFrames (.invoking m args :: below) := ⟨_, rfl⟩
  rw [← hA] at Y
  have hvm : s'.vm = s.vm := by rw [hA]; rfl
  have hhp : s'.heap = H := by rw [hA]; exact hT
  have hW0 : s.WarmedH s'.vm := by rw [hvm]; exact State.WarmedH.refl s
  have hat' : ∀ w ∈ vx_atS own ic cls names, w.before args s' = true := fun w hw => vx_ot_at hW0 hvm.symm (hgood w (List.mem_cons_of_mem _ (List.mem_cons_of_mem _ hw))) (hat w hw)
  have hk' : (Cond.classLink own ik cls).before args s' = true := vx_ot_at hW0 hvm.symm (hgood _ List.mem_cons_self) hk
  have hini' : (Cond.initialized cls).before args s' = true := vx_ot_at hW0 hvm.symm (hgood _ (List.mem_cons_of_mem _ List.mem_cons_self)) hini
  have hU' : vx_Zq Bundle.tN "UNASSIGNED_STACK" Bundle.steD A s' s'.heap := by rw [hhp]; exact vx_Zq.moved hW0.alike (hU.kept hS.2.1)
  have hN' : vx_Zq Bundle.tN "SUPPRESSED_SENTINEL" Bundle.listD A s' s'.heap := by rw [hhp]; exact vx_Zq.moved hW0.alike (hN.kept hS.2.1)
  have h : ∀ w ∈ Bundle.ownAtoms own ic cls names, w.before args s' = true := vx_own hat' (vx_isRefq hU'.1) (vx_isRefq hN'.1) hU'.2.word hN'.2.word
  have hown' : s'.vm.findClass own = some m.cls := by rw [hvm]; exact hown
  have hins : (Cond.instantiable cls 6).before args s' = true := h _ (by simp [Bundle.ownAtoms])
  obtain ⟨vm₁, cX, kX, hfX, hkX, -, -, X₁, st1⟩ := Y.newCold hexec (own := own) (C := cls) (index := ik) (n := 6) hown' hk' hins hini'
    (g := F0 m pc ls rest) rfl (by rw [hb]; exact d0) (Nat.le_refl _) (Nat.le_refl _)
  generalize hT1 : (T.setVm vm₁).pushCell { cls := cX, slots := kX.instanceTypes.map defaultValue, vm := .none } = T1 at X₁ st1
  have hcat : (Value.ref T.heap.size).category = 1 := rfl
  have hcellA : T1.heap[T.heap.size]? = some (freshCell cX kX) := by rw [← hT1]; exact State.heap_pushCell_size _ _
  have d3' : decode c.code (pc + 3) = .ok (.dup, 1) := by rw [hb]; exact d3
  have d4' : decode c.code (pc + 4) = .ok (.ldc is, 2) := by rw [hb]; exact d4
  have hstr' : vk_R own is text sa s' := vk_R.warm hW0 hstr
  obtain ⟨U, hsteps, hrun, hend, hW, hsame, ce, hce, hO⟩ := X₁.ctorThrowS hexec htr (own := own) (cls := cls) (names := names) (ic := ic) hown' hcls hnames h (fun x hx => nomatch hx) hfX hkX hcellA (by rw [hhp, hT]; exact Nat.le_refl _) (msg := .ref sa) rfl
    (g := { method := m, pc := pc + 6, locals := ls, stack := .ref sa :: .ref T.heap.size :: .ref T.heap.size :: rest, locked := none }) rfl hsize rfl rfl (rest := rest) rfl
    (by rw [hb]; exact d6) (by rw [hb]; exact d9) hout hRframes (by simp only [List.map_cons, List.sum_cons, hcat]; omega) hlocks
  obtain ⟨f1, f2⟩ := vx_frame hsame
  rw [hhp] at f1 f2
  have hWs : s.WarmedH U.vm := State.WarmedH.trans hW0 hW
  have hcl : s.vm.findClass cls = some ce.cls := by
    have h9 := hO.cls
    rw [hvm] at h9
    exact h9
  have hall : s.sameButNew ({ U with vm := s.vm } : State) locs mc ms := by
    subst hA
    obtain ⟨e1, e2⟩ := hsame
    rw [State.setFrames_setFrames] at e1
    have h2 : (T.setVm s.vm).sameButNew ({ U with vm := s.vm } : State) [] (0 + 1) (0 + 6) := ⟨e1, e2⟩
    have h3 := X.same.trans h2
    rw [List.append_nil] at h3
    exact h3.mono hc hs
  refine ⟨U, ?_, .threw T.heap.size, hrun, hend, Or.inr ⟨T.heap.size, rfl, cls, ce, locs, hx U hWs.alike f1 (fun q hq => f2 q hq (fun z hz => nomatch hz)), hce, hO.vm, hcl, hWs, hall, hf⟩⟩
  refine st1 _ ?_
  show Steps p.tables e below (T1.setTop { method := m, pc := pc + 3, locals := ls, stack := .ref T.heap.size :: rest, locked := none }) _
  jvm_step X₁.here [X₁.here.top, hexec, d3', Value.category]
  exact X₁.ldcString hexec (own := own) (text := text) (index := is) (a := sa) hown' hstr'.1 hstr'.2
    (g := { method := m, pc := pc + 4, locals := ls, stack := .ref T.heap.size :: .ref T.heap.size :: rest, locked := none }) rfl d4' _ hsteps
/-- 'throw new E("text")', the text by a wide index -/
theorem vx_throwSW {cc : ByteArray} {pc : Nat} (hexec : p.tables.exec = Jvm.exec) (hb : c.code = cc) (hl : l.stackTraces = false) {own cls text : String} {names : List String} {ik is ic mc ms sa : Nat} {A : Nat → Prop}
    (hown : s.vm.findClass own = some m.cls) (hcls : Bundle.fit cls = true) (hnames : ∀ n ∈ names, Bundle.fit n = true)
    (hk : (Cond.classLink own ik cls).before args s = true) (hini : (Cond.initialized cls).before args s = true) (hstr : vk_R own is text sa s) (hat : ∀ w ∈ vx_atS own ic cls names, w.before args s = true)
    (hgood : ∀ w ∈ Cond.classLink own ik cls :: Cond.initialized cls :: vx_atS own ic cls names, vx_ot w = true)
    (hU : vx_Zq Bundle.tN "UNASSIGNED_STACK" Bundle.steD A s s.heap) (hN : vx_Zq Bundle.tN "SUPPRESSED_SENTINEL" Bundle.listD A s s.heap) (hS : va_S A s.heap H locs) (hsize : ls.size = c.maxLocals)
    (d0 : decode cc pc = .ok (.new ik, 3)) (d3 : decode cc (pc + 3) = .ok (.dup, 1)) (d4 : decode cc (pc + 4) = .ok (.ldc_w is, 3)) (d7 : decode cc (pc + 7) = .ok (.invokespecial ic, 3)) (d10 : decode cc (pc + 10) = .ok (.athrow, 1))
    (hout : ∀ x ∈ c.exceptionTable.toList, covers x (pc + 10) = false)
    (hRframes : names.length + 3 < R.frames) (hRlocals : (rest.map fun v => v.category).sum + (13 * (names.length + 1) + 43) ≤ R.locals) (hRcells : cells + 1 ≤ R.cells) (hRslots : slots + 6 ≤ R.slots) (hlocks : meth.locks = false)
    (hx : ∀ t : State, s.vm.Alike t.vm → H.size ≤ t.heap.size → (∀ q : Nat, q < H.size → t.heap[q]? = H[q]?) → XC cls s t)
    (hf : ∀ z ∈ locs, free z.base) (hc : cells + 1 ≤ mc) (hs : slots + 6 ≤ ms) :
    W p l e R s m args below meth c H locs cells slots (vx_MQ below Qc XC args s mc ms free) (F0 m pc ls rest) := by
  intro T hT X
  have htr : e.platform.stackTraces = false := (show e.platform.stackTraces = l.stackTraces by rw [X.admits.platform]).trans hl
  have Y := vx_rebase X (R' := { frames := R.frames, locals := R.locals, cells := 1, slots := 6 }) (Nat.le_refl _) (Nat.le_refl _) hRcells hRslots
  obtain ⟨s', hA⟩ : ∃ z, z = (T.setVm s.vm).setFrames (.invoking m args :: below) := ⟨_, rfl⟩
  rw [← hA] at Y
  have hvm : s'.vm = s.vm := by rw [hA]; rfl
  have hhp : s'.heap = H := by rw [hA]; exact hT
  have hW0 : s.WarmedH s'.vm := by rw [hvm]; exact State.WarmedH.refl s
  have hat' : ∀ w ∈ vx_atS own ic cls names, w.before args s' = true := fun w hw => vx_ot_at hW0 hvm.symm (hgood w (List.mem_cons_of_mem _ (List.mem_cons_of_mem _ hw))) (hat w hw)
  have hk' : (Cond.classLink own ik cls).before args s' = true := vx_ot_at hW0 hvm.symm (hgood _ List.mem_cons_self) hk
  have hini' : (Cond.initialized cls).before args s' = true := vx_ot_at hW0 hvm.symm (hgood _ (List.mem_cons_of_mem _ List.mem_cons_self)) hini
  have hU' : vx_Zq Bundle.tN "UNASSIGNED_STACK" Bundle.steD A s' s'.heap := by rw [hhp]; exact vx_Zq.moved hW0.alike (hU.kept hS.2.1)
  have hN' : vx_Zq Bundle.tN "SUPPRESSED_SENTINEL" Bundle.listD A s' s'.heap := by rw [hhp]; exact vx_Zq.moved hW0.alike (hN.kept hS.2.1)
  have h : ∀ w ∈ Bundle.ownAtoms own ic cls names, w.before args s' = true := vx_own hat' (vx_isRefq hU'.1) (vx_isRefq hN'.1) hU'.2.word hN'.2.word
  have hown' : s'.vm.findClass own = some m.cls := by rw [hvm]; exact hown
  have hins : (Cond.instantiable cls 6).before args s' = true := h _ (by simp [Bundle.ownAtoms])
  obtain ⟨vm₁, cX, kX, hfX, hkX, -, -, X₁, st1⟩ := Y.newCold hexec (own := own) (C := cls) (index := ik) (n := 6) hown' hk' hins hini'
    (g := F0 m pc ls rest) rfl (by rw [hb]; exact d0) (Nat.le_refl _) (Nat.le_refl _)
  generalize hT1 : (T.setVm vm₁).pushCell { cls := cX, slots := kX.instanceTypes.map defaultValue, vm := .none } = T1 at X₁ st1
  have hcat : (Value.ref T.heap.size).category = 1 := rfl
  have hcellA : T1.heap[T.heap.size]? = some (freshCell cX kX) := by rw [← hT1]; exact State.heap_pushCell_size _ _
  have d3' : decode c.code (pc + 3) = .ok (.dup, 1) := by rw [hb]; exact d3
  have d4' : decode c.code (pc + 4) = .ok (.ldc_w is, 3) := by rw [hb]; exact d4
  have hstr' : vk_R own is text sa s' := vk_R.warm hW0 hstr
  obtain ⟨U, hsteps, hrun, hend, hW, hsame, ce, hce, hO⟩ := X₁.ctorThrowS hexec htr (own := own) (cls := cls) (names := names) (ic := ic) hown' hcls hnames h (fun x hx => nomatch hx) hfX hkX hcellA (by rw [hhp, hT]; exact Nat.le_refl _) (msg := .ref sa) rfl
    (g := { method := m, pc := pc + 7, locals := ls, stack := .ref sa :: .ref T.heap.size :: .ref T.heap.size :: rest, locked := none }) rfl hsize rfl rfl (rest := rest) rfl
    (by rw [hb]; exact d7) (by rw [hb]; exact d10) hout hRframes (by simp only [List.map_cons, List.sum_cons, hcat]; omega) hlocks
  obtain ⟨f1, f2⟩ := vx_frame hsame
  rw [hhp] at f1 f2
  have hWs : s.WarmedH U.vm := State.WarmedH.trans hW0 hW
  have hcl : s.vm.findClass cls = some ce.cls := by
    have h9 := hO.cls
    rw [hvm] at h9
    exact h9
  have hall : s.sameButNew ({ U with vm := s.vm } : State) locs mc ms := by
    subst hA
    obtain ⟨e1, e2⟩ := hsame
    rw [State.setFrames_setFrames] at e1
    have h2 : (T.setVm s.vm).sameButNew ({ U with vm := s.vm } : State) [] (0 + 1) (0 + 6) := ⟨e1, e2⟩
    have h3 := X.same.trans h2
    rw [List.append_nil] at h3
    exact h3.mono hc hs
  refine ⟨U, ?_, .threw T.heap.size, hrun, hend, Or.inr ⟨T.heap.size, rfl, cls, ce, locs, hx U hWs.alike f1 (fun q hq => f2 q hq (fun z hz => nomatch hz)), hce, hO.vm, hcl, hWs, hall, hf⟩⟩
  refine st1 _ ?_
  show Steps p.tables e below (T1.setTop { method := m, pc := pc + 3, locals := ls, stack := .ref T.heap.size :: rest, locked := none }) _
  jvm_step X₁.here [X₁.here.top, hexec, d3', Value.category]
  exact X₁.ldcStringW hexec (own := own) (text := text) (index := is) (a := sa) hown' hstr'.1 hstr'.2
    (g := { method := m, pc := pc + 4, locals := ls, stack := .ref T.heap.size :: .ref T.heap.size :: rest, locked := none }) rfl d4' _ hsteps
end Ends
section Bodies
variable {l : Launch}
theorem vx_ofW {y : MethodName} {ws ws' : List Cond} {rm : Room} {Pc : Array Value → State → Prop} {Qc : Array Value → State → Outcome → State → Prop} {XC : String → State → State → Prop} {mc ms : Nat} {free : Addr → Prop} {cc : ByteArray} {maxL : Nat} {ret : Option FieldType}
    (hy : plainName y.cls = true) (hw : ws = Cond.code y cc maxL ret :: ws')
    (body : ∀ p e s m args below meth c s₁, BodyLoose p l y (headSpec ws rm) cc maxL ret e s m args below meth c s₁ → c.maxLocals = maxL → (∀ x ∈ c.exceptionTable.toList, False) → Pc args s →
      W p l e (headSpec ws rm).room s m args below meth c s.heap [] 0 0 (vx_MQ below Qc XC args s mc ms free) (entryFrame m args maxL)) : vx_Met l y ws rm Pc Qc XC mc ms free := by
  refine MetFree.of_bodyS (code := cc) (maxLocals := maxL) (ret := ret) hy ?_ ?_
  · intro args s m h hn
    obtain ⟨meth, c, h1, h2, h3, h4, h5, h6, -, -⟩ := Cond.code_spec hn (atoms_spec (ws := ws) h _ (by rw [hw]; exact List.mem_cons_self))
    exact ⟨meth, c, h1, h2, h3, h4, h5, h6⟩
  · intro p e s m args below meth c s₁ B hml hP _
    have hh0 : s₁.heap = s.heap := by rw [B.state]; rfl
    have ht : ∀ x ∈ c.exceptionTable.toList, False := by
      obtain ⟨meth9, c9, h1, h2, -, -, -, -, h7, -⟩ := Cond.code_spec B.named (atoms_spec (ws := ws) B.pre _ (by rw [hw]; exact List.mem_cons_self))
      cases Option.some.inj (h1.symm.trans B.method)
      cases Option.some.inj (h2.symm.trans (Stand.of_body B).code)
      intro x hx
      rw [Array.isEmpty_iff.mp h7] at hx
      cases hx
    obtain ⟨t, a1, o, b1, b2, b3⟩ := body p e s m args below meth c s₁ B hml ht hP s₁ hh0 (Stand.of_body B)
    exact ⟨t, o, a1, b1, b2, b3⟩
/-- the table of a body with handlers -/
theorem vx_table {p : Program} {x y : MethodName} {S : Spec} {cc bytes : ByteArray} {maxL maxL' : Nat} {ret ret' : Option FieldType} {e : Env} {s s₁ : State} {m : MethodId} {args : Array Value} {below : List Frame} {meth : Method} {c : Code} {hh : List (Nat × Nat × Nat × Nat)}
    (B : BodyLoose p l y S cc maxL ret e s m args below meth c s₁) (h : (Cond.codeWith y bytes maxL' ret' hh).before args s = true) : c.exceptionTable.toList = tableOf hh := by
  obtain ⟨m9, meth9, c9, hn9, h1, h2, -, -, h6, -⟩ := Cond.codeWith_spec h
  cases Option.some.inj (hn9.symm.trans B.named)
  cases Option.some.inj (h1.symm.trans B.method)
  cases Option.some.inj (h2.symm.trans (Stand.of_body B).code)
  rw [← h6, table_eq]
end Bodies
end VXA
/-! ===== END ===== -/
/-! ===== BEGIN a static call of a method with an exception table ===== -/
section VXS
variable {p : Program} {l : Launch} {e : Env} {R : Room} {s : State} {m : MethodId} {args : Array Value} {below : List Frame} {meth : Method} {c : Code} {T : State} {H : Heap} {locs : List Loc} {cells slots : Nat}
abbrev vx_CSW (R : Room) (s : State) (args : Array Value) (own : String) (index : Nat) (y : MethodName) (bytes : ByteArray) (maxL : Nat) (ret : Option FieldType) (hh : List (Nat × Nat × Nat × Nat)) (ws : List Cond) (rm : Room) (mc ms n : Nat) : Prop :=
  (rm.cells = mc ∧ rm.slots = ms ∧ rm.frames + 1 ≤ R.frames ∧ 8 + (maxL + 11) + rm.locals ≤ R.locals ∧ (∀ w ∈ ws, ∀ (a' : Array Value) (U : State), s.WarmedH U.vm → w.before a' U = true) ∧ Cond.codeWith y bytes maxL ret hh ∈ ws) ∧
  (Cond.codeWith y bytes maxL ret hh).before args s = true ∧ (Cond.initialized y.cls).before args s = true ∧ (y.cls ≠ "java/lang/invoke/MethodHandle" ∧ y.cls ≠ "java/lang/invoke/VarHandle") ∧
  (∀ sig, parseMethodDescriptor y.desc = some sig → n = sig.parameters.length) ∧ (Cond.methodLink own index y).before args s = true ∧ (Cond.static y).before args s = true
theorem vx_cwSW {own : String} {index maxL mc ms : Nat} {y : MethodName} {bytes : ByteArray} {ret : Option FieldType} {hh : List (Nat × Nat × Nat × Nat)} {Ts ws ws' : List Cond} {rm : Room} (n : Nat) (ht : ∀ w ∈ Ts, w.before args s = true) (hT : GoodIn Ts (va_wsS own index y ws)) (hw : ws = Cond.codeWith y bytes maxL ret hh :: ws') (hrc : rm.cells = mc) (hrs : rm.slots = ms)
    (hd : y.cls ≠ "java/lang/invoke/MethodHandle" ∧ y.cls ≠ "java/lang/invoke/VarHandle" ∧ (parseMethodDescriptor y.desc).map (fun d => d.parameters.length) = some n) (hR : rm.frames + 1 ≤ R.frames ∧ 8 + (maxL + 11) + rm.locals ≤ R.locals) :
    vx_CSW R s args own index y bytes maxL ret hh ws rm mc ms n := by
  have ok : ∀ w ∈ va_wsS own index y ws, w.before args s = true := fun w h => ht w (hT w h).1
  have hG : GoodIn Ts ws := fun w h => hT w (by unfold va_wsS; exact List.mem_append_right _ h)
  have hc : Cond.codeWith y bytes maxL ret hh ∈ ws := by rw [hw]; exact List.mem_cons_self
  refine ⟨⟨hrc, hrs, hR.1, hR.2, pay_in ht hG, hc⟩, ht _ (hG _ hc).1, ok _ (by simp [va_wsS]), ⟨hd.1, hd.2.1⟩, fun sig h => ?_, ok _ (by simp [va_wsS]), ok _ (by simp [va_wsS])⟩
  have h2 := hd.2.2
  rw [h] at h2
  exact (Option.some.inj h2).symm
theorem vx_callSW (X : Stand p l e R s m args below meth c T locs cells slots) (hexec : p.tables.exec = Jvm.exec) {own : String} {index : Nat} {y : MethodName} {bytes : ByteArray} {maxL : Nat} {ret : Option FieldType} {hh : List (Nat × Nat × Nat × Nat)}
    (hown : s.vm.findClass own = some m.cls) (hlink : (Cond.methodLink own index y).before args s = true) (hstat : (Cond.static y).before args s = true) (hinit : (Cond.initialized y.cls).before args s = true)
    (hcode : (Cond.codeWith y bytes maxL ret hh).before args s = true) (hy : y.cls ≠ "java/lang/invoke/MethodHandle" ∧ y.cls ≠ "java/lang/invoke/VarHandle")
    {W9 : Nat} {Pre : Pt → Array Value → Prop} {Post : Pt → Array Value → Option Value → Pt → Prop} (hK : Back l R p e below s args y 3 W9 Pre Post)
    {g : JFrame} (hg : g.method = m) (hsize : g.locals.size = c.maxLocals) {argsL rest : List Value} (hlen : ∀ sig, parseMethodDescriptor y.desc = some sig → argsL.length = sig.parameters.length)
    (hstack : g.stack = argsL.reverse ++ rest) (hW : 2 * g.monitorRoom + (rest.map fun v => v.category).sum ≤ W9) (hdg : decode c.code g.pc = .ok (.invokestatic index, 3))
    (hpre : ∀ vm₁, s.WarmedH vm₁ → Pre ⟨T.setVm vm₁, locs, cells, slots⟩ argsL.toArray) :
    ∃ (v : Option Value) (vm₁ : Vm) (B : Pt), s.WarmedH vm₁ ∧ Stand p l e R s m args below meth c B.U B.locs B.cells B.slots ∧ Post ⟨T.setVm vm₁, locs, cells, slots⟩ argsL.toArray v B ∧
      ∀ target, Steps p.tables e below (B.U.setTop { g with pc := g.pc + 3, stack := v.toList ++ rest }) target → Steps p.tables e below (T.setTop g) target := by
  obtain ⟨mk, methM, cM, hnamed, hmethM, -, -, -, -, -, -, hsigM⟩ := Cond.codeWith_spec hcode
  have hstatic : methM.isStatic = true := Cond.static_spec hnamed hmethM hstat
  obtain ⟨kP, hkP, -⟩ := className_of_methodNamed hnamed
  have hinitP : kP.init = .initialized := Cond.initialized_spec (findClass_of_methodNamed hnamed) hkP hinit
  obtain ⟨vm₁, X₁, hstep₁⟩ := X.invokestatic hexec hown hlink hnamed hmethM hstatic hkP hinitP hy (g := g) hg (argsL := argsL) (rest := rest) (hlen _ hsigM) hstack hdg
  obtain ⟨v, B, X', hpost, hsteps⟩ := hK m meth c ⟨T.setVm vm₁, locs, cells, slots⟩ { g with stack := rest } (.invokestatic index) mk argsL.toArray X₁ hg hsize hdg hW (X₁.named hnamed) (hpre vm₁ X₁.warmed)
  exact ⟨v, vm₁, B, X₁.warmed, X', hpost, fun target h => hstep₁ _ fun acts => by rw [doInvoke_state]; exact hsteps.trans h⟩
theorem vx_runSW {y : MethodName} {bytes cc : ByteArray} {maxL nL mc ms n index : Nat} {ret : Option FieldType} {hh : List (Nat × Nat × Nat × Nat)} {ws : List Cond} {rm : Room} {Pc : Array Value → State → Prop} {Qc : Array Value → State → Outcome → State → Prop} {free : Addr → Prop} {Ts : List Cond} {own : String} {As rest : List Value} {g : JFrame}
    (S : CallFix p m c cc nL s args Ts own) (hM : Met l y ws rm Pc Qc mc ms free) (cw : vx_CSW R s args own index y bytes maxL ret hh ws rm mc ms n) (hp : PreS s H Pc As)
    (hg : g.method = m) (hn : As.length = n) (hsize : g.locals.size = nL) (hstack : g.stack = As.reverse ++ rest) (hW : 2 * g.monitorRoom + (rest.map fun v => v.category).sum ≤ 8) (hdg : decode cc g.pc = .ok (.invokestatic index, 3)) (hf : cells + mc ≤ R.cells ∧ slots + ms ≤ R.slots) :
    va_Run p l e R s m args below meth c H locs cells slots mc ms g rest (Qc As.toArray) (free) := by
  obtain ⟨⟨hrc, hrs, hfr, hlo, hws, hcw⟩, hcode, hini, hy, hlen, hl, hstt⟩ := cw
  have hK : Back l R p e below s args y 3 8 (PreOf R mc ms Pc) (PostOf Qc mc ms free) := va_backW (hh := hh) (bytes := bytes) (maxL := maxL) (ret := ret) hM hp.1 hrc hrs hfr hlo hws hcw (fun a' U hW => word_at hW (Or.inl (by first | rfl | simp [Cond.onTables, Cond.keeps, Cond.steady])) hini)
  obtain ⟨hx, hb, hml, ho, -⟩ := S
  intro T hT X
  obtain ⟨v, vm₁, ⟨U', l2, c2, s2⟩, hW₁, X', ⟨g', mk, t, L, e1, e2, hq, h1, hL, h2, h3⟩, st⟩ := vx_callSW X hx (hh := hh) (bytes := bytes) (maxL := maxL) (ret := ret) ho hl hstt hini hcode hy hK hg (hsize.trans hml.symm) (argsL := As) (rest := rest) (fun sig h => hn.trans (hlen sig h)) hstack hW (by rw [hb]; exact hdg)
    (fun vm₁ hW₁ => ⟨hf.1, hf.2, hp.2 (T.setVm vm₁) hT hW₁⟩)
  dsimp only [Pt.U, Pt.locs, Pt.cells, Pt.slots] at X' e1 e2 h1 h2 h3 st
  subst h1; subst h2; subst h3
  exact ⟨v, (T.setVm vm₁).calling g' mk As.toArray, t, U', L, hT, X', hL, e1, e2, hq, st⟩
/-- a thing of a world lies in the heap -/
theorem vx_lt {D : va_G} {cl : List vw_C} {ws : va_W} {H1 : Heap} (h : va_P D cl ws H1) {k : Nat} {q : Nat × va_E} (hk : ws[k]? = some q) : q.1 < H1.size := (h k q hk).lt
end VXS
/-! ===== END ===== -/
/-! ===== BEGIN methods with a table of their own: called by a name, returning or throwing ===== -/
section VXH
/-! vx_backW, vx_callVX, vx_callSX, vx_callVW, vx_runVW, vx_runVX, vx_runSX, vx_ofWH follow the same proofs as their sisters above (Free/Laws.lean, Shelf42/LK1.lean); vx_outP calls Shelf42/NT130.lean (outThrough). -/
section
variable {l : Launch} {R : Room} {p : Program} {e : Env} {below : List Frame} {s : State} {sargs : Array Value} {y : MethodName} {len W9 : Nat}
theorem vx_backW {ws : List Cond} {rm : Room} {Pc : Array Value → State → Prop} {Qc : Array Value → State → Outcome → State → Prop} {XC : String → State → State → Prop} {mc ms : Nat} {free : Addr → Prop} {bytes : ByteArray} {maxL : Nat} {ret : Option FieldType} {hh : List (Nat × Nat × Nat × Nat)}
    (hM : vx_Met l y ws rm Pc Qc XC mc ms free) (hblind : FrameBlind Pc) (hrc : rm.cells = mc) (hrs : rm.slots = ms)
    (hframes : rm.frames + 1 ≤ R.frames) (hlocals : W9 + (maxL + 11) + rm.locals ≤ R.locals)
    (hws : ∀ w ∈ ws, ∀ a' U, s.WarmedH U.vm → w.before a' U = true) (hcode : Cond.codeWith y bytes maxL ret hh ∈ ws) (hinit : ∀ a' U, s.WarmedH U.vm → (Cond.initialized y.cls).before a' U = true) :
    vx_Back l R p e below s sargs y len W9 (PreOf R mc ms Pc) (PostOf Qc mc ms free) (vx_Post XC mc ms free) := by
  intro m meth c A g ig mk a X hg hsize hdg hW hn hp
  have h1 : (headSpec ws rm).pre.before a A.U = true := atoms_intro fun w hw => hws w hw _ _ X.warmed
  have h2 : (Cond.codeWith y bytes maxL ret hh).before a A.U = true := hws _ hcode _ _ X.warmed
  have h3 : (Cond.initialized y.cls).before a A.U = true := hinit _ _ X.warmed
  have h4 : A.cells + (headSpec ws rm).room.cells ≤ R.cells := by rw [show (headSpec ws rm).room.cells = mc from hrc]; exact hp.1
  have h5 : A.slots + (headSpec ws rm).room.slots ≤ R.slots := by rw [show (headSpec ws rm).room.slots = ms from hrs]; exact hp.2.1
  have hPc : Pc a (A.U.calling g mk a) := hblind _ _ _ _ hp.2.2
  obtain ⟨U, Ls, c0, s0⟩ := A
  dsimp only [Pt.U, Pt.locs, Pt.cells, Pt.slots] at h1 h2 h3 h4 h5 X hn hPc ⊢
  obtain ⟨m9, methY, cY, hn9, hmY, hcY, -, hlY, -⟩ := Cond.codeWith_spec h2
  cases Option.some.inj (hn9.symm.trans hn)
  obtain ⟨kY, hkY, -⟩ := className_of_methodNamed hn
  have hinitY : kY.init = .initialized := Cond.initialized_spec (findClass_of_methodNamed hn) hkY h3
  have h : At U g.method c below := by rw [hg]; exact X.here
  have hlocals9 : W9 + (maxL + 11) + (headSpec ws rm).room.locals ≤ R.locals := hlocals
  have happ : (headSpec ws rm).appliesLoose y e.platform (U.calling g mk a) = true :=
    Spec.appliesLoose_calling (g := g) h hdg hn hkY hinitY
      (X.room_calling (g := g) (R' := (headSpec ws rm).room) hsize hmY hcY hframes (by rw [hlY]; omega) h4 h5) h1
  obtain ⟨mid, hmid⟩ := h.above
  have hfr : (U.setTop g).frames = (.java g :: mid) ++ below := by rw [State.frames_setTop' g h.top, hmid]; rfl
  obtain ⟨o, s₂, hsteps, -, hend, hq⟩ := Steps.callFree hM p X.admits X.cas X.clock (acts := []) hfr happ hPc trivial
  have hq' : vx_Q Qc XC mc ms free a (U.calling g mk a) o s₂ := hq
  rw [State.frames_setTop' g h.top] at hend
  obtain ⟨g₀, hg0⟩ := Option.isSome_iff_exists.mp h.top
  obtain ⟨r, hr⟩ := State.topJava?_eq_some.mp hg0
  have hr' : (({ U with heap := s₂.heap, slotsUsed := s₂.slotsUsed } : State).setVm s₂.vm).frames = .java g₀ :: r := hr
  rcases hq' with ⟨hqc, L, hfe, hL⟩ | ⟨q, rfl, E, ce, L, hx, hce, hcv, hcl, hW₂, hsm, hL⟩
  · obtain ⟨⟨v, rfl⟩, hW₂, e2, q2, q3, q4, q5, q6⟩ := id hfe
    have e3 : s₂ = ({ (U.calling g mk a).setFrames s₂.frames with heap := s₂.heap, slotsUsed := s₂.slotsUsed } : State).setVm s₂.vm := by
      have : s₂ = ({ s₂ with vm := (U.calling g mk a).vm } : State).setVm s₂.vm := rfl
      rw [e2] at this
      exact this
    obtain ⟨c₂, i₂, len₂, hc₂, hd₂, hf₂⟩ := hend
    have hW' : U.WarmedH s₂.vm := hW₂
    have hcc : c₂ = c := by
      have h1 : s₂.code? g.method = U.code? g.method := by
        rw [State.code?_eq, State.code?_eq, hW'.alike.method?]
      exact Option.some.inj (hc₂.symm.trans (h1.trans h.code))
    subst hcc
    have hlen : len₂ = len := by rw [hdg] at hd₂; cases hd₂; rfl
    subst hlen
    have hs₂ : s₂ = (({ U with heap := s₂.heap, slotsUsed := s₂.slotsUsed } : State).setVm s₂.vm).setTop { g with pc := g.pc + len₂, stack := v.toList ++ g.stack } := by
      refine e3.trans ?_
      rw [hf₂, State.calling_eq h.top, State.setFrames_setFrames, State.setTop_of_frames _ hr', hr]
      rfl
    have hsame : U.sameButNew ({ U with heap := s₂.heap, slotsUsed := s₂.slotsUsed } : State) L mc ms := by
      refine ⟨?_, q2, q3, q4, q5, q6⟩
      obtain ⟨t, ht, -⟩ := State.frames_cons hr
      show ({ U with heap := s₂.heap, slotsUsed := s₂.slotsUsed } : State) = { U.setFrames U.frames with heap := s₂.heap, slotsUsed := s₂.slotsUsed }
      rw [State.setFrames_self ht]
    subst hg
    refine Or.inl ⟨v, ⟨(({ U with heap := s₂.heap, slotsUsed := s₂.slotsUsed } : State).setVm s₂.vm), Ls ++ L, c0 + mc, s0 + ms⟩,
      ⟨X.admits, X.cas, X.clock, X.frames, X.room, X.hears, X.method, X.code, (X.here.setHeapUsed s₂.heap s₂.slotsUsed).setVm hW'.alike, X.tail, State.WarmedH.trans X.warmed hW', X.limits, X.bytes, X.same.trans (hsame.setVm s.vm)⟩,
      ⟨g, mk, s₂, L, rfl, rfl, hqc, rfl, hL, rfl, rfl⟩, ?_⟩
    show Steps p.tables e below _ ((({ U with heap := s₂.heap, slotsUsed := s₂.slotsUsed } : State).setVm s₂.vm).setTop { g with pc := g.pc + len₂, stack := v.toList ++ g.stack })
    rw [← hs₂]
    exact hsteps
  · obtain ⟨e2, q2, q3, q4, q5, q6⟩ := id hsm
    have e3 : s₂ = ({ (U.calling g mk a).setFrames s₂.frames with heap := s₂.heap, slotsUsed := s₂.slotsUsed } : State).setVm s₂.vm := by
      have : s₂ = ({ s₂ with vm := (U.calling g mk a).vm } : State).setVm s₂.vm := rfl
      rw [e2] at this
      exact this
    have hf₂ : s₂.frames = .throwing q :: .java g :: U.frames.tail := hend
    have hW' : U.WarmedH s₂.vm := hW₂
    have hs₂ : s₂ = ((({ U with heap := s₂.heap, slotsUsed := s₂.slotsUsed } : State).setVm s₂.vm).setTop g).pushFrame (.throwing q) := by
      refine e3.trans ?_
      rw [hf₂, State.calling_eq h.top, State.setFrames_setFrames, State.pushFrame, State.frames_setTop _ hr', State.setTop_of_frames _ hr', State.setFrames_setFrames, hr]
      rfl
    have hsame : U.sameButNew ({ U with heap := s₂.heap, slotsUsed := s₂.slotsUsed } : State) L mc ms := by
      refine ⟨?_, q2, q3, q4, q5, q6⟩
      obtain ⟨t, ht, -⟩ := State.frames_cons hr
      show ({ U with heap := s₂.heap, slotsUsed := s₂.slotsUsed } : State) = { U.setFrames U.frames with heap := s₂.heap, slotsUsed := s₂.slotsUsed }
      rw [State.setFrames_self ht]
    subst hg
    refine Or.inr ⟨q, ⟨(({ U with heap := s₂.heap, slotsUsed := s₂.slotsUsed } : State).setVm s₂.vm), Ls ++ L, c0 + mc, s0 + ms⟩,
      ⟨X.admits, X.cas, X.clock, X.frames, X.room, X.hears, X.method, X.code, (X.here.setHeapUsed s₂.heap s₂.slotsUsed).setVm hW'.alike, X.tail, State.WarmedH.trans X.warmed hW', X.limits, X.bytes, X.same.trans (hsame.setVm s.vm)⟩,
      ⟨g, mk, s₂, L, E, ce, rfl, rfl, hx, hce, hcv, hcl, rfl, hL, rfl, rfl⟩, ?_⟩
    show Steps p.tables e below _ (((({ U with heap := s₂.heap, slotsUsed := s₂.slotsUsed } : State).setVm s₂.vm).setTop g).pushFrame (.throwing q))
    rw [← hs₂]
    exact hsteps
end
variable {p : Program} {l : Launch} {e : Env} {R : Room} {s : State} {m : MethodId} {args : Array Value} {below : List Frame} {meth : Method} {c : Code} {T : State} {H : Heap} {locs : List Loc} {cells slots : Nat}
theorem vx_callVX (X : Stand p l e R s m args below meth c T locs cells slots) (hexec : p.tables.exec = Jvm.exec) {own C : String} {index : Nat} {y : MethodName} {bytes : ByteArray} {maxL : Nat} {ret : Option FieldType} {hh : List (Nat × Nat × Nat × Nat)}
    (hown : s.vm.findClass own = some m.cls) (hlink : (Cond.methodLink own index y).before args s = true) (hinst : (Cond.instanceMethod y).before args s = true) (hsel : (Cond.selects C y y).before args s = true)
    (hcode : (Cond.codeWith y bytes maxL ret hh).before args s = true) (hy : y.cls ≠ "java/lang/invoke/MethodHandle" ∧ y.cls ≠ "java/lang/invoke/VarHandle")
    {W9 : Nat} {Pre : Pt → Array Value → Prop} {Post : Pt → Array Value → Option Value → Pt → Prop} {PostX : Pt → Array Value → Addr → Pt → Prop} (hK : vx_Back l R p e below s args y 3 W9 Pre Post PostX)
    {b : Addr} {cellB : Cell} (hcell : T.heap[b]? = some cellB) (hobj : cellB.vm.isStatics = false) (hcls : s.vm.findClass C = some cellB.cls)
    {g : JFrame} (hg : g.method = m) (hsize : g.locals.size = c.maxLocals) {argsL rest : List Value} (hlen : ∀ sig, parseMethodDescriptor y.desc = some sig → argsL.length = sig.parameters.length)
    (hstack : g.stack = argsL.reverse ++ .ref b :: rest) (hW : 2 * g.monitorRoom + (rest.map fun v => v.category).sum ≤ W9) (hdg : decode c.code g.pc = .ok (.invokevirtual index, 3))
    (hpre : ∀ vm₁, s.WarmedH vm₁ → Pre ⟨T.setVm vm₁, locs, cells, slots⟩ (Value.ref b :: argsL).toArray) :
    (∃ (v : Option Value) (vm₁ : Vm) (B : Pt), s.WarmedH vm₁ ∧ Stand p l e R s m args below meth c B.U B.locs B.cells B.slots ∧ Post ⟨T.setVm vm₁, locs, cells, slots⟩ (Value.ref b :: argsL).toArray v B ∧
      ∀ target, Steps p.tables e below (B.U.setTop { g with pc := g.pc + 3, stack := v.toList ++ rest }) target → Steps p.tables e below (T.setTop g) target) ∨
    (∃ (q : Addr) (vm₁ : Vm) (B : Pt), s.WarmedH vm₁ ∧ Stand p l e R s m args below meth c B.U B.locs B.cells B.slots ∧ PostX ⟨T.setVm vm₁, locs, cells, slots⟩ (Value.ref b :: argsL).toArray q B ∧
      Steps p.tables e below (T.setTop g) ((B.U.setTop { g with stack := rest }).pushFrame (.throwing q))) := by
  obtain ⟨mk, methM, hnamed, hmethM, hstM, habM⟩ := Cond.instanceMethod_spec hinst
  obtain ⟨m8, methM', cM, hn8, hmethM', -, -, -, -, -, -, hsigM⟩ := Cond.codeWith_spec hcode
  cases Option.some.inj (hn8.symm.trans hnamed)
  cases hmethM.symm.trans hmethM'
  obtain ⟨c2, r2, m2, q1, q2, q3, q4, kP, hkP, hkPi⟩ := Cond.selects_spec hsel
  cases hcls.symm.trans q1
  cases (State.methodFound?_of_named hnamed hy).symm.trans q2
  cases hnamed.symm.trans q3
  have hselP : selectMethod e.platform s.vm cellB.cls mk = .method mk := by rw [Launch.admits_selectMethod X.admits]; exact q4
  obtain ⟨vm₁, X₁, hstep₁⟩ := X.invokevirtual hexec hown hlink hnamed hmethM hstM hkP hkPi hy (a := b) (cell := cellB) hcell
    (fun z h => by rw [h] at hobj; cases hobj) hselP hmethM habM hkP hkPi (g := g) hg (argsL := argsL) (rest := rest) (hlen _ hsigM) hstack hdg
  rcases hK m meth c ⟨T.setVm vm₁, locs, cells, slots⟩ { g with stack := rest } (.invokevirtual index) mk (Value.ref b :: argsL).toArray X₁ hg hsize hdg hW (X₁.named hnamed) (hpre vm₁ X₁.warmed) with ⟨v, B, X', hpost, hsteps⟩ | ⟨q, B, X', hpost, hsteps⟩
  · exact Or.inl ⟨v, vm₁, B, X₁.warmed, X', hpost, fun target h => hstep₁ _ fun acts => by rw [doInvoke_state]; exact hsteps.trans h⟩
  · exact Or.inr ⟨q, vm₁, B, X₁.warmed, X', hpost, hstep₁ _ fun acts => by rw [doInvoke_state]; exact hsteps⟩
theorem vx_callSX (X : Stand p l e R s m args below meth c T locs cells slots) (hexec : p.tables.exec = Jvm.exec) {own : String} {index : Nat} {y : MethodName} {bytes : ByteArray} {maxL : Nat} {ret : Option FieldType} {hh : List (Nat × Nat × Nat × Nat)}
    (hown : s.vm.findClass own = some m.cls) (hlink : (Cond.methodLink own index y).before args s = true) (hstat : (Cond.static y).before args s = true) (hinit : (Cond.initialized y.cls).before args s = true)
    (hcode : (Cond.codeWith y bytes maxL ret hh).before args s = true) (hy : y.cls ≠ "java/lang/invoke/MethodHandle" ∧ y.cls ≠ "java/lang/invoke/VarHandle")
    {W9 : Nat} {Pre : Pt → Array Value → Prop} {Post : Pt → Array Value → Option Value → Pt → Prop} {PostX : Pt → Array Value → Addr → Pt → Prop} (hK : vx_Back l R p e below s args y 3 W9 Pre Post PostX)
    {g : JFrame} (hg : g.method = m) (hsize : g.locals.size = c.maxLocals) {argsL rest : List Value} (hlen : ∀ sig, parseMethodDescriptor y.desc = some sig → argsL.length = sig.parameters.length)
    (hstack : g.stack = argsL.reverse ++ rest) (hW : 2 * g.monitorRoom + (rest.map fun v => v.category).sum ≤ W9) (hdg : decode c.code g.pc = .ok (.invokestatic index, 3))
    (hpre : ∀ vm₁, s.WarmedH vm₁ → Pre ⟨T.setVm vm₁, locs, cells, slots⟩ argsL.toArray) :
    (∃ (v : Option Value) (vm₁ : Vm) (B : Pt), s.WarmedH vm₁ ∧ Stand p l e R s m args below meth c B.U B.locs B.cells B.slots ∧ Post ⟨T.setVm vm₁, locs, cells, slots⟩ argsL.toArray v B ∧
      ∀ target, Steps p.tables e below (B.U.setTop { g with pc := g.pc + 3, stack := v.toList ++ rest }) target → Steps p.tables e below (T.setTop g) target) ∨
    (∃ (q : Addr) (vm₁ : Vm) (B : Pt), s.WarmedH vm₁ ∧ Stand p l e R s m args below meth c B.U B.locs B.cells B.slots ∧ PostX ⟨T.setVm vm₁, locs, cells, slots⟩ argsL.toArray q B ∧
      Steps p.tables e below (T.setTop g) ((B.U.setTop { g with stack := rest }).pushFrame (.throwing q))) := by
  obtain ⟨mk, methM, cM, hnamed, hmethM, -, -, -, -, -, -, hsigM⟩ := Cond.codeWith_spec hcode
  have hstatic : methM.isStatic = true := Cond.static_spec hnamed hmethM hstat
  obtain ⟨kP, hkP, -⟩ := className_of_methodNamed hnamed
  have hinitP : kP.init = .initialized := Cond.initialized_spec (findClass_of_methodNamed hnamed) hkP hinit
  obtain ⟨vm₁, X₁, hstep₁⟩ := X.invokestatic hexec hown hlink hnamed hmethM hstatic hkP hinitP hy (g := g) hg (argsL := argsL) (rest := rest) (hlen _ hsigM) hstack hdg
  rcases hK m meth c ⟨T.setVm vm₁, locs, cells, slots⟩ { g with stack := rest } (.invokestatic index) mk argsL.toArray X₁ hg hsize hdg hW (X₁.named hnamed) (hpre vm₁ X₁.warmed) with ⟨v, B, X', hpost, hsteps⟩ | ⟨q, B, X', hpost, hsteps⟩
  · exact Or.inl ⟨v, vm₁, B, X₁.warmed, X', hpost, fun target h => hstep₁ _ fun acts => by rw [doInvoke_state]; exact hsteps.trans h⟩
  · exact Or.inr ⟨q, vm₁, B, X₁.warmed, X', hpost, hstep₁ _ fun acts => by rw [doInvoke_state]; exact hsteps⟩
theorem vx_callVW (X : Stand p l e R s m args below meth c T locs cells slots) (hexec : p.tables.exec = Jvm.exec) {own C : String} {index : Nat} {y : MethodName} {bytes : ByteArray} {maxL : Nat} {ret : Option FieldType} {hh : List (Nat × Nat × Nat × Nat)}
    (hown : s.vm.findClass own = some m.cls) (hlink : (Cond.methodLink own index y).before args s = true) (hinst : (Cond.instanceMethod y).before args s = true) (hsel : (Cond.selects C y y).before args s = true)
    (hcode : (Cond.codeWith y bytes maxL ret hh).before args s = true) (hy : y.cls ≠ "java/lang/invoke/MethodHandle" ∧ y.cls ≠ "java/lang/invoke/VarHandle")
    {W9 : Nat} {Pre : Pt → Array Value → Prop} {Post : Pt → Array Value → Option Value → Pt → Prop} (hK : Back l R p e below s args y 3 W9 Pre Post)
    {b : Addr} {cellB : Cell} (hcell : T.heap[b]? = some cellB) (hobj : cellB.vm.isStatics = false) (hcls : s.vm.findClass C = some cellB.cls)
    {g : JFrame} (hg : g.method = m) (hsize : g.locals.size = c.maxLocals) {argsL rest : List Value} (hlen : ∀ sig, parseMethodDescriptor y.desc = some sig → argsL.length = sig.parameters.length)
    (hstack : g.stack = argsL.reverse ++ .ref b :: rest) (hW : 2 * g.monitorRoom + (rest.map fun v => v.category).sum ≤ W9) (hdg : decode c.code g.pc = .ok (.invokevirtual index, 3))
    (hpre : ∀ vm₁, s.WarmedH vm₁ → Pre ⟨T.setVm vm₁, locs, cells, slots⟩ (Value.ref b :: argsL).toArray) :
    ∃ (v : Option Value) (vm₁ : Vm) (B : Pt), s.WarmedH vm₁ ∧ Stand p l e R s m args below meth c B.U B.locs B.cells B.slots ∧ Post ⟨T.setVm vm₁, locs, cells, slots⟩ (Value.ref b :: argsL).toArray v B ∧
      ∀ target, Steps p.tables e below (B.U.setTop { g with pc := g.pc + 3, stack := v.toList ++ rest }) target → Steps p.tables e below (T.setTop g) target := by
  obtain ⟨mk, methM, hnamed, hmethM, hstM, habM⟩ := Cond.instanceMethod_spec hinst
  obtain ⟨m8, methM', cM, hn8, hmethM', -, -, -, -, -, -, hsigM⟩ := Cond.codeWith_spec hcode
  cases Option.some.inj (hn8.symm.trans hnamed)
  cases hmethM.symm.trans hmethM'
  obtain ⟨c2, r2, m2, q1, q2, q3, q4, kP, hkP, hkPi⟩ := Cond.selects_spec hsel
  cases hcls.symm.trans q1
  cases (State.methodFound?_of_named hnamed hy).symm.trans q2
  cases hnamed.symm.trans q3
  have hselP : selectMethod e.platform s.vm cellB.cls mk = .method mk := by rw [Launch.admits_selectMethod X.admits]; exact q4
  obtain ⟨vm₁, X₁, hstep₁⟩ := X.invokevirtual hexec hown hlink hnamed hmethM hstM hkP hkPi hy (a := b) (cell := cellB) hcell
    (fun z h => by rw [h] at hobj; cases hobj) hselP hmethM habM hkP hkPi (g := g) hg (argsL := argsL) (rest := rest) (hlen _ hsigM) hstack hdg
  obtain ⟨v, B, X', hpost, hsteps⟩ := hK m meth c ⟨T.setVm vm₁, locs, cells, slots⟩ { g with stack := rest } (.invokevirtual index) mk (Value.ref b :: argsL).toArray X₁ hg hsize hdg hW (X₁.named hnamed) (hpre vm₁ X₁.warmed)
  exact ⟨v, vm₁, B, X₁.warmed, X', hpost, fun target h => hstep₁ _ fun acts => by rw [doInvoke_state]; exact hsteps.trans h⟩
abbrev vx_CVW (R : Room) (s : State) (args : Array Value) (own C : String) (index : Nat) (y : MethodName) (bytes : ByteArray) (maxL : Nat) (ret : Option FieldType) (hh : List (Nat × Nat × Nat × Nat)) (ws : List Cond) (rm : Room) (mc ms n : Nat) : Prop :=
  (rm.cells = mc ∧ rm.slots = ms ∧ rm.frames + 1 ≤ R.frames ∧ 8 + (maxL + 11) + rm.locals ≤ R.locals ∧ (∀ w ∈ ws, ∀ (a' : Array Value) (U : State), s.WarmedH U.vm → w.before a' U = true) ∧ Cond.codeWith y bytes maxL ret hh ∈ ws) ∧
  (Cond.codeWith y bytes maxL ret hh).before args s = true ∧ (Cond.initialized y.cls).before args s = true ∧ (y.cls ≠ "java/lang/invoke/MethodHandle" ∧ y.cls ≠ "java/lang/invoke/VarHandle") ∧
  (∀ sig, parseMethodDescriptor y.desc = some sig → n = sig.parameters.length) ∧ (Cond.methodLink own index y).before args s = true ∧ (Cond.instanceMethod y).before args s = true ∧ (Cond.selects C y y).before args s = true
theorem vx_cwVW {own C : String} {index maxL mc ms : Nat} {y : MethodName} {bytes : ByteArray} {ret : Option FieldType} {hh : List (Nat × Nat × Nat × Nat)} {Ts ws ws' : List Cond} {rm : Room} (n : Nat) (ht : ∀ w ∈ Ts, w.before args s = true) (hT : GoodIn Ts (wsV own index C y ws)) (hw : ws = Cond.codeWith y bytes maxL ret hh :: ws') (hrc : rm.cells = mc) (hrs : rm.slots = ms)
    (hd : y.cls = C ∧ y.cls ≠ "java/lang/invoke/MethodHandle" ∧ y.cls ≠ "java/lang/invoke/VarHandle" ∧ (parseMethodDescriptor y.desc).map (fun d => d.parameters.length) = some n) (hR : rm.frames + 1 ≤ R.frames ∧ 8 + (maxL + 11) + rm.locals ≤ R.locals) :
    vx_CVW R s args own C index y bytes maxL ret hh ws rm mc ms n := by
  obtain ⟨hC, hd⟩ := hd
  subst hC
  have ok : ∀ w ∈ wsV own index y.cls y ws, w.before args s = true := fun w h => ht w (hT w h).1
  have hG : GoodIn Ts ws := fun w h => hT w (by unfold wsV; exact List.mem_append_right _ h)
  have hc : Cond.codeWith y bytes maxL ret hh ∈ ws := by rw [hw]; exact List.mem_cons_self
  refine ⟨⟨hrc, hrs, hR.1, hR.2, pay_in ht hG, hc⟩, ht _ (hG _ hc).1, ok _ (by simp [wsV]), ⟨hd.1, hd.2.1⟩, fun sig h => ?_, ok _ (by simp [wsV]), ok _ (by simp [wsV]), ok _ (by simp [wsV])⟩
  have h2 := hd.2.2
  rw [h] at h2
  exact (Option.some.inj h2).symm
theorem vx_runVW {y : MethodName} {bytes cc : ByteArray} {maxL nL mc ms n index : Nat} {ret : Option FieldType} {hh : List (Nat × Nat × Nat × Nat)} {ws : List Cond} {rm : Room} {Pc : Array Value → State → Prop} {Qc : Array Value → State → Outcome → State → Prop} {free : Addr → Prop} {Ts : List Cond} {own C : String} {b : Addr} {As rest : List Value} {g : JFrame}
    (S : CallFix p m c cc nL s args Ts own) (hM : Met l y ws rm Pc Qc mc ms free) (cw : vx_CVW R s args own C index y bytes maxL ret hh ws rm mc ms n) (hp : PreV s H C b Pc As)
    (hg : g.method = m) (hn : As.length = n) (hsize : g.locals.size = nL) (hstack : g.stack = As.reverse ++ .ref b :: rest) (hW : 2 * g.monitorRoom + (rest.map fun v => v.category).sum ≤ 8) (hdg : decode cc g.pc = .ok (.invokevirtual index, 3)) (hf : cells + mc ≤ R.cells ∧ slots + ms ≤ R.slots) :
    va_Run p l e R s m args below meth c H locs cells slots mc ms g rest (Qc (Value.ref b :: As).toArray) free := by
  obtain ⟨⟨hrc, hrs, hfr, hlo, hws, hcw⟩, hcode, hini, hy, hlen, hl, hin, hse⟩ := cw
  have hK : Back l R p e below s args y 3 8 (PreOf R mc ms Pc) (PostOf Qc mc ms free) := va_backW (hh := hh) (bytes := bytes) (maxL := maxL) (ret := ret) hM hp.1 hrc hrs hfr hlo hws hcw (fun a' U hW => word_at hW (Or.inl (by first | rfl | simp [Cond.onTables, Cond.keeps, Cond.steady])) hini)
  obtain ⟨hx, hb, hml, ho, -⟩ := S
  obtain ⟨-, ⟨cellB, hcB, hoB, hclB⟩, hPc⟩ := hp
  intro T hT X
  obtain ⟨v, vm₁, ⟨U', l2, c2, s2⟩, hW₁, X', ⟨g', mk, t, L, e1, e2, hq, h1, hL, h2, h3⟩, st⟩ := vx_callVW X hx (C := C) (hh := hh) (bytes := bytes) (maxL := maxL) (ret := ret) ho hl hin hse hcode hy hK (by rw [hT]; exact hcB) hoB hclB hg (hsize.trans hml.symm) (argsL := As) (rest := rest) (fun sig h => hn.trans (hlen sig h)) hstack hW (by rw [hb]; exact hdg)
    (fun vm₁ hW₁ => ⟨hf.1, hf.2, hPc (T.setVm vm₁) hT hW₁⟩)
  dsimp only [Pt.U, Pt.locs, Pt.cells, Pt.slots] at X' e1 e2 h1 h2 h3 st
  subst h1; subst h2; subst h3
  exact ⟨v, (T.setVm vm₁).calling g' mk (Value.ref b :: As).toArray, t, U', L, hT, X', hL, e1, e2, hq, st⟩
section
variable {y : MethodName} {bytes cc : ByteArray} {maxL nL mc ms n index : Nat} {ret : Option FieldType} {ws : List Cond} {rm : Room} {Pc : Array Value → State → Prop} {Qc : Array Value → State → Outcome → State → Prop} {XC : String → State → State → Prop} {free : Addr → Prop} {Ts : List Cond} {own C : String} {b : Addr} {As rest : List Value} {g : JFrame}
theorem vx_runVX {hh : List (Nat × Nat × Nat × Nat)} (S : CallFix p m c cc nL s args Ts own) (hM : vx_Met l y ws rm Pc Qc XC mc ms free) (cw : vx_CVW R s args own C index y bytes maxL ret hh ws rm mc ms n) (hp : PreV s H C b Pc As)
    (hg : g.method = m) (hn : As.length = n) (hsize : g.locals.size = nL) (hstack : g.stack = As.reverse ++ .ref b :: rest) (hW : 2 * g.monitorRoom + (rest.map fun v => v.category).sum ≤ 8) (hdg : decode cc g.pc = .ok (.invokevirtual index, 3)) (hf : cells + mc ≤ R.cells ∧ slots + ms ≤ R.slots) :
    vx_Run p l e R s m args below meth c H locs cells slots mc ms g rest (Qc (Value.ref b :: As).toArray) XC free := by
  obtain ⟨⟨hrc, hrs, hfr, hlo, hws, hcw⟩, hcode, hini, hy, hlen, hl, hin, hse⟩ := cw
  have hK : vx_Back l R p e below s args y 3 8 (PreOf R mc ms Pc) (PostOf Qc mc ms free) (vx_Post XC mc ms free) := vx_backW (hh := hh) (bytes := bytes) (maxL := maxL) (ret := ret) hM hp.1 hrc hrs hfr hlo hws hcw (fun a' U hW => word_at hW (Or.inl (by first | rfl | simp [Cond.onTables, Cond.keeps, Cond.steady])) hini)
  obtain ⟨hx, hb, hml, ho, -⟩ := S
  obtain ⟨-, ⟨cellB, hcB, hoB, hclB⟩, hPc⟩ := hp
  intro T hT X
  rcases vx_callVX X hx (C := C) (hh := hh) (bytes := bytes) (maxL := maxL) (ret := ret) ho hl hin hse hcode hy hK (by rw [hT]; exact hcB) hoB hclB hg (hsize.trans hml.symm) (argsL := As) (rest := rest) (fun sig h => hn.trans (hlen sig h)) hstack hW (by rw [hb]; exact hdg)
    (fun vm₁ hW₁ => ⟨hf.1, hf.2, hPc (T.setVm vm₁) hT hW₁⟩) with ⟨v, vm₁, ⟨U', l2, c2, s2⟩, hW₁, X', ⟨g', mk, t, L, e1, e2, hq, h1, hL, h2, h3⟩, st⟩ | ⟨q, vm₁, ⟨U', l2, c2, s2⟩, hW₁, X', ⟨g', mk, t, L, E, ce, e1, e2, hq, hce, hcv, hcl, h1, hL, h2, h3⟩, st⟩
  · dsimp only [Pt.U, Pt.locs, Pt.cells, Pt.slots] at X' e1 e2 h1 h2 h3 st
    subst h1; subst h2; subst h3
    exact Or.inl ⟨v, (T.setVm vm₁).calling g' mk (Value.ref b :: As).toArray, t, U', L, hT, X', hL, e1, e2, hq, st⟩
  · dsimp only [Pt.U, Pt.locs, Pt.cells, Pt.slots] at X' e1 e2 h1 h2 h3 st hcl
    subst h1; subst h2; subst h3
    exact Or.inr ⟨q, (T.setVm vm₁).calling g' mk (Value.ref b :: As).toArray, t, U', L, E, ce, hT, X', hL, e1, e2, hq, hce, hcv, vx_cls hW₁ hcl, st⟩
theorem vx_runSX {hh : List (Nat × Nat × Nat × Nat)} (S : CallFix p m c cc nL s args Ts own) (hM : vx_Met l y ws rm Pc Qc XC mc ms free) (cw : vx_CSW R s args own index y bytes maxL ret hh ws rm mc ms n) (hp : PreS s H Pc As)
    (hg : g.method = m) (hn : As.length = n) (hsize : g.locals.size = nL) (hstack : g.stack = As.reverse ++ rest) (hW : 2 * g.monitorRoom + (rest.map fun v => v.category).sum ≤ 8) (hdg : decode cc g.pc = .ok (.invokestatic index, 3)) (hf : cells + mc ≤ R.cells ∧ slots + ms ≤ R.slots) :
    vx_Run p l e R s m args below meth c H locs cells slots mc ms g rest (Qc As.toArray) XC free := by
  obtain ⟨⟨hrc, hrs, hfr, hlo, hws, hcw⟩, hcode, hini, hy, hlen, hl, hstt⟩ := cw
  have hK : vx_Back l R p e below s args y 3 8 (PreOf R mc ms Pc) (PostOf Qc mc ms free) (vx_Post XC mc ms free) := vx_backW (hh := hh) (bytes := bytes) (maxL := maxL) (ret := ret) hM hp.1 hrc hrs hfr hlo hws hcw (fun a' U hW => word_at hW (Or.inl (by first | rfl | simp [Cond.onTables, Cond.keeps, Cond.steady])) hini)
  obtain ⟨hx, hb, hml, ho, -⟩ := S
  intro T hT X
  rcases vx_callSX X hx (hh := hh) (bytes := bytes) (maxL := maxL) (ret := ret) ho hl hstt hini hcode hy hK hg (hsize.trans hml.symm) (argsL := As) (rest := rest) (fun sig h => hn.trans (hlen sig h)) hstack hW (by rw [hb]; exact hdg)
    (fun vm₁ hW₁ => ⟨hf.1, hf.2, hp.2 (T.setVm vm₁) hT hW₁⟩) with ⟨v, vm₁, ⟨U', l2, c2, s2⟩, hW₁, X', ⟨g', mk, t, L, e1, e2, hq, h1, hL, h2, h3⟩, st⟩ | ⟨q, vm₁, ⟨U', l2, c2, s2⟩, hW₁, X', ⟨g', mk, t, L, E, ce, e1, e2, hq, hce, hcv, hcl, h1, hL, h2, h3⟩, st⟩
  · dsimp only [Pt.U, Pt.locs, Pt.cells, Pt.slots] at X' e1 e2 h1 h2 h3 st
    subst h1; subst h2; subst h3
    exact Or.inl ⟨v, (T.setVm vm₁).calling g' mk As.toArray, t, U', L, hT, X', hL, e1, e2, hq, st⟩
  · dsimp only [Pt.U, Pt.locs, Pt.cells, Pt.slots] at X' e1 e2 h1 h2 h3 st hcl
    subst h1; subst h2; subst h3
    exact Or.inr ⟨q, (T.setVm vm₁).calling g' mk As.toArray, t, U', L, E, ce, hT, X', hL, e1, e2, hq, hce, hcv, vx_cls hW₁ hcl, st⟩
end
end VXH
theorem vx_ofWH {l : Launch} {y : MethodName} {ws ws' : List Cond} {rm : Room} {Pc : Array Value → State → Prop} {Qc : Array Value → State → Outcome → State → Prop} {XC : String → State → State → Prop} {mc ms : Nat} {free : Addr → Prop} {cc : ByteArray} {maxL : Nat} {ret : Option FieldType} {hh : List (Nat × Nat × Nat × Nat)}
    (hy : plainName y.cls = true) (hw : ws = Cond.codeWith y cc maxL ret hh :: ws')
    (body : ∀ p e s m args below meth c s₁, BodyLoose p l y (headSpec ws rm) cc maxL ret e s m args below meth c s₁ → c.maxLocals = maxL → Pc args s →
      W p l e (headSpec ws rm).room s m args below meth c s.heap [] 0 0 (vx_MQ below Qc XC args s mc ms free) (entryFrame m args maxL)) : vx_Met l y ws rm Pc Qc XC mc ms free := by
  refine MetFree.of_bodyS (code := cc) (maxLocals := maxL) (ret := ret) hy ?_ ?_
  · intro args s m h hn
    obtain ⟨m9, meth, c, hn9, h1, h2, h3, h4, -, h5, h6, -⟩ := Cond.codeWith_spec (atoms_spec (ws := ws) h _ (by rw [hw]; exact List.mem_cons_self))
    cases hn.symm.trans hn9
    exact ⟨meth, c, h1, h2, h3, h4, h5, h6⟩
  · intro p e s m args below meth c s₁ B hml hP _
    have hh0 : s₁.heap = s.heap := by rw [B.state]; rfl
    obtain ⟨t, a1, o, b1, b2, b3⟩ := body p e s m args below meth c s₁ B hml hP s₁ hh0 (Stand.of_body B)
    exact ⟨t, o, a1, b1, b2, b3⟩
/-! ===== END ===== -/
end
section
/-! A program logic of its own over the kit's W: fx_Y says that from this place in this method, with these locals, this stack and this heap (a function from addresses to what stands there), the method comes to its end as K (its answer, the heap) or KX (what it threw, the heap) say. -/
def fx_ws : List Cond := lw_tbl.filter goodWord
/-- a method: its name, its code, how many locals, its answer's type -/
abbrev fx_M : Type := MethodName × ByteArray × Nat × Option FieldType
/-- a cell: an array (number of its type, contents), or an object (number of its kind in vwCl, fields) -/
abbrev fx_E : Type := (Nat × vp_A) ⊕ (Nat × List Value)
abbrev fx_H : Type := Nat → Option fx_E
/-- where the kinds' classes and slots are, where the arrays' classes are, the first address that is ours -/
abbrev fx_G : Type := va_G × (Nat → ClassId) × Nat
def fx_ty (t : Nat) : FieldType := match t with
  | 0 => .int
  | 1 => .byte
  | 2 => .boolean
  | 3 => .long
  | _ => .object RX3
def fx_at (g : fx_G) (a : Nat) (c : fx_E) (H : Heap) : Prop := match c with
  | .inl x => H[a]? = some (vp_cell (g.2.1 x.1) x.2)
  | .inr o => ∃ r : vw_C, vwCl[o.1]? = some r ∧ t_OB a (g.1.1 o.1) r.2.2 (g.1.2 o.1) H (vp_V o.2)
def fx_R (g : fx_G) (h : fx_H) (H : Heap) : Prop := (∀ (a : Nat) (c : fx_E), h a = some c → g.2.2 ≤ a ∧ fx_at g a c H) ∧ g.2.2 ≤ H.size
/-- FontDesk's constructor calls its nest mates' private constructors -/
def fx_N (U : State) : Prop := va_Nw (.methodLinkNest RX5 9 yX0_init "FontDesk") U ∧ va_Nw (.methodLinkNest RX5 24 yX1_init "FontDesk") U ∧ va_Nw (.methodLinkNest RX5 31 yX4_init "FontDesk") U ∧ va_AO RX3 U
theorem fx_N.moved {s U : State} (hW : s.WarmedH U.vm) (h : fx_N s) : fx_N U := ⟨va_Nw.warmM hW h.1, va_Nw.warmM hW h.2.1, va_Nw.warmM hW h.2.2.1, va_AO.moved hW.alike h.2.2.2⟩
def fx_K (g : fx_G) (U : State) : Prop := (∀ (c : Nat) (q : vw_C), vwCl[c]? = some q → u_Kn U q.1 q.2.1 q.2.2 (g.1.1 c) (g.1.2 c)) ∧ (∀ t : Nat, t < 5 → ArrOfT U (g.2.1 t) (fx_ty t) ∧ va_RA U (g.2.1 t) (fx_ty t)) ∧ fx_N U
theorem fx_K.moved {g : fx_G} {u U : State} (hW : u.WarmedH U.vm) (h : fx_K g u) : fx_K g U :=
  ⟨fun c q hq => u_Kn_moved hW.alike (h.1 c q hq), fun t ht => ⟨arrOfT_moved hW.alike (h.2.1 t ht).1, (h.2.1 t ht).2.moved hW.alike⟩, h.2.2.moved hW⟩
theorem fx_at.kept {g : fx_G} {a : Nat} {c : fx_E} {H H1 : Heap} (h : fx_at g a c H) (hq : H1[a]? = H[a]?) : fx_at g a c H1 := by
  cases c with
  | inl x => exact hq.trans h
  | inr o =>
    obtain ⟨r, h1, h2⟩ := h
    exact ⟨r, h1, h2.kept hq⟩
theorem fx_at.lt {g : fx_G} {a : Nat} {c : fx_E} {H : Heap} (h : fx_at g a c H) : a < H.size := by
  cases c with
  | inl x => exact (Array.getElem?_eq_some_iff.mp h).1
  | inr o =>
    obtain ⟨r, -, cell, h2, -⟩ := h
    exact (Array.getElem?_eq_some_iff.mp h2).1
theorem fx_R.kept {g : fx_G} {h : fx_H} {H H1 : Heap} (hR : fx_R g h H) (hz : H.size ≤ H1.size) (ho : ∀ q : Nat, q < H.size → H1[q]? = H[q]?) : fx_R g h H1 :=
  ⟨fun a c hc => ⟨(hR.1 a c hc).1, (hR.1 a c hc).2.kept (ho a (hR.1 a c hc).2.lt)⟩, Nat.le_trans hR.2 hz⟩
theorem fx_R.set {g : fx_G} {h : fx_H} {H H1 : Heap} {a : Nat} {c : fx_E} (hR : fx_R g h H) (ha : g.2.2 ≤ a) (hc : fx_at g a c H1) (hz : H.size ≤ H1.size) (ho : ∀ q : Nat, q ≠ a → q < H.size → H1[q]? = H[q]?) : fx_R g (va_up h a (some c)) H1 := by
  refine ⟨fun b e hb => ?_, Nat.le_trans hR.2 hz⟩
  by_cases hba : b = a
  · subst hba
    rw [va_up_self] at hb
    cases hb
    exact ⟨ha, hc⟩
  · rw [va_up_ne _ _ hba] at hb
    have h1 := hR.1 b e hb
    exact ⟨h1.1, h1.2.kept (ho b hba h1.2.lt)⟩
theorem fx_R.fresh {g : fx_G} {h : fx_H} {H : Heap} (hR : fx_R g h H) : h H.size = none := by
  cases hc : h H.size with
  | none => rfl
  | some c => exact absurd (hR.1 _ _ hc).2.lt (Nat.lt_irrefl _)
/-- what a method's end says -/
def fx_Qc (g : fx_G) (K : Option Value → fx_H → Prop) : Array Value → State → Outcome → State → Prop := fun _ _ o t => ∃ (r : Option Value) (h : fx_H), o = .returned r ∧ K r h ∧ fx_R g h t.heap
def fx_XC (g : fx_G) (KX : String → fx_H → Prop) : String → State → State → Prop := fun E _ t => ∃ h : fx_H, KX E h ∧ fx_R g h t.heap
/-- what stands still in a method -/
def fx_C (g : fx_G) (M : fx_M) (d lo : Nat) (p : Program) (R : Room) (s : State) (m : MethodId) (args : Array Value) (meth : Method) (c : Code) : Prop :=
  p.tables.exec = Jvm.exec ∧ c.code = M.2.1 ∧ c.maxLocals = M.2.2.1 ∧ meth.sig.returnType = M.2.2.2 ∧ meth.locks = false ∧ s.vm.findClass M.1.cls = some m.cls ∧ meth.name = M.1.name ∧ (∀ w ∈ fx_ws, w.before args s = true) ∧ fx_K g s ∧ d ≤ R.frames ∧ lo ≤ R.locals ∧ g.2.2 ≤ s.heap.size
def fx_Y (g : fx_G) (M : fx_M) (d lo : Nat) (K : Option Value → fx_H → Prop) (KX : String → fx_H → Prop) (pc : Nat) (lv : List (Nat × Value)) (st : List Value) (h : fx_H) (cu su : Nat) : Prop :=
  ∀ (p : Program) (l : Launch) (e : Env) (R : Room) (s : State) (m : MethodId) (args : Array Value) (below : List Frame) (meth : Method) (c : Code) (H : Heap) (locs : List Loc) (cells slots : Nat) (ls : Array Slot),
    fx_C g M d lo p R s m args meth c → fx_R g h H → lv_has ls M.2.2.1 lv → cells + cu ≤ R.cells → slots + su ≤ R.slots → (∀ q ∈ locs, g.2.2 ≤ q.base) →
    W p l e R s m args below meth c H locs cells slots (vx_MQ below (fx_Qc g K) (fx_XC g KX) args s R.cells R.slots (fun q => g.2.2 ≤ q)) (F0 m pc ls st)
theorem fx_C.x {g : fx_G} {M : fx_M} {d lo : Nat} {p : Program} {R : Room} {s : State} {m : MethodId} {args : Array Value} {meth : Method} {c : Code} (h : fx_C g M d lo p R s m args meth c) : p.tables.exec = Jvm.exec := h.1
theorem fx_C.b {g : fx_G} {M : fx_M} {d lo : Nat} {p : Program} {R : Room} {s : State} {m : MethodId} {args : Array Value} {meth : Method} {c : Code} (h : fx_C g M d lo p R s m args meth c) : c.code = M.2.1 := h.2.1
theorem fx_C.ml {g : fx_G} {M : fx_M} {d lo : Nat} {p : Program} {R : Room} {s : State} {m : MethodId} {args : Array Value} {meth : Method} {c : Code} (h : fx_C g M d lo p R s m args meth c) : c.maxLocals = M.2.2.1 := h.2.2.1
theorem fx_C.r {g : fx_G} {M : fx_M} {d lo : Nat} {p : Program} {R : Room} {s : State} {m : MethodId} {args : Array Value} {meth : Method} {c : Code} (h : fx_C g M d lo p R s m args meth c) : meth.sig.returnType = M.2.2.2 := h.2.2.2.1
theorem fx_C.lk {g : fx_G} {M : fx_M} {d lo : Nat} {p : Program} {R : Room} {s : State} {m : MethodId} {args : Array Value} {meth : Method} {c : Code} (h : fx_C g M d lo p R s m args meth c) : meth.locks = false := h.2.2.2.2.1
theorem fx_C.own {g : fx_G} {M : fx_M} {d lo : Nat} {p : Program} {R : Room} {s : State} {m : MethodId} {args : Array Value} {meth : Method} {c : Code} (h : fx_C g M d lo p R s m args meth c) : s.vm.findClass M.1.cls = some m.cls := h.2.2.2.2.2.1
theorem fx_C.nm {g : fx_G} {M : fx_M} {d lo : Nat} {p : Program} {R : Room} {s : State} {m : MethodId} {args : Array Value} {meth : Method} {c : Code} (h : fx_C g M d lo p R s m args meth c) : meth.name = M.1.name := h.2.2.2.2.2.2.1
theorem fx_C.ts {g : fx_G} {M : fx_M} {d lo : Nat} {p : Program} {R : Room} {s : State} {m : MethodId} {args : Array Value} {meth : Method} {c : Code} (h : fx_C g M d lo p R s m args meth c) : ∀ w ∈ fx_ws, w.before args s = true := h.2.2.2.2.2.2.2.1
theorem fx_C.k {g : fx_G} {M : fx_M} {d lo : Nat} {p : Program} {R : Room} {s : State} {m : MethodId} {args : Array Value} {meth : Method} {c : Code} (h : fx_C g M d lo p R s m args meth c) : fx_K g s := h.2.2.2.2.2.2.2.2.1
theorem fx_C.d {g : fx_G} {M : fx_M} {d lo : Nat} {p : Program} {R : Room} {s : State} {m : MethodId} {args : Array Value} {meth : Method} {c : Code} (h : fx_C g M d lo p R s m args meth c) : d ≤ R.frames := h.2.2.2.2.2.2.2.2.2.1
theorem fx_C.lo {g : fx_G} {M : fx_M} {d lo : Nat} {p : Program} {R : Room} {s : State} {m : MethodId} {args : Array Value} {meth : Method} {c : Code} (h : fx_C g M d lo p R s m args meth c) : lo ≤ R.locals := h.2.2.2.2.2.2.2.2.2.2.1
theorem fx_C.hp {g : fx_G} {M : fx_M} {d lo : Nat} {p : Program} {R : Room} {s : State} {m : MethodId} {args : Array Value} {meth : Method} {c : Code} (h : fx_C g M d lo p R s m args meth c) : g.2.2 ≤ s.heap.size := h.2.2.2.2.2.2.2.2.2.2.2
/-- locals: what is read, and how a store changes them -/
theorem fx_lv {ls : Array Slot} {nL i : Nat} {v : Value} {lv : List (Nat × Value)} (hl : lv_has ls nL lv) (h : lv.lookup i = some v) : ls[i]? = some (.val v) := by
  have hm : (i, v) ∈ lv := by
    clear hl
    induction lv with
    | nil => cases h
    | cons q r ih =>
      rw [List.lookup_cons] at h
      by_cases hq : i = q.1
      · subst hq
        simp at h
        subst h
        exact List.mem_cons_self
      · have hb : (i == q.1) = false := by simpa using hq
        rw [hb] at h
        exact List.mem_cons_of_mem _ (ih h)
  exact hl.2.2 _ hm
def fx_s1 (lv : List (Nat × Value)) (i : Nat) (v : Value) : List (Nat × Value) := (i, v) :: lv.filter (fun q => !(q.1 == i) && !(q.1 + 1 == i && q.2.category == 2))
def fx_s2 (lv : List (Nat × Value)) (i : Nat) (v : Value) : List (Nat × Value) := (i, v) :: lv.filter (fun q => !(q.1 == i) && (!(q.1 == i + 1) && !(q.1 + 1 == i && q.2.category == 2)))
def fx_le : List (Nat × Value) → List (Nat × Value) → Prop
  | [], _ => True
  | q :: r, lv => lv.lookup q.1 = some q.2 ∧ fx_le r lv
theorem fx_le.mem {a b : List (Nat × Value)} (h : fx_le a b) : ∀ q ∈ a, b.lookup q.1 = some q.2 := by
  induction a with
  | nil => intro q hq; cases hq
  | cons x r ih =>
    intro q hq
    rcases List.mem_cons.mp hq with rfl | hq
    · exact h.1
    · exact ih h.2 q hq
theorem fx_le.has {a b : List (Nat × Value)} {ls : Array Slot} {nL : Nat} (h : fx_le a b) (hl : lv_has ls nL b) : lv_has ls nL a :=
  ⟨hl.1, hl.2.1, fun q hq => fx_lv hl (h.mem q hq)⟩
section FXR
variable {g : fx_G} {M : fx_M} {d lo : Nat} {K : Option Value → fx_H → Prop} {KX : String → fx_H → Prop} {pc : Nat} {lv : List (Nat × Value)} {st : List Value} {h : fx_H} {cu su : Nat}
theorem fx_sub (lv' : List (Nat × Value)) (hl : fx_le lv' lv) (k : fx_Y g M d lo K KX pc lv' st h cu su) : fx_Y g M d lo K KX pc lv st h cu su :=
  fun p l e R s m args below meth c H locs cells slots ls hC hR hls h1 h2 h3 => k p l e R s m args below meth c H locs cells slots ls hC hR (hl.has hls) h1 h2 h3
theorem fx_less {cu' su' : Nat} (h1 : cu' ≤ cu) (h2 : su' ≤ su) (k : fx_Y g M d lo K KX pc lv st h cu' su') : fx_Y g M d lo K KX pc lv st h cu su :=
  fun p l e R s m args below meth c H locs cells slots ls hC hR hls q1 q2 h3 => k p l e R s m args below meth c H locs cells slots ls hC hR hls (by omega) (by omega) h3
/-- a smaller heap is enough -/
theorem fx_heap {h' : fx_H} (hh : ∀ a c, h' a = some c → h a = some c) (k : fx_Y g M d lo K KX pc lv st h' cu su) : fx_Y g M d lo K KX pc lv st h cu su :=
  fun p l e R s m args below meth c H locs cells slots ls hC hR hls q1 q2 h3 => k p l e R s m args below meth c H locs cells slots ls hC ⟨fun a c hc => hR.1 a c (hh a c hc), hR.2⟩ hls q1 q2 h3
theorem fx_mono {K' : Option Value → fx_H → Prop} {KX' : String → fx_H → Prop} (hK : ∀ r h, K r h → K' r h) (hX : ∀ E h, KX E h → KX' E h) (k : fx_Y g M d lo K KX pc lv st h cu su) : fx_Y g M d lo K' KX' pc lv st h cu su := by
  intro p l e R s m args below meth c H locs cells slots ls hC hR hls q1 q2 h3 T hT X
  obtain ⟨t, a1, o, b1, b2, b3⟩ := k p l e R s m args below meth c H locs cells slots ls hC hR hls q1 q2 h3 T hT X
  refine ⟨t, a1, o, b1, b2, ?_⟩
  rcases b3 with ⟨⟨r, h', e1, e2, e3⟩, e4⟩ | ⟨q, e1, E, ce, L, ⟨h', e2, e3⟩, e4⟩
  · exact Or.inl ⟨⟨r, h', e1, hK _ _ e2, e3⟩, e4⟩
  · exact Or.inr ⟨q, e1, E, ce, L, ⟨h', hX _ _ e2, e3⟩, e4⟩

theorem fx_iadd {x y : Int32} (hd : decode M.2.1 pc = .ok (.iadd, 1)) (k : fx_Y g M d lo K KX (pc + 1) lv (.int (x + y) :: st) h cu su) : fx_Y g M d lo K KX pc lv (.int y :: .int x :: st) h cu su := by
  intro p l e R s m args below meth c H locs cells slots ls hC hR hl h1 h2 h3
  exact lv_iadd hC.x hC.b hd (k p l e R s m args below meth c H locs cells slots ls hC hR hl h1 h2 h3)
theorem fx_isub {x y : Int32} (hd : decode M.2.1 pc = .ok (.isub, 1)) (k : fx_Y g M d lo K KX (pc + 1) lv (.int (x - y) :: st) h cu su) : fx_Y g M d lo K KX pc lv (.int y :: .int x :: st) h cu su := by
  intro p l e R s m args below meth c H locs cells slots ls hC hR hl h1 h2 h3
  exact lv_isub hC.x hC.b hd (k p l e R s m args below meth c H locs cells slots ls hC hR hl h1 h2 h3)
theorem fx_imul {x y : Int32} (hd : decode M.2.1 pc = .ok (.imul, 1)) (k : fx_Y g M d lo K KX (pc + 1) lv (.int (x * y) :: st) h cu su) : fx_Y g M d lo K KX pc lv (.int y :: .int x :: st) h cu su := by
  intro p l e R s m args below meth c H locs cells slots ls hC hR hl h1 h2 h3
  exact lv_imul hC.x hC.b hd (k p l e R s m args below meth c H locs cells slots ls hC hR hl h1 h2 h3)
theorem fx_iand {x y : Int32} (hd : decode M.2.1 pc = .ok (.iand, 1)) (k : fx_Y g M d lo K KX (pc + 1) lv (.int (x &&& y) :: st) h cu su) : fx_Y g M d lo K KX pc lv (.int y :: .int x :: st) h cu su := by
  intro p l e R s m args below meth c H locs cells slots ls hC hR hl h1 h2 h3
  exact lv_iand hC.x hC.b hd (k p l e R s m args below meth c H locs cells slots ls hC hR hl h1 h2 h3)
theorem fx_ior {x y : Int32} (hd : decode M.2.1 pc = .ok (.ior, 1)) (k : fx_Y g M d lo K KX (pc + 1) lv (.int (x ||| y) :: st) h cu su) : fx_Y g M d lo K KX pc lv (.int y :: .int x :: st) h cu su := by
  intro p l e R s m args below meth c H locs cells slots ls hC hR hl h1 h2 h3
  exact lv_ior hC.x hC.b hd (k p l e R s m args below meth c H locs cells slots ls hC hR hl h1 h2 h3)
theorem fx_ixor {x y : Int32} (hd : decode M.2.1 pc = .ok (.ixor, 1)) (k : fx_Y g M d lo K KX (pc + 1) lv (.int (x ^^^ y) :: st) h cu su) : fx_Y g M d lo K KX pc lv (.int y :: .int x :: st) h cu su := by
  intro p l e R s m args below meth c H locs cells slots ls hC hR hl h1 h2 h3
  exact lv_ixor hC.x hC.b hd (k p l e R s m args below meth c H locs cells slots ls hC hR hl h1 h2 h3)
theorem fx_ishl {x y : Int32} (hd : decode M.2.1 pc = .ok (.ishl, 1)) (k : fx_Y g M d lo K KX (pc + 1) lv (.int (x <<< (y &&& 31)) :: st) h cu su) : fx_Y g M d lo K KX pc lv (.int y :: .int x :: st) h cu su := by
  intro p l e R s m args below meth c H locs cells slots ls hC hR hl h1 h2 h3
  exact lv_ishl hC.x hC.b hd (k p l e R s m args below meth c H locs cells slots ls hC hR hl h1 h2 h3)
theorem fx_ishr {x y : Int32} (hd : decode M.2.1 pc = .ok (.ishr, 1)) (k : fx_Y g M d lo K KX (pc + 1) lv (.int (x >>> (y &&& 31)) :: st) h cu su) : fx_Y g M d lo K KX pc lv (.int y :: .int x :: st) h cu su := by
  intro p l e R s m args below meth c H locs cells slots ls hC hR hl h1 h2 h3
  exact lv_ishr hC.x hC.b hd (k p l e R s m args below meth c H locs cells slots ls hC hR hl h1 h2 h3)
theorem fx_iushr {x y : Int32} (hd : decode M.2.1 pc = .ok (.iushr, 1)) (k : fx_Y g M d lo K KX (pc + 1) lv (.int ((x.toUInt32 >>> (y.toUInt32 &&& Int32.toUInt32 31)).toInt32) :: st) h cu su) : fx_Y g M d lo K KX pc lv (.int y :: .int x :: st) h cu su := by
  intro p l e R s m args below meth c H locs cells slots ls hC hR hl h1 h2 h3
  exact lv_iushr hC.x hC.b hd rfl (k p l e R s m args below meth c H locs cells slots ls hC hR hl h1 h2 h3)
theorem fx_ladd {x y : Int64} (hd : decode M.2.1 pc = .ok (.ladd, 1)) (k : fx_Y g M d lo K KX (pc + 1) lv (.long (x + y) :: st) h cu su) : fx_Y g M d lo K KX pc lv (.long y :: .long x :: st) h cu su := by
  intro p l e R s m args below meth c H locs cells slots ls hC hR hl h1 h2 h3
  exact lv_ladd hC.x hC.b hd (k p l e R s m args below meth c H locs cells slots ls hC hR hl h1 h2 h3)
theorem fx_lsub {x y : Int64} (hd : decode M.2.1 pc = .ok (.lsub, 1)) (k : fx_Y g M d lo K KX (pc + 1) lv (.long (x - y) :: st) h cu su) : fx_Y g M d lo K KX pc lv (.long y :: .long x :: st) h cu su := by
  intro p l e R s m args below meth c H locs cells slots ls hC hR hl h1 h2 h3
  exact lv_lsub hC.x hC.b hd (k p l e R s m args below meth c H locs cells slots ls hC hR hl h1 h2 h3)
theorem fx_lmul {x y : Int64} (hd : decode M.2.1 pc = .ok (.lmul, 1)) (k : fx_Y g M d lo K KX (pc + 1) lv (.long (x * y) :: st) h cu su) : fx_Y g M d lo K KX pc lv (.long y :: .long x :: st) h cu su := by
  intro p l e R s m args below meth c H locs cells slots ls hC hR hl h1 h2 h3
  exact lv_lmul hC.x hC.b hd (k p l e R s m args below meth c H locs cells slots ls hC hR hl h1 h2 h3)
theorem fx_land {x y : Int64} (hd : decode M.2.1 pc = .ok (.land, 1)) (k : fx_Y g M d lo K KX (pc + 1) lv (.long (x &&& y) :: st) h cu su) : fx_Y g M d lo K KX pc lv (.long y :: .long x :: st) h cu su := by
  intro p l e R s m args below meth c H locs cells slots ls hC hR hl h1 h2 h3
  exact lv_land hC.x hC.b hd (k p l e R s m args below meth c H locs cells slots ls hC hR hl h1 h2 h3)
theorem fx_lor {x y : Int64} (hd : decode M.2.1 pc = .ok (.lor, 1)) (k : fx_Y g M d lo K KX (pc + 1) lv (.long (x ||| y) :: st) h cu su) : fx_Y g M d lo K KX pc lv (.long y :: .long x :: st) h cu su := by
  intro p l e R s m args below meth c H locs cells slots ls hC hR hl h1 h2 h3
  exact lv_lor hC.x hC.b hd (k p l e R s m args below meth c H locs cells slots ls hC hR hl h1 h2 h3)
theorem fx_lshl {x : Int64} {y : Int32} (hd : decode M.2.1 pc = .ok (.lshl, 1)) (k : fx_Y g M d lo K KX (pc + 1) lv (.long (x <<< (y.toInt64 &&& 63)) :: st) h cu su) : fx_Y g M d lo K KX pc lv (.int y :: .long x :: st) h cu su := by
  intro p l e R s m args below meth c H locs cells slots ls hC hR hl h1 h2 h3
  exact lv_lshl hC.x hC.b hd rfl (k p l e R s m args below meth c H locs cells slots ls hC hR hl h1 h2 h3)
theorem fx_lshr {x : Int64} {y : Int32} (hd : decode M.2.1 pc = .ok (.lshr, 1)) (k : fx_Y g M d lo K KX (pc + 1) lv (.long (x >>> (y.toInt64 &&& 63)) :: st) h cu su) : fx_Y g M d lo K KX pc lv (.int y :: .long x :: st) h cu su := by
  intro p l e R s m args below meth c H locs cells slots ls hC hR hl h1 h2 h3
  exact lv_lshr hC.x hC.b hd rfl (k p l e R s m args below meth c H locs cells slots ls hC hR hl h1 h2 h3)
theorem fx_idiv {x y : Int32} (hd : decode M.2.1 pc = .ok (.idiv, 1)) (hne : ¬ y = 0) (k : fx_Y g M d lo K KX (pc + 1) lv (.int (x / y) :: st) h cu su) : fx_Y g M d lo K KX pc lv (.int y :: .int x :: st) h cu su := by
  intro p l e R s m args below meth c H locs cells slots ls hC hR hl h1 h2 h3
  exact lv_idiv hC.x hC.b hd hne (k p l e R s m args below meth c H locs cells slots ls hC hR hl h1 h2 h3)
theorem fx_irem {x y : Int32} (hd : decode M.2.1 pc = .ok (.irem, 1)) (hne : ¬ y = 0) (k : fx_Y g M d lo K KX (pc + 1) lv (.int (x - x / y * y) :: st) h cu su) : fx_Y g M d lo K KX pc lv (.int y :: .int x :: st) h cu su := by
  intro p l e R s m args below meth c H locs cells slots ls hC hR hl h1 h2 h3
  exact lv_irem hC.x hC.b hd hne (k p l e R s m args below meth c H locs cells slots ls hC hR hl h1 h2 h3)
theorem fx_i2l {x : Int32} (hd : decode M.2.1 pc = .ok (.i2l, 1)) (k : fx_Y g M d lo K KX (pc + 1) lv (.long x.toInt64 :: st) h cu su) : fx_Y g M d lo K KX pc lv (.int x :: st) h cu su := by
  intro p l e R s m args below meth c H locs cells slots ls hC hR hl h1 h2 h3
  exact lv_i2l hC.x hC.b hd rfl (k p l e R s m args below meth c H locs cells slots ls hC hR hl h1 h2 h3)
theorem fx_l2i {x : Int64} (hd : decode M.2.1 pc = .ok (.l2i, 1)) (k : fx_Y g M d lo K KX (pc + 1) lv (.int x.toInt32 :: st) h cu su) : fx_Y g M d lo K KX pc lv (.long x :: st) h cu su := by
  intro p l e R s m args below meth c H locs cells slots ls hC hR hl h1 h2 h3
  exact lv_l2i hC.x hC.b hd rfl (k p l e R s m args below meth c H locs cells slots ls hC hR hl h1 h2 h3)
theorem fx_i2b {x : Int32} (hd : decode M.2.1 pc = .ok (.i2b, 1)) (k : fx_Y g M d lo K KX (pc + 1) lv (.int x.toInt8.toInt32 :: st) h cu su) : fx_Y g M d lo K KX pc lv (.int x :: st) h cu su := by
  intro p l e R s m args below meth c H locs cells slots ls hC hR hl h1 h2 h3
  exact lv_i2b hC.x hC.b hd rfl (k p l e R s m args below meth c H locs cells slots ls hC hR hl h1 h2 h3)
theorem fx_null  (hd : decode M.2.1 pc = .ok (.aconst_null, 1)) (k : fx_Y g M d lo K KX (pc + 1) lv (.null :: st) h cu su) : fx_Y g M d lo K KX pc lv st h cu su := by
  intro p l e R s m args below meth c H locs cells slots ls hC hR hl h1 h2 h3
  exact lv_null hC.x hC.b hd (k p l e R s m args below meth c H locs cells slots ls hC hR hl h1 h2 h3)
theorem fx_dup {v : Value} (hd : decode M.2.1 pc = .ok (.dup, 1)) (hv : v.category = 1) (k : fx_Y g M d lo K KX (pc + 1) lv (v :: v :: st) h cu su) : fx_Y g M d lo K KX pc lv (v :: st) h cu su := by
  intro p l e R s m args below meth c H locs cells slots ls hC hR hl h1 h2 h3
  exact lv_dup hC.x hC.b hd hv (k p l e R s m args below meth c H locs cells slots ls hC hR hl h1 h2 h3)
theorem fx_pop {v : Value} (hd : decode M.2.1 pc = .ok (.pop, 1)) (hv : v.category = 1) (k : fx_Y g M d lo K KX (pc + 1) lv st h cu su) : fx_Y g M d lo K KX pc lv (v :: st) h cu su := by
  intro p l e R s m args below meth c H locs cells slots ls hC hR hl h1 h2 h3
  exact lv_pop hC.x hC.b hd hv (k p l e R s m args below meth c H locs cells slots ls hC hR hl h1 h2 h3)
theorem fx_dup2 {v u : Value} (hd : decode M.2.1 pc = .ok (.dup2, 1)) (hv : v.category = 1) (hu : u.category = 1) (k : fx_Y g M d lo K KX (pc + 1) lv (v :: u :: v :: u :: st) h cu su) : fx_Y g M d lo K KX pc lv (v :: u :: st) h cu su := by
  intro p l e R s m args below meth c H locs cells slots ls hC hR hl h1 h2 h3
  exact lv_dup2_11 hC.x hC.b hd hv hu (k p l e R s m args below meth c H locs cells slots ls hC hR hl h1 h2 h3)
theorem fx_dup_x1 {v u : Value} (hd : decode M.2.1 pc = .ok (.dup_x1, 1)) (hv : v.category = 1) (hu : u.category = 1) (k : fx_Y g M d lo K KX (pc + 1) lv (v :: u :: v :: st) h cu su) : fx_Y g M d lo K KX pc lv (v :: u :: st) h cu su := by
  intro p l e R s m args below meth c H locs cells slots ls hC hR hl h1 h2 h3
  exact lv_dup_x1 hC.x hC.b hd hv hu (k p l e R s m args below meth c H locs cells slots ls hC hR hl h1 h2 h3)
theorem fx_iconst {n : Int} (v : Int32) (hd : decode M.2.1 pc = .ok (.iconst n, 1)) (hv : Int32.ofInt n = v) (k : fx_Y g M d lo K KX (pc + 1) lv (.int v :: st) h cu su) : fx_Y g M d lo K KX pc lv st h cu su := by
  intro p l e R s m args below meth c H locs cells slots ls hC hR hl h1 h2 h3
  exact lv_iconst hC.x hC.b hd hv (k p l e R s m args below meth c H locs cells slots ls hC hR hl h1 h2 h3)
theorem fx_bipush {n : Int} (v : Int32) (hd : decode M.2.1 pc = .ok (.bipush n, 2)) (hv : (Int8.ofInt n).toInt32 = v) (k : fx_Y g M d lo K KX (pc + 2) lv (.int v :: st) h cu su) : fx_Y g M d lo K KX pc lv st h cu su := by
  intro p l e R s m args below meth c H locs cells slots ls hC hR hl h1 h2 h3
  exact lv_bipush hC.x hC.b hd hv (k p l e R s m args below meth c H locs cells slots ls hC hR hl h1 h2 h3)
theorem fx_sipush {n : Int} (v : Int32) (hd : decode M.2.1 pc = .ok (.sipush n, 3)) (hv : (Int16.ofInt n).toInt32 = v) (k : fx_Y g M d lo K KX (pc + 3) lv (.int v :: st) h cu su) : fx_Y g M d lo K KX pc lv st h cu su := by
  intro p l e R s m args below meth c H locs cells slots ls hC hR hl h1 h2 h3
  exact lv_sipush hC.x hC.b hd hv (k p l e R s m args below meth c H locs cells slots ls hC hR hl h1 h2 h3)
theorem fx_lconst {n : Fin 2} (v : Int64) (hd : decode M.2.1 pc = .ok (.lconst n, 1)) (hv : Int64.ofNat n = v) (k : fx_Y g M d lo K KX (pc + 1) lv (.long v :: st) h cu su) : fx_Y g M d lo K KX pc lv st h cu su := by
  intro p l e R s m args below meth c H locs cells slots ls hC hR hl h1 h2 h3
  exact lv_lconst hC.x hC.b hd hv (k p l e R s m args below meth c H locs cells slots ls hC hR hl h1 h2 h3)
theorem fx_ldc {i : Nat} {v : Int32} (hd : decode M.2.1 pc = .ok (.ldc i, 2)) (hw : Cond.constant M.1.cls i v ∈ fx_ws) (k : fx_Y g M d lo K KX (pc + 2) lv (.int v :: st) h cu su) : fx_Y g M d lo K KX pc lv st h cu su := by
  intro p l e R s m args below meth c H locs cells slots ls hC hR hl h1 h2 h3
  exact W.ldc hC.x hC.b hC.own (hC.ts _ hw) rfl hd (k p l e R s m args below meth c H locs cells slots ls hC hR hl h1 h2 h3)
theorem fx_ldc2 {i : Nat} {v : Int64} (hd : decode M.2.1 pc = .ok (.ldc2_w i, 3)) (hw : Cond.constantLong M.1.cls i v ∈ fx_ws) (k : fx_Y g M d lo K KX (pc + 3) lv (.long v :: st) h cu su) : fx_Y g M d lo K KX pc lv st h cu su := by
  intro p l e R s m args below meth c H locs cells slots ls hC hR hl h1 h2 h3
  exact W.ldc2 hC.x hC.b hC.own (hC.ts _ hw) rfl hd (k p l e R s m args below meth c H locs cells slots ls hC hR hl h1 h2 h3)
theorem fx_iload {i : Nat} {x : Int32} (hd : decode M.2.1 pc = .ok (.iload i, 2)) (hv : lv.lookup i = some (.int x)) (k : fx_Y g M d lo K KX (pc + 2) lv (.int x :: st) h cu su) : fx_Y g M d lo K KX pc lv st h cu su := by
  intro p l e R s m args below meth c H locs cells slots ls hC hR hl h1 h2 h3
  exact lv_iload hC.x hC.b hd (fx_lv hl hv) (k p l e R s m args below meth c H locs cells slots ls hC hR hl h1 h2 h3)
theorem fx_iloadn {i : Fin 4} {x : Int32} (hd : decode M.2.1 pc = .ok (.iload_n i, 1)) (hv : lv.lookup (i : Nat) = some (.int x)) (k : fx_Y g M d lo K KX (pc + 1) lv (.int x :: st) h cu su) : fx_Y g M d lo K KX pc lv st h cu su := by
  intro p l e R s m args below meth c H locs cells slots ls hC hR hl h1 h2 h3
  exact lv_iload_n hC.x hC.b hd rfl (fx_lv hl hv) (k p l e R s m args below meth c H locs cells slots ls hC hR hl h1 h2 h3)
theorem fx_istore {i : Nat} {x : Int32} (hd : decode M.2.1 pc = .ok (.istore i, 2)) (hi : i < M.2.2.1) (k : fx_Y g M d lo K KX (pc + 2) (fx_s1 lv i (.int x)) st h cu su) : fx_Y g M d lo K KX pc lv (.int x :: st) h cu su := by
  intro p l e R s m args below meth c H locs cells slots ls hC hR hl h1 h2 h3
  exact lv_istore hC.x hC.b hd hl hi rfl (fun ls' hl' => k p l e R s m args below meth c H locs cells slots ls' hC hR hl' h1 h2 h3)
theorem fx_istoren {i : Fin 4} {x : Int32} (hd : decode M.2.1 pc = .ok (.istore_n i, 1)) (hi : (i : Nat) < M.2.2.1) (k : fx_Y g M d lo K KX (pc + 1) (fx_s1 lv (i : Nat) (.int x)) st h cu su) : fx_Y g M d lo K KX pc lv (.int x :: st) h cu su := by
  intro p l e R s m args below meth c H locs cells slots ls hC hR hl h1 h2 h3
  exact lv_istore_n hC.x hC.b hd rfl hl hi rfl (fun ls' hl' => k p l e R s m args below meth c H locs cells slots ls' hC hR hl' h1 h2 h3)
theorem fx_lload {i : Nat} {x : Int64} (hd : decode M.2.1 pc = .ok (.lload i, 2)) (hv : lv.lookup i = some (.long x)) (k : fx_Y g M d lo K KX (pc + 2) lv (.long x :: st) h cu su) : fx_Y g M d lo K KX pc lv st h cu su := by
  intro p l e R s m args below meth c H locs cells slots ls hC hR hl h1 h2 h3
  exact lv_lload hC.x hC.b hd (fx_lv hl hv) (k p l e R s m args below meth c H locs cells slots ls hC hR hl h1 h2 h3)
theorem fx_lloadn {i : Fin 4} {x : Int64} (hd : decode M.2.1 pc = .ok (.lload_n i, 1)) (hv : lv.lookup (i : Nat) = some (.long x)) (k : fx_Y g M d lo K KX (pc + 1) lv (.long x :: st) h cu su) : fx_Y g M d lo K KX pc lv st h cu su := by
  intro p l e R s m args below meth c H locs cells slots ls hC hR hl h1 h2 h3
  exact lv_lload_n hC.x hC.b hd rfl (fx_lv hl hv) (k p l e R s m args below meth c H locs cells slots ls hC hR hl h1 h2 h3)
theorem fx_lstore {i : Nat} {x : Int64} (hd : decode M.2.1 pc = .ok (.lstore i, 2)) (hi : i + 1 < M.2.2.1) (k : fx_Y g M d lo K KX (pc + 2) (fx_s2 lv i (.long x)) st h cu su) : fx_Y g M d lo K KX pc lv (.long x :: st) h cu su := by
  intro p l e R s m args below meth c H locs cells slots ls hC hR hl h1 h2 h3
  exact lv_lstore hC.x hC.b hd hl hi rfl (fun ls' hl' => k p l e R s m args below meth c H locs cells slots ls' hC hR hl' h1 h2 h3)
theorem fx_lstoren {i : Fin 4} {x : Int64} (hd : decode M.2.1 pc = .ok (.lstore_n i, 1)) (hi : (i : Nat) + 1 < M.2.2.1) (k : fx_Y g M d lo K KX (pc + 1) (fx_s2 lv (i : Nat) (.long x)) st h cu su) : fx_Y g M d lo K KX pc lv (.long x :: st) h cu su := by
  intro p l e R s m args below meth c H locs cells slots ls hC hR hl h1 h2 h3
  exact lv_lstore_n hC.x hC.b hd rfl hl hi rfl (fun ls' hl' => k p l e R s m args below meth c H locs cells slots ls' hC hR hl' h1 h2 h3)
theorem fx_aload {i : Nat} {x : Nat} (hd : decode M.2.1 pc = .ok (.aload i, 2)) (hv : lv.lookup i = some (.ref x)) (k : fx_Y g M d lo K KX (pc + 2) lv (.ref x :: st) h cu su) : fx_Y g M d lo K KX pc lv st h cu su := by
  intro p l e R s m args below meth c H locs cells slots ls hC hR hl h1 h2 h3
  exact lv_aload hC.x hC.b hd (fx_lv hl hv) (k p l e R s m args below meth c H locs cells slots ls hC hR hl h1 h2 h3)
theorem fx_aloadn {i : Fin 4} {x : Nat} (hd : decode M.2.1 pc = .ok (.aload_n i, 1)) (hv : lv.lookup (i : Nat) = some (.ref x)) (k : fx_Y g M d lo K KX (pc + 1) lv (.ref x :: st) h cu su) : fx_Y g M d lo K KX pc lv st h cu su := by
  intro p l e R s m args below meth c H locs cells slots ls hC hR hl h1 h2 h3
  exact lv_aload_n hC.x hC.b hd rfl (fx_lv hl hv) (k p l e R s m args below meth c H locs cells slots ls hC hR hl h1 h2 h3)
theorem fx_astore {i : Nat} {x : Nat} (hd : decode M.2.1 pc = .ok (.astore i, 2)) (hi : i < M.2.2.1) (k : fx_Y g M d lo K KX (pc + 2) (fx_s1 lv i (.ref x)) st h cu su) : fx_Y g M d lo K KX pc lv (.ref x :: st) h cu su := by
  intro p l e R s m args below meth c H locs cells slots ls hC hR hl h1 h2 h3
  exact lv_astore hC.x hC.b hd hl hi rfl (fun ls' hl' => k p l e R s m args below meth c H locs cells slots ls' hC hR hl' h1 h2 h3)
theorem fx_astoren {i : Fin 4} {x : Nat} (hd : decode M.2.1 pc = .ok (.astore_n i, 1)) (hi : (i : Nat) < M.2.2.1) (k : fx_Y g M d lo K KX (pc + 1) (fx_s1 lv (i : Nat) (.ref x)) st h cu su) : fx_Y g M d lo K KX pc lv (.ref x :: st) h cu su := by
  intro p l e R s m args below meth c H locs cells slots ls hC hR hl h1 h2 h3
  exact lv_astore_n hC.x hC.b hd rfl hl hi rfl (fun ls' hl' => k p l e R s m args below meth c H locs cells slots ls' hC hR hl' h1 h2 h3)
theorem fx_iinc {i : Nat} {n : Int} {x : Int32} (v : Int32) (hd : decode M.2.1 pc = .ok (.iinc i n, 3)) (hv : lv.lookup i = some (.int x)) (hn : Int32.ofInt n = v) (hi : i < M.2.2.1) (k : fx_Y g M d lo K KX (pc + 3) (fx_s1 lv i (.int (x + v))) st h cu su) : fx_Y g M d lo K KX pc lv st h cu su := by
  intro p l e R s m args below meth c H locs cells slots ls hC hR hl h1 h2 h3
  subst hn
  have hx := fx_lv hl hv
  have hl0 : lv_has ls M.2.2.1 ((i, .int x) :: lv) := ⟨hl.1, hl.2.1, fun q hq => (List.mem_cons.mp hq).elim (fun e => by rw [e]; exact hx) (hl.2.2 q)⟩
  refine lv_iinc (k := 0) hC.x hC.b hd hl0 rfl rfl hi rfl (fun ls' hl' => k p l e R s m args below meth c H locs cells slots ls' hC hR ⟨hl'.1, hl'.2.1, fun q hq => hl'.2.2 q ?_⟩ h1 h2 h3)
  rcases List.mem_cons.mp hq with e | hq
  · rw [e]; exact List.mem_cons_self
  · refine List.mem_cons_of_mem _ ?_
    have h5 := List.mem_filter.mp hq
    exact List.mem_filter.mpr ⟨List.mem_cons_of_mem _ h5.1, h5.2⟩
theorem fx_goto {off : Int} (tgt : Nat) (hd : decode M.2.1 pc = .ok (.goto off, 3)) (ht : (pc : Int) + off = (tgt : Int)) (k : fx_Y g M d lo K KX tgt lv st h cu su) : fx_Y g M d lo K KX pc lv st h cu su := by
  intro p l e R s m args below meth c H locs cells slots ls hC hR hl h1 h2 h3
  exact lv_goto hC.x hC.b hd ht (k p l e R s m args below meth c H locs cells slots ls hC hR hl h1 h2 h3)
theorem fx_icmp_eq {x y : Int32} {off : Int} (tgt : Nat) (hd : decode M.2.1 pc = .ok (.if_icmp .eq off, 3)) (ht : (pc : Int) + off = (tgt : Int)) (kt : x = y → fx_Y g M d lo K KX tgt lv st h cu su) (kf : ¬ x = y → fx_Y g M d lo K KX (pc + 3) lv st h cu su) : fx_Y g M d lo K KX pc lv (.int y :: .int x :: st) h cu su := by
  intro p l e R s m args below meth c H locs cells slots ls hC hR hl h1 h2 h3
  exact lv_icmp_eq hC.x hC.b hd ht (fun q => kt q p l e R s m args below meth c H locs cells slots ls hC hR hl h1 h2 h3) (fun q => kf q p l e R s m args below meth c H locs cells slots ls hC hR hl h1 h2 h3)
theorem fx_icmp_ne {x y : Int32} {off : Int} (tgt : Nat) (hd : decode M.2.1 pc = .ok (.if_icmp .ne off, 3)) (ht : (pc : Int) + off = (tgt : Int)) (kt : ¬ x = y → fx_Y g M d lo K KX tgt lv st h cu su) (kf : x = y → fx_Y g M d lo K KX (pc + 3) lv st h cu su) : fx_Y g M d lo K KX pc lv (.int y :: .int x :: st) h cu su := by
  intro p l e R s m args below meth c H locs cells slots ls hC hR hl h1 h2 h3
  exact lv_icmp_ne hC.x hC.b hd ht (fun q => kt q p l e R s m args below meth c H locs cells slots ls hC hR hl h1 h2 h3) (fun q => kf q p l e R s m args below meth c H locs cells slots ls hC hR hl h1 h2 h3)
theorem fx_icmp_lt {x y : Int32} {off : Int} (tgt : Nat) (hd : decode M.2.1 pc = .ok (.if_icmp .lt off, 3)) (ht : (pc : Int) + off = (tgt : Int)) (kt : x < y → fx_Y g M d lo K KX tgt lv st h cu su) (kf : ¬ x < y → fx_Y g M d lo K KX (pc + 3) lv st h cu su) : fx_Y g M d lo K KX pc lv (.int y :: .int x :: st) h cu su := by
  intro p l e R s m args below meth c H locs cells slots ls hC hR hl h1 h2 h3
  exact lv_icmp_lt hC.x hC.b hd ht (fun q => kt q p l e R s m args below meth c H locs cells slots ls hC hR hl h1 h2 h3) (fun q => kf q p l e R s m args below meth c H locs cells slots ls hC hR hl h1 h2 h3)
theorem fx_icmp_ge {x y : Int32} {off : Int} (tgt : Nat) (hd : decode M.2.1 pc = .ok (.if_icmp .ge off, 3)) (ht : (pc : Int) + off = (tgt : Int)) (kt : y ≤ x → fx_Y g M d lo K KX tgt lv st h cu su) (kf : ¬ y ≤ x → fx_Y g M d lo K KX (pc + 3) lv st h cu su) : fx_Y g M d lo K KX pc lv (.int y :: .int x :: st) h cu su := by
  intro p l e R s m args below meth c H locs cells slots ls hC hR hl h1 h2 h3
  exact lv_icmp_ge hC.x hC.b hd ht (fun q => kt q p l e R s m args below meth c H locs cells slots ls hC hR hl h1 h2 h3) (fun q => kf q p l e R s m args below meth c H locs cells slots ls hC hR hl h1 h2 h3)
theorem fx_icmp_gt {x y : Int32} {off : Int} (tgt : Nat) (hd : decode M.2.1 pc = .ok (.if_icmp .gt off, 3)) (ht : (pc : Int) + off = (tgt : Int)) (kt : y < x → fx_Y g M d lo K KX tgt lv st h cu su) (kf : ¬ y < x → fx_Y g M d lo K KX (pc + 3) lv st h cu su) : fx_Y g M d lo K KX pc lv (.int y :: .int x :: st) h cu su := by
  intro p l e R s m args below meth c H locs cells slots ls hC hR hl h1 h2 h3
  exact lv_icmp_gt hC.x hC.b hd ht (fun q => kt q p l e R s m args below meth c H locs cells slots ls hC hR hl h1 h2 h3) (fun q => kf q p l e R s m args below meth c H locs cells slots ls hC hR hl h1 h2 h3)
theorem fx_icmp_le {x y : Int32} {off : Int} (tgt : Nat) (hd : decode M.2.1 pc = .ok (.if_icmp .le off, 3)) (ht : (pc : Int) + off = (tgt : Int)) (kt : x ≤ y → fx_Y g M d lo K KX tgt lv st h cu su) (kf : ¬ x ≤ y → fx_Y g M d lo K KX (pc + 3) lv st h cu su) : fx_Y g M d lo K KX pc lv (.int y :: .int x :: st) h cu su := by
  intro p l e R s m args below meth c H locs cells slots ls hC hR hl h1 h2 h3
  exact lv_icmp_le hC.x hC.b hd ht (fun q => kt q p l e R s m args below meth c H locs cells slots ls hC hR hl h1 h2 h3) (fun q => kf q p l e R s m args below meth c H locs cells slots ls hC hR hl h1 h2 h3)
theorem fx_if_eq {x : Int32} {off : Int} (tgt : Nat) (hd : decode M.2.1 pc = .ok (.ifCond .eq off, 3)) (ht : (pc : Int) + off = (tgt : Int)) (kt : x = 0 → fx_Y g M d lo K KX tgt lv st h cu su) (kf : ¬ x = 0 → fx_Y g M d lo K KX (pc + 3) lv st h cu su) : fx_Y g M d lo K KX pc lv (.int x :: st) h cu su := by
  intro p l e R s m args below meth c H locs cells slots ls hC hR hl h1 h2 h3
  exact lv_if_eq hC.x hC.b hd ht (fun q => kt q p l e R s m args below meth c H locs cells slots ls hC hR hl h1 h2 h3) (fun q => kf q p l e R s m args below meth c H locs cells slots ls hC hR hl h1 h2 h3)
theorem fx_if_ne {x : Int32} {off : Int} (tgt : Nat) (hd : decode M.2.1 pc = .ok (.ifCond .ne off, 3)) (ht : (pc : Int) + off = (tgt : Int)) (kt : ¬ x = 0 → fx_Y g M d lo K KX tgt lv st h cu su) (kf : x = 0 → fx_Y g M d lo K KX (pc + 3) lv st h cu su) : fx_Y g M d lo K KX pc lv (.int x :: st) h cu su := by
  intro p l e R s m args below meth c H locs cells slots ls hC hR hl h1 h2 h3
  exact lv_if_ne hC.x hC.b hd ht (fun q => kt q p l e R s m args below meth c H locs cells slots ls hC hR hl h1 h2 h3) (fun q => kf q p l e R s m args below meth c H locs cells slots ls hC hR hl h1 h2 h3)
theorem fx_if_lt {x : Int32} {off : Int} (tgt : Nat) (hd : decode M.2.1 pc = .ok (.ifCond .lt off, 3)) (ht : (pc : Int) + off = (tgt : Int)) (kt : x < 0 → fx_Y g M d lo K KX tgt lv st h cu su) (kf : ¬ x < 0 → fx_Y g M d lo K KX (pc + 3) lv st h cu su) : fx_Y g M d lo K KX pc lv (.int x :: st) h cu su := by
  intro p l e R s m args below meth c H locs cells slots ls hC hR hl h1 h2 h3
  exact lv_if_lt hC.x hC.b hd ht (fun q => kt q p l e R s m args below meth c H locs cells slots ls hC hR hl h1 h2 h3) (fun q => kf q p l e R s m args below meth c H locs cells slots ls hC hR hl h1 h2 h3)
theorem fx_if_ge {x : Int32} {off : Int} (tgt : Nat) (hd : decode M.2.1 pc = .ok (.ifCond .ge off, 3)) (ht : (pc : Int) + off = (tgt : Int)) (kt : 0 ≤ x → fx_Y g M d lo K KX tgt lv st h cu su) (kf : ¬ 0 ≤ x → fx_Y g M d lo K KX (pc + 3) lv st h cu su) : fx_Y g M d lo K KX pc lv (.int x :: st) h cu su := by
  intro p l e R s m args below meth c H locs cells slots ls hC hR hl h1 h2 h3
  exact lv_if_ge hC.x hC.b hd ht (fun q => kt q p l e R s m args below meth c H locs cells slots ls hC hR hl h1 h2 h3) (fun q => kf q p l e R s m args below meth c H locs cells slots ls hC hR hl h1 h2 h3)
theorem fx_if_gt {x : Int32} {off : Int} (tgt : Nat) (hd : decode M.2.1 pc = .ok (.ifCond .gt off, 3)) (ht : (pc : Int) + off = (tgt : Int)) (kt : 0 < x → fx_Y g M d lo K KX tgt lv st h cu su) (kf : ¬ 0 < x → fx_Y g M d lo K KX (pc + 3) lv st h cu su) : fx_Y g M d lo K KX pc lv (.int x :: st) h cu su := by
  intro p l e R s m args below meth c H locs cells slots ls hC hR hl h1 h2 h3
  exact lv_if_gt hC.x hC.b hd ht (fun q => kt q p l e R s m args below meth c H locs cells slots ls hC hR hl h1 h2 h3) (fun q => kf q p l e R s m args below meth c H locs cells slots ls hC hR hl h1 h2 h3)
theorem fx_if_le {x : Int32} {off : Int} (tgt : Nat) (hd : decode M.2.1 pc = .ok (.ifCond .le off, 3)) (ht : (pc : Int) + off = (tgt : Int)) (kt : x ≤ 0 → fx_Y g M d lo K KX tgt lv st h cu su) (kf : ¬ x ≤ 0 → fx_Y g M d lo K KX (pc + 3) lv st h cu su) : fx_Y g M d lo K KX pc lv (.int x :: st) h cu su := by
  intro p l e R s m args below meth c H locs cells slots ls hC hR hl h1 h2 h3
  exact lv_if_le hC.x hC.b hd ht (fun q => kt q p l e R s m args below meth c H locs cells slots ls hC hR hl h1 h2 h3) (fun q => kf q p l e R s m args below meth c H locs cells slots ls hC hR hl h1 h2 h3)
theorem fx_lcmp {x y : Int64} (hd : decode M.2.1 pc = .ok (.lcmp, 1)) (k : fx_Y g M d lo K KX (pc + 1) lv (.int (lg_cmp x y) :: st) h cu su) : fx_Y g M d lo K KX pc lv (.long y :: .long x :: st) h cu su := by
  intro p l e R s m args below meth c H locs cells slots ls hC hR hl h1 h2 h3
  exact W.lcmp hC.x hC.b hd (k p l e R s m args below meth c H locs cells slots ls hC hR hl h1 h2 h3)
theorem fx_ifnullR {x : Nat} {off : Int} (hd : decode M.2.1 pc = .ok (.ifnull off, 3)) (k : fx_Y g M d lo K KX (pc + 3) lv st h cu su) : fx_Y g M d lo K KX pc lv (.ref x :: st) h cu su := by
  intro p l e R s m args below meth c H locs cells slots ls hC hR hl h1 h2 h3
  exact lv_ifnull hC.x hC.b hd (k p l e R s m args below meth c H locs cells slots ls hC hR hl h1 h2 h3)
theorem fx_ifnullN {off : Int} (tgt : Nat) (hd : decode M.2.1 pc = .ok (.ifnull off, 3)) (ht : (pc : Int) + off = (tgt : Int)) (k : fx_Y g M d lo K KX tgt lv st h cu su) : fx_Y g M d lo K KX pc lv (.null :: st) h cu su := by
  intro p l e R s m args below meth c H locs cells slots ls hC hR hl h1 h2 h3
  exact lv_ifnullN hC.x hC.b hd ht (k p l e R s m args below meth c H locs cells slots ls hC hR hl h1 h2 h3)
theorem fx_ifnonnullR {x : Nat} {off : Int} (tgt : Nat) (hd : decode M.2.1 pc = .ok (.ifnonnull off, 3)) (ht : (pc : Int) + off = (tgt : Int)) (k : fx_Y g M d lo K KX tgt lv st h cu su) : fx_Y g M d lo K KX pc lv (.ref x :: st) h cu su := by
  intro p l e R s m args below meth c H locs cells slots ls hC hR hl h1 h2 h3
  exact lv_ifnonnull hC.x hC.b hd ht (k p l e R s m args below meth c H locs cells slots ls hC hR hl h1 h2 h3)
theorem fx_ifnonnullN {off : Int} (hd : decode M.2.1 pc = .ok (.ifnonnull off, 3)) (k : fx_Y g M d lo K KX (pc + 3) lv st h cu su) : fx_Y g M d lo K KX pc lv (.null :: st) h cu su := by
  intro p l e R s m args below meth c H locs cells slots ls hC hR hl h1 h2 h3
  exact lv_ifnonnullN hC.x hC.b hd (k p l e R s m args below meth c H locs cells slots ls hC hR hl h1 h2 h3)
theorem fx_aloadnN {i : Fin 4} (hd : decode M.2.1 pc = .ok (.aload_n i, 1)) (hv : lv.lookup (i : Nat) = some .null) (k : fx_Y g M d lo K KX (pc + 1) lv (.null :: st) h cu su) : fx_Y g M d lo K KX pc lv st h cu su := by
  intro p l e R s m args below meth c H locs cells slots ls hC hR hl h1 h2 h3
  exact lv_aload_nN hC.x hC.b hd rfl (fx_lv hl hv) (k p l e R s m args below meth c H locs cells slots ls hC hR hl h1 h2 h3)
theorem fx_aloadN {i : Nat} (hd : decode M.2.1 pc = .ok (.aload i, 2)) (hv : lv.lookup i = some .null) (k : fx_Y g M d lo K KX (pc + 2) lv (.null :: st) h cu su) : fx_Y g M d lo K KX pc lv st h cu su := by
  intro p l e R s m args below meth c H locs cells slots ls hC hR hl h1 h2 h3
  exact lv_aloadN hC.x hC.b hd (fx_lv hl hv) (k p l e R s m args below meth c H locs cells slots ls hC hR hl h1 h2 h3)
theorem fx_astorenN {i : Fin 4} (hd : decode M.2.1 pc = .ok (.astore_n i, 1)) (hi : (i : Nat) < M.2.2.1) (k : fx_Y g M d lo K KX (pc + 1) (fx_s1 lv (i : Nat) .null) st h cu su) : fx_Y g M d lo K KX pc lv (.null :: st) h cu su := by
  intro p l e R s m args below meth c H locs cells slots ls hC hR hl h1 h2 h3
  exact lv_astore_nN hC.x hC.b hd rfl hl hi rfl (fun ls' hl' => k p l e R s m args below meth c H locs cells slots ls' hC hR hl' h1 h2 h3)
theorem fx_tswIn {dflt lo9 hi9 : Int} {offs : Array Int} {len : Nat} {x : Int32} (off : Int) (tgt : Nat) (hd : decode M.2.1 pc = .ok (.tableswitch dflt lo9 hi9 offs, len)) (q1 : ¬ x.toInt < lo9) (q2 : ¬ hi9 < x.toInt) (ho : offs[(x.toInt - lo9).toNat]? = some off) (ht : (pc : Int) + off = (tgt : Int)) (k : fx_Y g M d lo K KX tgt lv st h cu su) : fx_Y g M d lo K KX pc lv (.int x :: st) h cu su := by
  intro p l e R s m args below meth c H locs cells slots ls hC hR hl h1 h2 h3
  exact lv_tableIn hC.x hC.b hd q1 q2 ho ht (k p l e R s m args below meth c H locs cells slots ls hC hR hl h1 h2 h3)
theorem fx_tswOut {dflt lo9 hi9 : Int} {offs : Array Int} {len : Nat} {x : Int32} (tgt : Nat) (hd : decode M.2.1 pc = .ok (.tableswitch dflt lo9 hi9 offs, len)) (q : x.toInt < lo9 ∨ hi9 < x.toInt) (ht : (pc : Int) + dflt = (tgt : Int)) (k : fx_Y g M d lo K KX tgt lv st h cu su) : fx_Y g M d lo K KX pc lv (.int x :: st) h cu su := by
  intro p l e R s m args below meth c H locs cells slots ls hC hR hl h1 h2 h3
  exact lv_tableOut hC.x hC.b hd q ht (k p l e R s m args below meth c H locs cells slots ls hC hR hl h1 h2 h3)
theorem fx_iret {v : Int32} (hd : decode M.2.1 pc = .ok (.ireturn, 1)) (hr : M.2.2.2 = some .int) (k : K (some (.int v)) h) : fx_Y g M d lo K KX pc lv [.int v] h cu su := by
  intro p l e R s m args below meth c H locs cells slots ls hC hR hl h1 h2 h3
  refine W.widen (k := R.cells) (n := R.slots) (by omega) (by omega) (vx_ret ?_)
  exact W.iret hC.x hC.b (hC.r.trans hr) (fun t ht _ => ⟨_, h, rfl, k, by rw [ht]; exact hR⟩) h3 hd hC.lk
theorem fx_zret {v : Int32} (hd : decode M.2.1 pc = .ok (.ireturn, 1)) (hr : M.2.2.2 = some .boolean) (hn : narrow .boolean (.int v) = .int v) (k : K (some (.int v)) h) : fx_Y g M d lo K KX pc lv [.int v] h cu su := by
  intro p l e R s m args below meth c H locs cells slots ls hC hR hl h1 h2 h3
  refine W.widen (k := R.cells) (n := R.slots) (by omega) (by omega) (vx_ret ?_)
  exact W.zret hC.x hC.b (hC.r.trans hr) hn (fun t ht _ => ⟨_, h, rfl, k, by rw [ht]; exact hR⟩) h3 hd hC.lk
theorem fx_lret {v : Int64} (hd : decode M.2.1 pc = .ok (.lreturn, 1)) (hr : M.2.2.2 = some .long) (k : K (some (.long v)) h) : fx_Y g M d lo K KX pc lv [.long v] h cu su := by
  intro p l e R s m args below meth c H locs cells slots ls hC hR hl h1 h2 h3
  refine W.widen (k := R.cells) (n := R.slots) (by omega) (by omega) (vx_ret ?_)
  exact W.lret hC.x hC.b (hC.r.trans hr) (fun t ht _ => ⟨_, h, rfl, k, by rw [ht]; exact hR⟩) h3 hd hC.lk
theorem fx_vret  (hd : decode M.2.1 pc = .ok (.return_, 1)) (hr : M.2.2.2 = none) (k : K none h) : fx_Y g M d lo K KX pc lv [] h cu su := by
  intro p l e R s m args below meth c H locs cells slots ls hC hR hl h1 h2 h3
  refine W.widen (k := R.cells) (n := R.slots) (by omega) (by omega) (vx_ret ?_)
  exact W.vret hC.x hC.b (hC.r.trans hr) (fun t ht _ => ⟨_, h, rfl, k, by rw [ht]; exact hR⟩) h3 hd hC.lk
theorem fx_aret {rt : FieldType} {v : Value} (hd : decode M.2.1 pc = .ok (.areturn, 1)) (hr : M.2.2.2 = some rt) (hrt : (∃ n, rt = .object n) ∨ ∃ t, rt = .array t) (hv : v = .null ∨ ∃ a, v = .ref a) (k : K (some v) h) : fx_Y g M d lo K KX pc lv [v] h cu su := by
  intro p l e R s m args below meth c H locs cells slots ls hC hR hl h1 h2 h3
  refine W.widen (k := R.cells) (n := R.slots) (by omega) (by omega) (vx_ret ?_)
  exact W.aret hC.x hC.b (hC.r.trans hr) hrt hv (fun t ht _ => ⟨_, h, rfl, k, by rw [ht]; exact hR⟩) h3 hd hC.lk
/-- the field that entry idx of class own's pool names: number k of kind ci -/
def fx_F (own : String) (idx ci k : Nat) (fin : Bool) (ty : FieldType) : Prop := ∃ (C : String) (T : u_T) (N : Nat) (ty0 : Nat → FieldType), vwCl[ci]? = some (C, T, N) ∧ k < N ∧ (∀ w ∈ u_ws C T N, w ∈ fx_ws) ∧ Cond.fieldLink own idx (T k).1 (T k).2.1 (T k).2.2.1 ∈ fx_ws ∧ (∀ k, k < N → parseFieldDescriptor (T k).2.2.1 = some (ty0 k)) ∧ (∀ a, a < N → ∀ b, b < N → a ≠ b → (T a).2.1 ≠ (T b).2.1) ∧ (T k).2.2.2 = fin ∧ parseFieldDescriptor (T k).2.2.1 = some ty ∧ (T k).1 = C
theorem fx_get {idx ci k9 : Nat} {fin : Bool} {ty : FieldType} {a : Nat} {fs : List Value} {v : Value} (hd : decode M.2.1 pc = .ok (.getfield idx, 3)) (F : fx_F M.1.cls idx ci k9 fin ty) (hh : h a = some (.inr (ci, fs))) (hv : fs[k9]? = some v) (k : fx_Y g M d lo K KX (pc + 3) lv (v :: st) h cu su) : fx_Y g M d lo K KX pc lv (.ref a :: st) h cu su := by
  intro p l e R s m args below meth c H locs cells slots ls hC hR hl h1 h2 h3
  obtain ⟨C, T, N, ty0, hc, hk, hin, hlink, -⟩ := F
  obtain ⟨r, e1, cell, q1, q2, q3, q4⟩ := (hR.1 a _ hh).2
  have hr : r = (C, T, N) := Option.some.inj (e1.symm.trans hc)
  subst hr
  obtain ⟨hS, hfc, kC, hkC, hkind⟩ := hC.k.1 ci _ hc
  obtain ⟨cf, kf, fi, f, hi, hsl⟩ := hS k9 hk
  refine W.getf hC.x hC.b hC.own (hC.ts _ hlink) hi (u_facts hfc hkC (u_lays hC.ts hin hk) hi).1 q1 (by rw [q3]; exact fun h => by cases h) (v := v) ?_ rfl rfl hd (k p l e R s m args below meth c H locs cells slots ls hC hR hl h1 h2 h3)
  rw [hsl, q4 k9 hk]
  simp [vp_V, hv]
theorem fx_put {idx ci k9 : Nat} {ty : FieldType} {a : Nat} {fs : List Value} {v : Value} (hd : decode M.2.1 pc = .ok (.putfield idx, 3)) (F : fx_F M.1.cls idx ci k9 false ty) (hh : h a = some (.inr (ci, fs))) (hn : narrow ty v = v) (hf : fits ty v = true) (hln : k9 < fs.length) (k : fx_Y g M d lo K KX (pc + 3) lv st (va_up h a (some (.inr (ci, fs.set k9 v)))) cu su) : fx_Y g M d lo K KX pc lv (v :: .ref a :: st) h cu su := by
  intro p l e R s m args below meth c H locs cells slots ls hC hR hl h1 h2 h3
  obtain ⟨C, T, N, ty0, hc, hk, hin, hlink, hty, hnm, hfin, hdd, hdecl⟩ := F
  have hap := va_apart (own := M.1.cls) (D := g.1) (cl := vwCl) (tys := []) hC.ts hin ty0 hty hnm ⟨hC.k.1, fun k q h => by simp at h⟩ hc
  obtain ⟨r, e1, cell, q1, q2, q3, q4⟩ := (hR.1 a _ hh).2
  have hr : r = (C, T, N) := Option.some.inj (e1.symm.trans hc)
  subst hr
  obtain ⟨hS, hfc, kC, hkC, hkind⟩ := hC.k.1 ci _ hc
  obtain ⟨cf, kf, fi, f, hi, hsl⟩ := hS k9 hk
  have hlay := hC.ts _ (hin _ (u_in_lay hk))
  unfold u_lay at hlay
  rw [if_neg (by rw [hfin]; decide)] at hlay
  have hst := (u_facts hfc hkC (u_lays hC.ts hin hk) hi).1
  have h6 := u_store hfc hkC hkind hlay hi hdd hn hf
  refine W.putK hC.x hC.b (f := f) ⟨hC.own, hC.ts _ hlink, ⟨_, _, _, hi⟩, hst⟩ (by rw [q2]; exact h6) q1 q3 (by rw [hsl]; exact k2_hasslot (q4 k9 hk)) rfl rfl hd fun H' e1 e2 e3 => ?_
  rw [hsl] at e1 ⊢
  refine k p l e R s m args below meth c H' _ cells slots ls hC (hR.set (hR.1 a _ hh).1 ⟨_, hc, t_OB.to (V := updV (vp_V fs) k9 v) ⟨_, e1, q2, q3, t_set q4 hap hk v⟩ (fun j _ => vp_updV_set hln v j)⟩ (Nat.le_of_eq e2.symm) (fun q hq _ => e3 q hq)) hl h1 h2 (fun q hq => ?_)
  rcases List.mem_append.mp hq with hq | hq
  · exact h3 q hq
  · rw [List.mem_singleton.mp hq]
    exact (hR.1 a _ hh).1
theorem fx_putF {idx ci k9 : Nat} {ty : FieldType} {a : Nat} {fs : List Value} {v : Value} (hd : decode M.2.1 pc = .ok (.putfield idx, 3)) (F : fx_F M.1.cls idx ci k9 true ty) (hinit : M.1.name = "<init>") (hown9 : (vwCl[ci]?.map (·.1)) = some M.1.cls) (hh : h a = some (.inr (ci, fs))) (hn : narrow ty v = v) (hf : fits ty v = true) (hln : k9 < fs.length) (k : fx_Y g M d lo K KX (pc + 3) lv st (va_up h a (some (.inr (ci, fs.set k9 v)))) cu su) : fx_Y g M d lo K KX pc lv (v :: .ref a :: st) h cu su := by
  intro p l e R s m args below meth c H locs cells slots ls hC hR hl h1 h2 h3
  obtain ⟨C, T, N, ty0, hc, hk, hin, hlink, hty, hnm, hfin, hdd, hdecl⟩ := F
  have hap := va_apart (own := M.1.cls) (D := g.1) (cl := vwCl) (tys := []) hC.ts hin ty0 hty hnm ⟨hC.k.1, fun k q h => by simp at h⟩ hc
  obtain ⟨r, e1, cell, q1, q2, q3, q4⟩ := (hR.1 a _ hh).2
  have hr : r = (C, T, N) := Option.some.inj (e1.symm.trans hc)
  subst hr
  obtain ⟨hS, hfc, kC, hkC, hkind⟩ := hC.k.1 ci _ hc
  obtain ⟨cf, kf, fi, f, hi, hsl⟩ := hS k9 hk
  have hlay := hC.ts _ (hin _ (u_in_lay hk))
  unfold u_lay at hlay
  rw [if_pos hfin] at hlay
  have hst := (u_facts hfc hkC (u_lays hC.ts hin hk) hi).1
  have hcls : C = M.1.cls := by
    rw [hc] at hown9
    exact Option.some.inj hown9
  have hcf : m.cls = cf := by
    obtain ⟨_, _, c', _, _, _, -, -, hf', -, -, -, hown2, -⟩ := Cond.laysFinal_spec hlay
    have e1 : c' = cf := by have := hi.symm.trans hf'; simp at this; exact this.1.symm
    rw [hdecl, hcls] at hown2
    rw [← e1]; exact Option.some.inj (hC.own.symm.trans hown2)
  have h6 := u_fits hfc hkC hkind (Or.inr hlay) hi hdd hn hf
  refine W.putFinK hC.x hC.b hC.own (hC.ts _ hlink) hi hst hcf (hC.nm.trans hinit) (by rw [q2]; exact h6) q1 q3 (by rw [hsl]; exact k2_hasslot (q4 k9 hk)) rfl rfl hd fun H' e1 e2 e3 => ?_
  rw [hsl] at e1 ⊢
  refine k p l e R s m args below meth c H' _ cells slots ls hC (hR.set (hR.1 a _ hh).1 ⟨_, hc, t_OB.to (V := updV (vp_V fs) k9 v) ⟨_, e1, q2, q3, t_set q4 hap hk v⟩ (fun j _ => vp_updV_set hln v j)⟩ (Nat.le_of_eq e2.symm) (fun q hq _ => e3 q hq)) hl h1 h2 (fun q hq => ?_)
  rcases List.mem_append.mp hq with hq | hq
  · exact h3 q hq
  · rw [List.mem_singleton.mp hq]
    exact (hR.1 a _ hh).1
theorem fx_iald {a n : Nat} {i : Int32} {f : Nat → Int32} (hd : decode M.2.1 pc = .ok (.iaload, 1)) (hh : h a = some (.inl (0, n, .inl f))) (hi : vp_in i n) (k : fx_Y g M d lo K KX (pc + 1) lv (.int (f i.toNatClampNeg) :: st) h cu su) : fx_Y g M d lo K KX pc lv (.int i :: .ref a :: st) h cu su := by
  intro p l e R s m args below meth c H locs cells slots ls hC hR hl h1 h2 h3
  have hlt : i.toNatClampNeg < n := Nat.not_le.mp fun q => hi (Or.inr q)
  exact W.iald (v := .int (f i.toNatClampNeg)) hC.x hC.b (hR.1 a _ hh).2 ((hC.k.2.1 0 (by decide)).1 n (fun j => .int (f j))) (fun q => by cases q) (by show ¬ (i < 0 ∨ (arrV _ _ _).slots.size ≤ _); rw [arrV_size]; exact hi) (by show (arrV _ _ _).slots[_]? = _; rw [arrV_read _ _ hlt]) rfl rfl hd (k p l e R s m args below meth c H locs cells slots ls hC hR hl h1 h2 h3)
theorem fx_bald {a n : Nat} {i : Int32} {f : Nat → Int32} (hd : decode M.2.1 pc = .ok (.baload, 1)) (hh : h a = some (.inl (1, n, .inl f))) (hi : vp_in i n) (k : fx_Y g M d lo K KX (pc + 1) lv (.int (f i.toNatClampNeg) :: st) h cu su) : fx_Y g M d lo K KX pc lv (.int i :: .ref a :: st) h cu su := by
  intro p l e R s m args below meth c H locs cells slots ls hC hR hl h1 h2 h3
  have hlt : i.toNatClampNeg < n := Nat.not_le.mp fun q => hi (Or.inr q)
  exact W.bald (v := .int (f i.toNatClampNeg)) hC.x hC.b (hR.1 a _ hh).2 ((hC.k.2.1 1 (by decide)).1 n (fun j => .int (f j))) (fun q => by cases q) (by show ¬ (i < 0 ∨ (arrV _ _ _).slots.size ≤ _); rw [arrV_size]; exact hi) (by show (arrV _ _ _).slots[_]? = _; rw [arrV_read _ _ hlt]) rfl rfl hd (k p l e R s m args below meth c H locs cells slots ls hC hR hl h1 h2 h3)
theorem fx_zald {a n : Nat} {i : Int32} {f : Nat → Int32} (hd : decode M.2.1 pc = .ok (.baload, 1)) (hh : h a = some (.inl (2, n, .inl f))) (hi : vp_in i n) (k : fx_Y g M d lo K KX (pc + 1) lv (.int (f i.toNatClampNeg) :: st) h cu su) : fx_Y g M d lo K KX pc lv (.int i :: .ref a :: st) h cu su := by
  intro p l e R s m args below meth c H locs cells slots ls hC hR hl h1 h2 h3
  have hlt : i.toNatClampNeg < n := Nat.not_le.mp fun q => hi (Or.inr q)
  exact W.zald (v := .int (f i.toNatClampNeg)) hC.x hC.b (hR.1 a _ hh).2 ((hC.k.2.1 2 (by decide)).1 n (fun j => .int (f j))) (fun q => by cases q) (by show ¬ (i < 0 ∨ (arrV _ _ _).slots.size ≤ _); rw [arrV_size]; exact hi) (by show (arrV _ _ _).slots[_]? = _; rw [arrV_read _ _ hlt]) rfl rfl hd (k p l e R s m args below meth c H locs cells slots ls hC hR hl h1 h2 h3)
theorem fx_lald {a n : Nat} {i : Int32} {f : Nat → Int64} (hd : decode M.2.1 pc = .ok (.laload, 1)) (hh : h a = some (.inl (3, n, .inr (.inl f)))) (hi : vp_in i n) (k : fx_Y g M d lo K KX (pc + 1) lv (.long (f i.toNatClampNeg) :: st) h cu su) : fx_Y g M d lo K KX pc lv (.int i :: .ref a :: st) h cu su := by
  intro p l e R s m args below meth c H locs cells slots ls hC hR hl h1 h2 h3
  have hlt : i.toNatClampNeg < n := Nat.not_le.mp fun q => hi (Or.inr q)
  exact W.lald (v := .long (f i.toNatClampNeg)) hC.x hC.b (hR.1 a _ hh).2 ((hC.k.2.1 3 (by decide)).1 n (fun j => .long (f j))) (fun q => by cases q) (by show ¬ (i < 0 ∨ (arrV _ _ _).slots.size ≤ _); rw [arrV_size]; exact hi) (by show (arrV _ _ _).slots[_]? = _; rw [arrV_read _ _ hlt]) rfl rfl hd (k p l e R s m args below meth c H locs cells slots ls hC hR hl h1 h2 h3)
theorem fx_iast {a n : Nat} {i : Int32} {x : Int32} {f : Nat → Int32} (hd : decode M.2.1 pc = .ok (.iastore, 1)) (hh : h a = some (.inl (0, n, .inl f))) (hi : vp_in i n) (k : fx_Y g M d lo K KX (pc + 1) lv st (va_up h a (some (.inl (0, n, .inl (upd f i.toNatClampNeg x))))) cu su) : fx_Y g M d lo K KX pc lv (.int x :: .int i :: .ref a :: st) h cu su := by
  intro p l e R s m args below meth c H locs cells slots ls hC hR hl h1 h2 h3
  refine W.iast hC.x hC.b (hR.1 a _ hh).2 ((hC.k.2.1 0 (by decide)).1 n (fun j => .int (f j))) (fun q => by cases q) (by show ¬ (i < 0 ∨ (arrV _ _ _).slots.size ≤ _); rw [arrV_size]; exact hi) rfl rfl hd fun H1 e9 z oq => ?_
  refine k p l e R s m args below meth c H1 _ cells slots ls hC (hR.set (hR.1 a _ hh).1 ?_ (Nat.le_of_eq z.symm) (fun q hq _ => oq q hq)) hl h1 h2 (fun q hq => ?_)
  · show H1[a]? = some (vp_cell _ _)
    rw [e9]
    rw [vp_cell_i, vp_cell_i, arrV_store]
    congr 2
    funext q
    by_cases hq : q = i.toNatClampNeg
    · subst hq
      simp [updV, upd]
      try rfl
    · simp [updV, upd, hq]
  · rcases List.mem_append.mp hq with hq | hq
    · exact h3 q hq
    · rw [List.mem_singleton.mp hq]
      exact (hR.1 a _ hh).1
theorem fx_bast {a n : Nat} {i : Int32} {x : Int32} {f : Nat → Int32} (hd : decode M.2.1 pc = .ok (.bastore, 1)) (hh : h a = some (.inl (1, n, .inl f))) (hi : vp_in i n) (k : fx_Y g M d lo K KX (pc + 1) lv st (va_up h a (some (.inl (1, n, .inl (upd f i.toNatClampNeg (vp_nar .byte x)))))) cu su) : fx_Y g M d lo K KX pc lv (.int x :: .int i :: .ref a :: st) h cu su := by
  intro p l e R s m args below meth c H locs cells slots ls hC hR hl h1 h2 h3
  refine W.bast hC.x hC.b (hR.1 a _ hh).2 ((hC.k.2.1 1 (by decide)).1 n (fun j => .int (f j))) (fun q => by cases q) (by show ¬ (i < 0 ∨ (arrV _ _ _).slots.size ≤ _); rw [arrV_size]; exact hi) rfl rfl hd fun H1 e9 z oq => ?_
  refine k p l e R s m args below meth c H1 _ cells slots ls hC (hR.set (hR.1 a _ hh).1 ?_ (Nat.le_of_eq z.symm) (fun q hq _ => oq q hq)) hl h1 h2 (fun q hq => ?_)
  · show H1[a]? = some (vp_cell _ _)
    rw [e9]
    rw [vp_cell_i, vp_cell_i, arrV_store]
    congr 2
    funext q
    by_cases hq : q = i.toNatClampNeg
    · subst hq
      simp [updV, upd, vp_nar]
      try rfl
    · simp [updV, upd, vp_nar, hq]
  · rcases List.mem_append.mp hq with hq | hq
    · exact h3 q hq
    · rw [List.mem_singleton.mp hq]
      exact (hR.1 a _ hh).1
theorem fx_zast {a n : Nat} {i : Int32} {x : Int32} {f : Nat → Int32} (hd : decode M.2.1 pc = .ok (.bastore, 1)) (hh : h a = some (.inl (2, n, .inl f))) (hi : vp_in i n) (k : fx_Y g M d lo K KX (pc + 1) lv st (va_up h a (some (.inl (2, n, .inl (upd f i.toNatClampNeg (vp_nar .boolean x)))))) cu su) : fx_Y g M d lo K KX pc lv (.int x :: .int i :: .ref a :: st) h cu su := by
  intro p l e R s m args below meth c H locs cells slots ls hC hR hl h1 h2 h3
  refine W.zast hC.x hC.b (hR.1 a _ hh).2 ((hC.k.2.1 2 (by decide)).1 n (fun j => .int (f j))) (fun q => by cases q) (by show ¬ (i < 0 ∨ (arrV _ _ _).slots.size ≤ _); rw [arrV_size]; exact hi) rfl rfl hd fun H1 e9 z oq => ?_
  refine k p l e R s m args below meth c H1 _ cells slots ls hC (hR.set (hR.1 a _ hh).1 ?_ (Nat.le_of_eq z.symm) (fun q hq _ => oq q hq)) hl h1 h2 (fun q hq => ?_)
  · show H1[a]? = some (vp_cell _ _)
    rw [e9]
    rw [vp_cell_i, vp_cell_i, arrV_store]
    congr 2
    funext q
    by_cases hq : q = i.toNatClampNeg
    · subst hq
      simp [updV, upd, vp_nar]
      try rfl
    · simp [updV, upd, vp_nar, hq]
  · rcases List.mem_append.mp hq with hq | hq
    · exact h3 q hq
    · rw [List.mem_singleton.mp hq]
      exact (hR.1 a _ hh).1
theorem fx_last {a n : Nat} {i : Int32} {x : Int64} {f : Nat → Int64} (hd : decode M.2.1 pc = .ok (.lastore, 1)) (hh : h a = some (.inl (3, n, .inr (.inl f)))) (hi : vp_in i n) (k : fx_Y g M d lo K KX (pc + 1) lv st (va_up h a (some (.inl (3, n, .inr (.inl (vp_updL f i.toNatClampNeg x)))))) cu su) : fx_Y g M d lo K KX pc lv (.long x :: .int i :: .ref a :: st) h cu su := by
  intro p l e R s m args below meth c H locs cells slots ls hC hR hl h1 h2 h3
  refine W.last hC.x hC.b (hR.1 a _ hh).2 ((hC.k.2.1 3 (by decide)).1 n (fun j => .long (f j))) (fun q => by cases q) (by show ¬ (i < 0 ∨ (arrV _ _ _).slots.size ≤ _); rw [arrV_size]; exact hi) rfl rfl hd fun H1 e9 z oq => ?_
  refine k p l e R s m args below meth c H1 _ cells slots ls hC (hR.set (hR.1 a _ hh).1 ?_ (Nat.le_of_eq z.symm) (fun q hq _ => oq q hq)) hl h1 h2 (fun q hq => ?_)
  · show H1[a]? = some (vp_cell _ _)
    rw [e9]
    rw [vp_cell_l, vp_cell_l, arrV_store]
    congr 2
    funext q
    by_cases hq : q = i.toNatClampNeg
    · subst hq
      simp [updV, vp_updL]
      try rfl
    · simp [updV, vp_updL, hq]
  · rcases List.mem_append.mp hq with hq | hq
    · exact h3 q hq
    · rw [List.mem_singleton.mp hq]
      exact (hR.1 a _ hh).1
theorem fx_alenI {a t n : Nat} {f : Nat → Int32} (hd : decode M.2.1 pc = .ok (.arraylength, 1)) (hh : h a = some (.inl (t, n, .inl f))) (ht : t < 5) (k : fx_Y g M d lo K KX (pc + 1) lv (.int (nI n) :: st) h cu su) : fx_Y g M d lo K KX pc lv (.ref a :: st) h cu su := by
  intro p l e R s m args below meth c H locs cells slots ls hC hR hl h1 h2 h3
  exact W.alen (n := Int32.ofNat n) hC.x hC.b (hR.1 a _ hh).2 ((hC.k.2.1 t ht).1 n (fun j => .int (f j))) (by show (arrV _ _ _).slots.size.toInt32 = _; rw [arrV_size]) rfl rfl hd (k p l e R s m args below meth c H locs cells slots ls hC hR hl h1 h2 h3)
theorem fx_aald {a n : Nat} {i : Int32} {f : Nat → Option Nat} (hd : decode M.2.1 pc = .ok (.aaload, 1)) (hh : h a = some (.inl (4, n, .inr (.inr (.inr (.inr f)))))) (hi : vp_in i n) (k : fx_Y g M d lo K KX (pc + 1) lv (va_rf (f i.toNatClampNeg) :: st) h cu su) : fx_Y g M d lo K KX pc lv (.int i :: .ref a :: st) h cu su := by
  intro p l e R s m args below meth c H locs cells slots ls hC hR hl h1 h2 h3
  have hlt : i.toNatClampNeg < n := Nat.not_le.mp fun q => hi (Or.inr q)
  exact W.aald (v := va_rf (f i.toNatClampNeg)) (ty := fx_ty 4) hC.x hC.b (hR.1 a _ hh).2 ((hC.k.2.1 4 (by decide)).1 n (fun j => va_rf (f j))) rfl (fun q => by cases q) (by show ¬ (i < 0 ∨ (arrV _ _ _).slots.size ≤ _); rw [arrV_size]; exact hi) (by show (arrV _ _ _).slots[_]? = _; rw [arrV_read _ _ hlt]) rfl rfl hd (k p l e R s m args below meth c H locs cells slots ls hC hR hl h1 h2 h3)
theorem fx_aast {a n v : Nat} {i : Int32} {f : Nat → Option Nat} {vs : List Value} (hd : decode M.2.1 pc = .ok (.aastore, 1)) (hh : h a = some (.inl (4, n, .inr (.inr (.inr (.inr f)))))) (hv : h v = some (.inr (2, vs))) (hi : vp_in i n) (k : fx_Y g M d lo K KX (pc + 1) lv st (va_up h a (some (.inl (4, n, .inr (.inr (.inr (.inr (va_up f i.toNatClampNeg (some v))))))))) cu su) : fx_Y g M d lo K KX pc lv (.ref v :: .int i :: .ref a :: st) h cu su := by
  intro p l e R s m args below meth c H locs cells slots ls hC hR hl h1 h2 h3
  have hlt : i.toNatClampNeg < n := Nat.not_le.mp fun q => hi (Or.inr q)
  have h0 : ¬ i < 0 := fun q => hi (Or.inl q)
  obtain ⟨r', hr', cellV, g1, g2, g3, -⟩ := (hR.1 v _ hv).2
  have hcls := (hC.k.1 2 (RX3, TX3, 5) rfl).2
  obtain ⟨kA, comp, k1, k2, k3, -⟩ := (hC.k.2.1 4 (by decide)).2
  have hcomp : comp = g.1.1 2 := Option.some.inj (k3.symm.trans hcls.1)
  subst hcomp
  have hcls' := hcls
  obtain ⟨kC, hkC, -⟩ := hcls'.2
  refine W.aast hC.x hC.b (hR.1 a _ hh).2 (fun q h => by cases h) (fun h => by cases h) k1 k2 rfl hkC ⟨h0, by show _ < (arrV _ _ _).slots.size; rw [arrV_size]; exact hlt⟩ g1 (fun q h => by rw [g3] at h; cases h) (by rw [g2]; exact hkC) (by rw [g2]; exact va_assign hcls) rfl rfl hd fun H1 e9 z oq => ?_
  refine k p l e R s m args below meth c H1 _ cells slots ls hC (hR.set (hR.1 a _ hh).1 ?_ (Nat.le_of_eq z.symm) (fun q hq _ => oq q hq)) hl h1 h2 (fun q hq => ?_)
  · show H1[a]? = some (vp_cell _ _)
    rw [e9]
    rw [vp_cell_q, vp_cell_q, arrV_store]
    congr 2
    funext q
    by_cases hq : q = i.toNatClampNeg
    · subst hq
      simp [updV, va_up, va_rf]
    · simp [updV, va_up, hq]
  · rcases List.mem_append.mp hq with hq | hq
    · exact h3 q hq
    · rw [List.mem_singleton.mp hq]
      exact (hR.1 a _ hh).1
theorem fx_new {idx ci N : Nat} {C : String} {T : u_T} (ty0 : Nat → FieldType) (fs : List Value) (hd : decode M.2.1 pc = .ok (.new idx, 3)) (hc : vwCl[ci]? = some (C, T, N)) (hin : ∀ w ∈ u_ws C T N, w ∈ fx_ws) (hty : ∀ k, k < N → parseFieldDescriptor (T k).2.2.1 = some (ty0 k)) (hcl : Cond.classLink M.1.cls idx C ∈ fx_ws) (hins : Cond.instantiable C N ∈ fx_ws) (hini : Cond.initialized C ∈ fx_ws) (hfs : ∀ j, j < N → defaultValue (ty0 j) = vp_V fs j) (hcu : 1 ≤ cu) (hsu : N ≤ su)
    (k : ∀ a : Nat, h a = none → fx_Y g M d lo K KX (pc + 3) lv (.ref a :: st) (va_up h a (some (.inr (ci, fs)))) (cu - 1) (su - N)) : fx_Y g M d lo K KX pc lv st h cu su := by
  intro p l e R s m args below meth c H locs cells slots ls hC hR hl h1 h2 h3
  have hKn := hC.k.1 ci _ hc
  refine W.newcK hC.x hC.b hC.own (hC.ts _ hcl) (hC.ts _ hins) (hC.ts _ hini) rfl hd (by omega) (by omega) hKn.2.1 rfl fun H1 kC hkC e1 z1 o1 => ?_
  refine k H.size hR.fresh p l e R s m args below meth c H1 locs (cells + 1) (slots + N) ls hC (hR.set hR.2 ?_ (by omega) (fun q hq hl => o1 q hl)) hl (by omega) (by omega) h3
  exact ⟨_, hc, t_OB.to (u_born ty0 hC.ts hin hKn hkC e1 hty) (fun j hj => hfs j hj)⟩
theorem fx_newI {at9 : ArrayType} {n : Int32} (t N : Nat) (ht : t < 3) (hat : newarray.typeOf at9 = fx_ty t) (hd : decode M.2.1 pc = .ok (.newarray at9, 2)) (hw : Cond.arrayClass (newarray.typeOf at9) ∈ fx_ws) (hn : ¬ n < 0) (hN : n.toNatClampNeg = N) (hb9 : N ≤ 1000000) (hcu : 1 ≤ cu) (hsu : N ≤ su)
    (k : ∀ a : Nat, h a = none → fx_Y g M d lo K KX (pc + 2) lv (.ref a :: st) (va_up h a (some (.inl (t, N, .inl (fun _ => 0))))) (cu - 1) (su - N)) : fx_Y g M d lo K KX pc lv (.int n :: st) h cu su := by
  intro p l e R s m args below meth c H locs cells slots ls hC hR hl h1 h2 h3
  subst hN
  refine W.newa hC.x hC.b (hC.ts _ hw) rfl hd rfl hn ?_ (by omega) (by omega) fun cA kA comp f1 f2 f3 => ?_
  · have : componentBytes (newarray.typeOf at9) ≤ 8 := by cases at9 <;> decide
    calc _ ≤ 1000000 * 8 := Nat.mul_le_mul hb9 this
      _ ≤ _ := by decide
  have hA : cA = g.2.1 t := by
    have h5 := (hC.k.2.1 t (by omega)).2
    rw [hat] at f1
    have h6 : s.vm.findClass ("[" ++ (fx_ty t).toString) = some (g.2.1 t) := by
      match t, ht, h5 with
      | 0, _, h5 => exact h5
      | 1, _, h5 => exact h5
      | 2, _, h5 => exact h5
    exact Option.some.inj (f1.symm.trans h6)
  subst hA
  generalize hH1 : H.push ({ cls := g.2.1 t, slots := Array.replicate n.toNatClampNeg (defaultValue (newarray.typeOf at9)), vm := .none } : Cell) = H1
  have z1 : H1.size = H.size + 1 := by rw [← hH1, Array.size_push]
  have hdv : defaultValue (newarray.typeOf at9) = .int 0 := by
    rw [hat]
    match t, ht with
    | 0, _ => rfl
    | 1, _ => rfl
    | 2, _ => rfl
  have e1 : H1[H.size]? = some (arrV (g.2.1 t) n.toNatClampNeg (fun _ => .int 0)) := by rw [← hH1, Array.getElem?_push_size, ← arrV_new, hdv]
  have o1 : ∀ q : Nat, q < H.size → H1[q]? = H[q]? := fun q hq => by rw [← hH1, Array.getElem?_push, if_neg (Nat.ne_of_lt hq)]
  exact k H.size hR.fresh p l e R s m args below meth c H1 locs (cells + 1) (slots + n.toNatClampNeg) ls hC (hR.set hR.2 e1 (by omega) (fun q hq hl => o1 q hl)) hl (by omega) (by omega) h3
end FXR
end
section
/-! Contracts and calls. -/
/-- a method's contract: on these arguments and this heap it returns, with K of the answer and the heap; it makes at most mc cells of ms slots -/
def fx_Met (g : fx_G) (M : fx_M) (d lo : Nat) (As : List Value) (h : fx_H) (mc ms : Nat) (K : Option Value → fx_H → Prop) : Prop :=
  ∀ l : Launch, Met l M.1 (Cond.code M.1 M.2.1 M.2.2.1 M.2.2.2 :: fx_ws) ({ frames := d, cells := mc, slots := ms, locals := lo } : Room) (fun v U => v = As.toArray ∧ fx_K g U ∧ fx_R g h U.heap) (fx_Qc g K) mc ms (fun q => g.2.2 ≤ q)
theorem fx_Met.of {g : fx_G} {M : fx_M} {d lo : Nat} {As : List Value} {h : fx_H} {mc ms : Nat} {K : Option Value → fx_H → Prop} (hp : plainName M.1.cls = true) (hz : (lg_sl As).length ≤ M.2.2.1) (k : fx_Y g M d lo K (fun _ _ => False) 0 (lv_args 0 As) [] h mc ms) : fx_Met g M d lo As h mc ms K := by
  intro l
  refine Met.ofW (cc := M.2.1) (maxL := M.2.2.1) (ret := M.2.2.2) hp rfl ?_
  intro p e s m args below meth c s₁ B hml hv
  obtain ⟨rfl, hK, hR⟩ := hv
  have hts := atoms_spec (ws := Cond.code M.1 M.2.1 M.2.2.1 M.2.2.2 :: fx_ws) B.pre
  have hl := lv_entry As (n := M.2.2.1) hz
  rw [lg_entry_eq]
  intro T hT X
  obtain ⟨t, a1, o, b1, b2, b3⟩ := k p l e _ s m As.toArray below meth c s.heap [] 0 0 _ ⟨B.exec, B.bytes, hml, B.returns, B.notSynchronized, findClass_of_methodNamed B.named, (name_of_methodNamed B.named B.method).1, fun w hw => hts w (List.mem_cons_of_mem _ hw), hK, Nat.le_refl _, Nat.le_refl _, hR.2⟩ hR hl (Nat.le_of_eq (Nat.zero_add _)) (Nat.le_of_eq (Nat.zero_add _)) (fun q hq => nomatch hq) T hT X
  refine ⟨t, a1, o, b1, b2, ?_⟩
  rcases b3 with ⟨c1, c2⟩ | ⟨q, -, E, ce, L, ⟨h', hf, -⟩, -⟩
  · exact ⟨c1, c2⟩
  · exact hf.elim
theorem fx_Met.mono {g : fx_G} {M : fx_M} {d lo : Nat} {As : List Value} {h : fx_H} {mc ms : Nat} {K K' : Option Value → fx_H → Prop} (hM : fx_Met g M d lo As h mc ms K) (hK : ∀ r h, K r h → K' r h) : fx_Met g M d lo As h mc ms K' := by
  intro l p e ha hc hk s m args below hf happ hP hT
  obtain ⟨t, o, a1, b1, b2, ⟨⟨r, h', e1, e2, e3⟩, b3⟩⟩ := hM l p e ha hc hk s m args below hf happ hP hT
  exact ⟨t, o, a1, b1, b2, ⟨r, h', e1, hK _ _ e2, e3⟩, b3⟩
/-- a method that answers v and leaves the heap alone -/
def fx_P (g : fx_G) (M : fx_M) (d lo : Nat) (As : List Value) (h : fx_H) (v : Value) : Prop := fx_Met g M d lo As h 0 0 (fun r h' => r = some v ∧ h' = h)
theorem fx_good {M : fx_M} (hc : Cond.code M.1 M.2.1 M.2.2.1 M.2.2.2 ∈ fx_ws) : GoodIn fx_ws (Cond.code M.1 M.2.1 M.2.2.1 M.2.2.2 :: fx_ws) := by
  intro w hw
  have hm : w ∈ fx_ws := (List.mem_cons.mp hw).elim (fun e => by rw [e]; exact hc) id
  exact ⟨hm, good_of_word (List.mem_filter.mp hm).2⟩
/-- what the tables say of a method that is called -/
def fx_V (M : fx_M) (n : Nat) : Prop := Cond.code M.1 M.2.1 M.2.2.1 M.2.2.2 ∈ fx_ws ∧ Cond.initialized M.1.cls ∈ fx_ws ∧ (M.1.cls ≠ "java/lang/invoke/MethodHandle" ∧ M.1.cls ≠ "java/lang/invoke/VarHandle" ∧ (parseMethodDescriptor M.1.desc).map (fun d => d.parameters.length) = some n)
def fx_Vi (M : fx_M) (n : Nat) : Prop := fx_V M n ∧ Cond.instanceMethod M.1 ∈ fx_ws ∧ Cond.selects M.1.cls M.1 M.1 ∈ fx_ws
def fx_Vs (M : fx_M) (n : Nat) : Prop := fx_V M n ∧ Cond.static M.1 ∈ fx_ws
def fx_Vc (M : fx_M) (n : Nat) : Prop := fx_V M n ∧ Cond.instanceMethod M.1 ∈ fx_ws ∧ M.1.name = "<init>" ∧ M.2.2.2 = none
section FXC
variable {g : fx_G} {M M' : fx_M} {d lo d' lo' : Nat} {K K' : Option Value → fx_H → Prop} {KX : String → fx_H → Prop} {pc : Nat} {lv : List (Nat × Value)} {st stk As : List Value} {h : fx_H} {cu su mc ms n idx b : Nat}
theorem fx_blind {As : List Value} : FrameBlind (fun (v : Array Value) (U : State) => v = As.toArray ∧ fx_K g U ∧ fx_R g h U.heap) :=
  fun a U f mk q => ⟨q.1, fx_K.moved (u := U) (U := U.calling f mk a) (State.WarmedH.refl U) q.2.1, q.2.2⟩
theorem fx_callV {ci : Nat} {fs : List Value} {r9 : vw_C} (hd : decode M.2.1 pc = .ok (.invokevirtual idx, 3)) (hV : fx_Vi M' n) (hlk : Cond.methodLink M.1.cls idx M'.1 ∈ fx_ws) (hc : vwCl[ci]? = some r9) (hc2 : r9.1 = M'.1.cls) (hb : h b = some (.inr (ci, fs))) (hM : fx_Met g M' d' lo' (.ref b :: As) h mc ms K') (hn : As.length = n) (hdd : d' + 1 ≤ d) (hll : 19 + M'.2.2.1 + lo' ≤ lo) (hmc : mc ≤ cu) (hms : ms ≤ su) (hstk : stk = As.reverse ++ .ref b :: st) (hst : (st.map fun v => v.category).sum ≤ 8)
    (k : ∀ (r : Option Value) (h' : fx_H), K' r h' → fx_Y g M d lo K KX (pc + 3) lv (r.toList ++ st) h' (cu - mc) (su - ms)) : fx_Y g M d lo K KX pc lv stk h cu su := by
  intro p l e R s m args below meth c H locs cells slots ls hC hR hl h1 h2 h3
  obtain ⟨⟨v1, v2, v3⟩, v4, v5⟩ := hV
  have hcd := hC.d
  have hlo := hC.lo
  have cb := callB_of (R := R) (s := s) (args := args) (own := M.1.cls) (index := idx) (y := M'.1) (bytes := M'.2.1) (maxL := M'.2.2.1) (ret := M'.2.2.2) (rm := { frames := d', cells := mc, slots := ms, locals := lo' }) (mc := mc) (ms := ms) n hC.ts (fx_good v1) rfl rfl rfl (hC.ts _ v2) (hC.ts _ hlk) v3 ⟨by show d' + 1 ≤ _; omega, by show 8 + (M'.2.2.1 + 11) + lo' ≤ _; omega⟩
  have hcell : ∃ cellB : Cell, H[b]? = some cellB ∧ cellB.vm.isStatics = false ∧ s.vm.findClass M'.1.cls = some cellB.cls := by
    obtain ⟨q', e1, cell, g1, g2, g3, -⟩ := (hR.1 b _ hb).2
    cases Option.some.inj (e1.symm.trans hc)
    exact ⟨cell, g1, by rw [g3]; rfl, by rw [g2, ← hc2]; exact (hC.k.1 ci _ hc).2.1⟩
  intro T hT X
  obtain ⟨v, st₀, t, T', L, h0, X', hL, e1, ⟨r, h', er, eK, eR⟩, sts⟩ := W.runV (b := b) (As := As) (rest := st) (g := F0 m pc ls stk) (nL := M.2.2.1) ⟨hC.x, hC.b, hC.ml, hC.own, hC.ts⟩ (hM l) ⟨cb, hC.ts _ v4, hC.ts _ v5⟩ ⟨fx_blind, hcell, fun U hU hW => ⟨rfl, hC.k.moved hW, by rw [hU]; exact hR⟩⟩ rfl hn hl.1 hstk (by show 2 * 0 + _ ≤ 8; omega) hd ⟨by omega, by omega⟩ T hT X
  cases er
  obtain ⟨t2, a1, b1⟩ := k v h' eK p l e R s m args below meth c T'.heap (locs ++ L) (cells + mc) (slots + ms) ls hC (by rw [e1]; exact eR) hl (by omega) (by omega) (fun q hq => (List.mem_append.mp hq).elim (h3 q) (hL q)) T' rfl X'
  exact ⟨t2, sts t2 a1, b1⟩
theorem fx_callS (hd : decode M.2.1 pc = .ok (.invokestatic idx, 3)) (hV : fx_Vs M' n) (hlk : Cond.methodLink M.1.cls idx M'.1 ∈ fx_ws) (hM : fx_Met g M' d' lo' As h mc ms K') (hn : As.length = n) (hdd : d' + 1 ≤ d) (hll : 19 + M'.2.2.1 + lo' ≤ lo) (hmc : mc ≤ cu) (hms : ms ≤ su) (hstk : stk = As.reverse ++ st) (hst : (st.map fun v => v.category).sum ≤ 8)
    (k : ∀ (r : Option Value) (h' : fx_H), K' r h' → fx_Y g M d lo K KX (pc + 3) lv (r.toList ++ st) h' (cu - mc) (su - ms)) : fx_Y g M d lo K KX pc lv stk h cu su := by
  intro p l e R s m args below meth c H locs cells slots ls hC hR hl h1 h2 h3
  obtain ⟨⟨v1, v2, v3⟩, v4⟩ := hV
  have hcd := hC.d
  have hlo := hC.lo
  have cb := callB_of (R := R) (s := s) (args := args) (own := M.1.cls) (index := idx) (y := M'.1) (bytes := M'.2.1) (maxL := M'.2.2.1) (ret := M'.2.2.2) (rm := { frames := d', cells := mc, slots := ms, locals := lo' }) (mc := mc) (ms := ms) n hC.ts (fx_good v1) rfl rfl rfl (hC.ts _ v2) (hC.ts _ hlk) v3 ⟨by show d' + 1 ≤ _; omega, by show 8 + (M'.2.2.1 + 11) + lo' ≤ _; omega⟩
  intro T hT X
  obtain ⟨v, st₀, t, T', L, h0, X', hL, e1, ⟨r, h', er, eK, eR⟩, sts⟩ := W.runS (As := As) (rest := st) (g := F0 m pc ls stk) (nL := M.2.2.1) ⟨hC.x, hC.b, hC.ml, hC.own, hC.ts⟩ (hM l) ⟨cb, hC.ts _ v4⟩ ⟨fx_blind, fun U hU hW => ⟨rfl, hC.k.moved hW, by rw [hU]; exact hR⟩⟩ rfl hn hl.1 hstk (by show 2 * 0 + _ ≤ 8; omega) hd ⟨by omega, by omega⟩ T hT X
  cases er
  obtain ⟨t2, a1, b1⟩ := k v h' eK p l e R s m args below meth c T'.heap (locs ++ L) (cells + mc) (slots + ms) ls hC (by rw [e1]; exact eR) hl (by omega) (by omega) (fun q hq => (List.mem_append.mp hq).elim (h3 q) (hL q)) T' rfl X'
  exact ⟨t2, sts t2 a1, b1⟩
theorem fx_callC (hd : decode M.2.1 pc = .ok (.invokespecial idx, 3)) (hV : fx_Vc M' n) (hlk : Cond.methodLink M.1.cls idx M'.1 ∈ fx_ws) (hM : fx_Met g M' d' lo' (.ref b :: As) h mc ms K') (hn : As.length = n) (hdd : d' + 1 ≤ d) (hll : 19 + M'.2.2.1 + lo' ≤ lo) (hmc : mc ≤ cu) (hms : ms ≤ su) (hstk : stk = As.reverse ++ .ref b :: st) (hst : (st.map fun v => v.category).sum ≤ 8)
    (k : ∀ (r : Option Value) (h' : fx_H), K' r h' → fx_Y g M d lo K KX (pc + 3) lv (r.toList ++ st) h' (cu - mc) (su - ms)) : fx_Y g M d lo K KX pc lv stk h cu su := by
  intro p l e R s m args below meth c H locs cells slots ls hC hR hl h1 h2 h3
  obtain ⟨⟨v1, v2, v3⟩, v4, v5, v6⟩ := hV
  have hcd := hC.d
  have hlo := hC.lo
  have cb := callB_of (R := R) (s := s) (args := args) (own := M.1.cls) (index := idx) (y := M'.1) (bytes := M'.2.1) (maxL := M'.2.2.1) (ret := M'.2.2.2) (rm := { frames := d', cells := mc, slots := ms, locals := lo' }) (mc := mc) (ms := ms) n hC.ts (fx_good v1) rfl rfl rfl (hC.ts _ v2) (hC.ts _ hlk) v3 ⟨by show d' + 1 ≤ _; omega, by show 8 + (M'.2.2.1 + 11) + lo' ≤ _; omega⟩
  rw [v6] at cb
  intro T hT X
  obtain ⟨v, st₀, t, T', L, h0, X', hL, e1, ⟨r, h', er, eK, eR⟩, sts⟩ := W.runI (b := b) (As := As) (rest := st) (g := F0 m pc ls stk) (nL := M.2.2.1) ⟨hC.x, hC.b, hC.ml, hC.own, hC.ts⟩ (by have := hM l; rw [v6] at this; exact this) ⟨cb, v5, hC.ts _ v4⟩ ⟨fx_blind, fun U hU hW => ⟨rfl, hC.k.moved hW, by rw [hU]; exact hR⟩⟩ rfl hn hl.1 hstk (by show 2 * 0 + _ ≤ 8; omega) hd ⟨by omega, by omega⟩ T hT X
  cases er
  obtain ⟨t2, a1, b1⟩ := k v h' eK p l e R s m args below meth c T'.heap (locs ++ L) (cells + mc) (slots + ms) ls hC (by rw [e1]; exact eR) hl (by omega) (by omega) (fun q hq => (List.mem_append.mp hq).elim (h3 q) (hL q)) T' rfl X'
  exact ⟨t2, sts t2 a1, b1⟩
/-- .. of a method that leaves the heap alone -/
theorem fx_callVp {ci : Nat} {fs : List Value} {r9 : vw_C} {v : Value} (hd : decode M.2.1 pc = .ok (.invokevirtual idx, 3)) (hV : fx_Vi M' n) (hlk : Cond.methodLink M.1.cls idx M'.1 ∈ fx_ws) (hc : vwCl[ci]? = some r9) (hc2 : r9.1 = M'.1.cls) (hb : h b = some (.inr (ci, fs))) (hM : fx_P g M' d' lo' (.ref b :: As) h v) (hn : As.length = n) (hdd : d' + 1 ≤ d) (hll : 19 + M'.2.2.1 + lo' ≤ lo) (hstk : stk = As.reverse ++ .ref b :: st) (hst : (st.map fun v => v.category).sum ≤ 8)
    (k : fx_Y g M d lo K KX (pc + 3) lv (v :: st) h cu su) : fx_Y g M d lo K KX pc lv stk h cu su :=
  fx_callV hd hV hlk hc hc2 hb hM hn hdd hll (Nat.zero_le _) (Nat.zero_le _) hstk hst (fun r h' q => by obtain ⟨rfl, rfl⟩ := q; exact k)
theorem fx_callSp {v : Value} (hd : decode M.2.1 pc = .ok (.invokestatic idx, 3)) (hV : fx_Vs M' n) (hlk : Cond.methodLink M.1.cls idx M'.1 ∈ fx_ws) (hM : fx_P g M' d' lo' As h v) (hn : As.length = n) (hdd : d' + 1 ≤ d) (hll : 19 + M'.2.2.1 + lo' ≤ lo) (hstk : stk = As.reverse ++ st) (hst : (st.map fun v => v.category).sum ≤ 8)
    (k : fx_Y g M d lo K KX (pc + 3) lv (v :: st) h cu su) : fx_Y g M d lo K KX pc lv stk h cu su :=
  fx_callS hd hV hlk hM hn hdd hll (Nat.zero_le _) (Nat.zero_le _) hstk hst (fun r h' q => by obtain ⟨rfl, rfl⟩ := q; exact k)
/-- Object's own constructor -/
theorem fx_objInit (hd : decode M.2.1 pc = .ok (.invokespecial idx, 3)) (hlk : Cond.methodLink M.1.cls idx objectInit ∈ fx_ws) (hi : Cond.instanceMethod objectInit ∈ fx_ws) (hcd : Cond.code objectInit ⟨#[0xb1]⟩ 1 none ∈ fx_ws) (hdd : 1 ≤ d) (hll : 20 ≤ lo) (hst : (st.map fun v => v.category).sum ≤ 8) (k : fx_Y g M d lo K KX (pc + 3) lv st h cu su) : fx_Y g M d lo K KX pc lv (.ref b :: st) h cu su := by
  intro p l e R s m args below meth c H locs cells slots ls hC hR hl h1 h2 h3
  have hcd9 := hC.d
  have hlo := hC.lo
  exact W.objInit hC.x hC.b hC.own (hC.ts _ hlk) (hC.ts _ hi) (hC.ts _ hcd) rfl (by rw [hC.ml]; exact hl.1) rfl hd (by omega) (by show 2 * 0 + _ + 12 ≤ _; omega) (k p l e R s m args below meth c H locs cells slots ls hC hR hl h1 h2 h3)
theorem fx_mmax {x y : Int32} (hd : decode M.2.1 pc = .ok (.invokestatic idx, 3)) (hlk : Cond.methodLink M.1.cls idx Lib.Math.max.name ∈ fx_ws) (hs9 : Cond.static Lib.Math.max.name ∈ fx_ws) (hi : Cond.initialized "java/lang/Math" ∈ fx_ws) (hcd : Cond.code Lib.Math.max.name Lib.Math.max.code 2 (some .int) ∈ fx_ws) (hdd : 1 ≤ d) (hll : 21 ≤ lo) (hst : (st.map fun v => v.category).sum ≤ 8) (k : fx_Y g M d lo K KX (pc + 3) lv (.int (if x < y then y else x) :: st) h cu su) : fx_Y g M d lo K KX pc lv (.int y :: .int x :: st) h cu su := by
  intro p l e R s m args below meth c H locs cells slots ls hC hR hl h1 h2 h3
  have hcd9 := hC.d
  have hlo := hC.lo
  exact va_mmax hC.x hC.b (by rw [hC.ml]; exact hl.1.symm) hC.own (hC.ts _ hlk) (hC.ts _ hs9) (hC.ts _ hi) (hC.ts _ hcd) (by omega) (by omega) (by omega) (by omega) hd (k p l e R s m args below meth c H locs cells slots ls hC hR hl h1 h2 h3)
theorem fx_mmin {x y : Int32} (hd : decode M.2.1 pc = .ok (.invokestatic idx, 3)) (hlk : Cond.methodLink M.1.cls idx Lib.Math.min.name ∈ fx_ws) (hs9 : Cond.static Lib.Math.min.name ∈ fx_ws) (hi : Cond.initialized "java/lang/Math" ∈ fx_ws) (hcd : Cond.code Lib.Math.min.name Lib.Math.min.code 2 (some .int) ∈ fx_ws) (hdd : 1 ≤ d) (hll : 21 ≤ lo) (hst : (st.map fun v => v.category).sum ≤ 8) (k : fx_Y g M d lo K KX (pc + 3) lv (.int (if y < x then y else x) :: st) h cu su) : fx_Y g M d lo K KX pc lv (.int y :: .int x :: st) h cu su := by
  intro p l e R s m args below meth c H locs cells slots ls hC hR hl h1 h2 h3
  have hcd9 := hC.d
  have hlo := hC.lo
  exact va_mmin hC.x hC.b (by rw [hC.ml]; exact hl.1.symm) hC.own (hC.ts _ hlk) (hC.ts _ hs9) (hC.ts _ hi) (hC.ts _ hcd) (by omega) (by omega) (by omega) (by omega) hd (k p l e R s m args below meth c H locs cells slots ls hC hR hl h1 h2 h3)
end FXC
end
section
theorem fx_in (i : Nat) {w : Cond} (h : lw_tbl[i]? = some w) (hg : goodWord w = true) : w ∈ fx_ws := List.mem_filter.mpr ⟨List.mem_of_getElem? h, hg⟩
abbrev mX0_init : fx_M := (yX0_init, cX0_init, 1, none)
set_option maxRecDepth 100000 in
theorem vX0_init : fx_Vc mX0_init 0 := ⟨⟨fx_in 86 rfl rfl, fx_in 59 rfl rfl, by decide +kernel, by decide +kernel, by decide +kernel⟩, fx_in 85 rfl rfl, rfl, rfl⟩
abbrev mX0_append : fx_M := (yX0_append, cX0_append, 5, some .boolean)
set_option maxRecDepth 100000 in
theorem vX0_append : fx_Vi mX0_append 2 := ⟨⟨fx_in 187 rfl rfl, fx_in 59 rfl rfl, by decide +kernel, by decide +kernel, by decide +kernel⟩, fx_in 185 rfl rfl, fx_in 186 rfl rfl⟩
abbrev mX0_makeRoom : fx_M := (yX0_makeRoom, cX0_makeRoom, 2, none)
set_option maxRecDepth 100000 in
theorem vX0_makeRoom : fx_Vi mX0_makeRoom 1 := ⟨⟨fx_in 192 rfl rfl, fx_in 59 rfl rfl, by decide +kernel, by decide +kernel, by decide +kernel⟩, fx_in 191 rfl rfl, fx_in 0 rfl rfl⟩
abbrev mX0_clear : fx_M := (yX0_clear, cX0_clear, 1, none)
set_option maxRecDepth 100000 in
theorem vX0_clear : fx_Vi mX0_clear 0 := ⟨⟨fx_in 390 rfl rfl, fx_in 59 rfl rfl, by decide +kernel, by decide +kernel, by decide +kernel⟩, fx_in 388 rfl rfl, fx_in 389 rfl rfl⟩
abbrev mX0_size : fx_M := (yX0_size, cX0_size, 1, some .int)
set_option maxRecDepth 100000 in
theorem vX0_size : fx_Vi mX0_size 0 := ⟨⟨fx_in 240 rfl rfl, fx_in 59 rfl rfl, by decide +kernel, by decide +kernel, by decide +kernel⟩, fx_in 238 rfl rfl, fx_in 239 rfl rfl⟩
abbrev mX0_byteAt : fx_M := (yX0_byteAt, cX0_byteAt, 2, some .int)
set_option maxRecDepth 100000 in
theorem vX0_byteAt : fx_Vi mX0_byteAt 1 := ⟨⟨fx_in 358 rfl rfl, fx_in 59 rfl rfl, by decide +kernel, by decide +kernel, by decide +kernel⟩, fx_in 356 rfl rfl, fx_in 357 rfl rfl⟩
abbrev mX0_halfAt : fx_M := (yX0_halfAt, cX0_halfAt, 2, some .int)
set_option maxRecDepth 100000 in
theorem vX0_halfAt : fx_Vi mX0_halfAt 1 := ⟨⟨fx_in 354 rfl rfl, fx_in 59 rfl rfl, by decide +kernel, by decide +kernel, by decide +kernel⟩, fx_in 352 rfl rfl, fx_in 353 rfl rfl⟩
abbrev mX0_wordAt : fx_M := (yX0_wordAt, cX0_wordAt, 2, some .int)
set_option maxRecDepth 100000 in
theorem vX0_wordAt : fx_Vi mX0_wordAt 1 := ⟨⟨fx_in 368 rfl rfl, fx_in 59 rfl rfl, by decide +kernel, by decide +kernel, by decide +kernel⟩, fx_in 366 rfl rfl, fx_in 367 rfl rfl⟩
abbrev mX1_init : fx_M := (yX1_init, cX1_init, 1, none)
set_option maxRecDepth 100000 in
theorem vX1_init : fx_Vc mX1_init 0 := ⟨⟨fx_in 102 rfl rfl, fx_in 60 rfl rfl, by decide +kernel, by decide +kernel, by decide +kernel⟩, fx_in 101 rfl rfl, rfl, rfl⟩
abbrev mX1_allEnd : fx_M := (yX1_allEnd, cX1_allEnd, 3, some .boolean)
set_option maxRecDepth 100000 in
theorem vX1_allEnd : fx_Vi mX1_allEnd 1 := ⟨⟨fx_in 497 rfl rfl, fx_in 60 rfl rfl, by decide +kernel, by decide +kernel, by decide +kernel⟩, fx_in 495 rfl rfl, fx_in 496 rfl rfl⟩
abbrev mX1_numberPrograms : fx_M := (yX1_numberPrograms, cX1_numberPrograms, 3, none)
set_option maxRecDepth 100000 in
theorem vX1_numberPrograms : fx_Vi mX1_numberPrograms 1 := ⟨⟨fx_in 501 rfl rfl, fx_in 60 rfl rfl, by decide +kernel, by decide +kernel, by decide +kernel⟩, fx_in 500 rfl rfl, fx_in 4 rfl rfl⟩
abbrev mX1_clearTables : fx_M := (yX1_clearTables, cX1_clearTables, 3, none)
set_option maxRecDepth 100000 in
theorem vX1_clearTables : fx_Vi mX1_clearTables 0 := ⟨⟨fx_in 514 rfl rfl, fx_in 60 rfl rfl, by decide +kernel, by decide +kernel, by decide +kernel⟩, fx_in 513 rfl rfl, fx_in 5 rfl rfl⟩
abbrev mX1_noteSteps : fx_M := (yX1_noteSteps, cX1_noteSteps, 6, none)
set_option maxRecDepth 100000 in
theorem vX1_noteSteps : fx_Vi mX1_noteSteps 2 := ⟨⟨fx_in 521 rfl rfl, fx_in 60 rfl rfl, by decide +kernel, by decide +kernel, by decide +kernel⟩, fx_in 520 rfl rfl, fx_in 6 rfl rfl⟩
abbrev mX1_ends : fx_M := (yX1_ends, cX1_ends, 6, some .boolean)
set_option maxRecDepth 100000 in
theorem vX1_ends : fx_Vi mX1_ends 2 := ⟨⟨fx_in 533 rfl rfl, fx_in 60 rfl rfl, by decide +kernel, by decide +kernel, by decide +kernel⟩, fx_in 532 rfl rfl, fx_in 8 rfl rfl⟩
abbrev mX1_awaitAnswer : fx_M := (yX1_awaitAnswer, cX1_awaitAnswer, 3, some .int)
set_option maxRecDepth 100000 in
theorem vX1_awaitAnswer : fx_Vi mX1_awaitAnswer 2 := ⟨⟨fx_in 537 rfl rfl, fx_in 60 rfl rfl, by decide +kernel, by decide +kernel, by decide +kernel⟩, fx_in 536 rfl rfl, fx_in 9 rfl rfl⟩
abbrev mX1_answer : fx_M := (yX1_answer, cX1_answer, 10, some .int)
set_option maxRecDepth 100000 in
theorem vX1_answer : fx_Vi mX1_answer 2 := ⟨⟨fx_in 541 rfl rfl, fx_in 60 rfl rfl, by decide +kernel, by decide +kernel, by decide +kernel⟩, fx_in 540 rfl rfl, fx_in 10 rfl rfl⟩
abbrev mX1_answerAs : fx_M := (yX1_answerAs, cX1_answerAs, 5, some .int)
set_option maxRecDepth 100000 in
theorem vX1_answerAs : fx_Vi mX1_answerAs 3 := ⟨⟨fx_in 552 rfl rfl, fx_in 60 rfl rfl, by decide +kernel, by decide +kernel, by decide +kernel⟩, fx_in 551 rfl rfl, fx_in 12 rfl rfl⟩
abbrev mX1_know : fx_M := (yX1_know, cX1_know, 3, some .int)
set_option maxRecDepth 100000 in
theorem vX1_know : fx_Vi mX1_know 2 := ⟨⟨fx_in 548 rfl rfl, fx_in 60 rfl rfl, by decide +kernel, by decide +kernel, by decide +kernel⟩, fx_in 547 rfl rfl, fx_in 11 rfl rfl⟩
abbrev mX1_endOf : fx_M := (yX1_endOf, cX1_endOf, 4, some .int)
set_option maxRecDepth 100000 in
theorem vX1_endOf : fx_Vi mX1_endOf 2 := ⟨⟨fx_in 556 rfl rfl, fx_in 60 rfl rfl, by decide +kernel, by decide +kernel, by decide +kernel⟩, fx_in 555 rfl rfl, fx_in 13 rfl rfl⟩
abbrev mX1_stateOf : fx_M := (yX1_stateOf, cX1_stateOf, 2, some .int)
set_option maxRecDepth 100000 in
theorem vX1_stateOf : fx_Vi mX1_stateOf 1 := ⟨⟨fx_in 529 rfl rfl, fx_in 60 rfl rfl, by decide +kernel, by decide +kernel, by decide +kernel⟩, fx_in 528 rfl rfl, fx_in 7 rfl rfl⟩
abbrev mX1_pairOf : fx_M := (yX1_pairOf, cX1_pairOf, 3, some .int)
set_option maxRecDepth 100000 in
theorem vX1_pairOf : fx_Vi mX1_pairOf 2 := ⟨⟨fx_in 560 rfl rfl, fx_in 60 rfl rfl, by decide +kernel, by decide +kernel, by decide +kernel⟩, fx_in 559 rfl rfl, fx_in 14 rfl rfl⟩
abbrev mX2_halvesFit : fx_M := (yX2_halvesFit, cX2_halvesFit, 4, some .boolean)
set_option maxRecDepth 100000 in
theorem vX2_halvesFit : fx_Vs mX2_halvesFit 1 := ⟨⟨fx_in 349 rfl rfl, fx_in 70 rfl rfl, by decide +kernel, by decide +kernel, by decide +kernel⟩, fx_in 348 rfl rfl⟩
abbrev mX2_faultOf : fx_M := (yX2_faultOf, cX2_faultOf, 1, some .int)
set_option maxRecDepth 100000 in
theorem vX2_faultOf : fx_Vs mX2_faultOf 1 := ⟨⟨fx_in 393 rfl rfl, fx_in 70 rfl rfl, by decide +kernel, by decide +kernel, by decide +kernel⟩, fx_in 392 rfl rfl⟩
abbrev mX2_infosFit : fx_M := (yX2_infosFit, cX2_infosFit, 2, some .boolean)
set_option maxRecDepth 100000 in
theorem vX2_infosFit : fx_Vs mX2_infosFit 1 := ⟨⟨fx_in 401 rfl rfl, fx_in 70 rfl rfl, by decide +kernel, by decide +kernel, by decide +kernel⟩, fx_in 400 rfl rfl⟩
abbrev mX2_placesFit : fx_M := (yX2_placesFit, cX2_placesFit, 3, some .boolean)
set_option maxRecDepth 100000 in
theorem vX2_placesFit : fx_Vs mX2_placesFit 2 := ⟨⟨fx_in 412 rfl rfl, fx_in 70 rfl rfl, by decide +kernel, by decide +kernel, by decide +kernel⟩, fx_in 411 rfl rfl⟩
abbrev mX2_tagFits : fx_M := (yX2_tagFits, cX2_tagFits, 3, some .boolean)
set_option maxRecDepth 100000 in
theorem vX2_tagFits : fx_Vs mX2_tagFits 2 := ⟨⟨fx_in 423 rfl rfl, fx_in 70 rfl rfl, by decide +kernel, by decide +kernel, by decide +kernel⟩, fx_in 422 rfl rfl⟩
abbrev mX2_chainEnds : fx_M := (yX2_chainEnds, cX2_chainEnds, 4, some .boolean)
set_option maxRecDepth 100000 in
theorem vX2_chainEnds : fx_Vs mX2_chainEnds 2 := ⟨⟨fx_in 434 rfl rfl, fx_in 70 rfl rfl, by decide +kernel, by decide +kernel, by decide +kernel⟩, fx_in 433 rfl rfl⟩
abbrev mX2_fractionsFit : fx_M := (yX2_fractionsFit, cX2_fractionsFit, 2, some .boolean)
set_option maxRecDepth 100000 in
theorem vX2_fractionsFit : fx_Vs mX2_fractionsFit 1 := ⟨⟨fx_in 437 rfl rfl, fx_in 70 rfl rfl, by decide +kernel, by decide +kernel, by decide +kernel⟩, fx_in 436 rfl rfl⟩
abbrev mX2_areFractions : fx_M := (yX2_areFractions, cX2_areFractions, 5, some .boolean)
set_option maxRecDepth 100000 in
theorem vX2_areFractions : fx_Vs mX2_areFractions 3 := ⟨⟨fx_in 441 rfl rfl, fx_in 70 rfl rfl, by decide +kernel, by decide +kernel, by decide +kernel⟩, fx_in 440 rfl rfl⟩
abbrev mX2_stepsFit : fx_M := (yX2_stepsFit, cX2_stepsFit, 2, some .boolean)
set_option maxRecDepth 100000 in
theorem vX2_stepsFit : fx_Vs mX2_stepsFit 1 := ⟨⟨fx_in 446 rfl rfl, fx_in 70 rfl rfl, by decide +kernel, by decide +kernel, by decide +kernel⟩, fx_in 445 rfl rfl⟩
abbrev mX2_jumpFits : fx_M := (yX2_jumpFits, cX2_jumpFits, 2, some .boolean)
set_option maxRecDepth 100000 in
theorem vX2_jumpFits : fx_Vs mX2_jumpFits 2 := ⟨⟨fx_in 453 rfl rfl, fx_in 70 rfl rfl, by decide +kernel, by decide +kernel, by decide +kernel⟩, fx_in 452 rfl rfl⟩
abbrev mX2_deedFits : fx_M := (yX2_deedFits, cX2_deedFits, 3, some .boolean)
set_option maxRecDepth 100000 in
theorem vX2_deedFits : fx_Vs mX2_deedFits 2 := ⟨⟨fx_in 468 rfl rfl, fx_in 70 rfl rfl, by decide +kernel, by decide +kernel, by decide +kernel⟩, fx_in 467 rfl rfl⟩
abbrev mX2_isLigature : fx_M := (yX2_isLigature, cX2_isLigature, 1, some .boolean)
set_option maxRecDepth 100000 in
theorem vX2_isLigature : fx_Vs mX2_isLigature 1 := ⟨⟨fx_in 487 rfl rfl, fx_in 70 rfl rfl, by decide +kernel, by decide +kernel, by decide +kernel⟩, fx_in 486 rfl rfl⟩
abbrev mX2_piecesFit : fx_M := (yX2_piecesFit, cX2_piecesFit, 3, some .boolean)
set_option maxRecDepth 100000 in
theorem vX2_piecesFit : fx_Vs mX2_piecesFit 1 := ⟨⟨fx_in 490 rfl rfl, fx_in 70 rfl rfl, by decide +kernel, by decide +kernel, by decide +kernel⟩, fx_in 489 rfl rfl⟩
abbrev mX2_partFits : fx_M := (yX2_partFits, cX2_partFits, 2, some .boolean)
set_option maxRecDepth 100000 in
theorem vX2_partFits : fx_Vs mX2_partFits 2 := ⟨⟨fx_in 493 rfl rfl, fx_in 70 rfl rfl, by decide +kernel, by decide +kernel, by decide +kernel⟩, fx_in 492 rfl rfl⟩
abbrev mX3_init : fx_M := (yX3_init, cX3_init, 6, none)
set_option maxRecDepth 100000 in
theorem vX3_init : fx_Vc mX3_init 1 := ⟨⟨fx_in 362 rfl rfl, fx_in 71 rfl rfl, by decide +kernel, by decide +kernel, by decide +kernel⟩, fx_in 361 rfl rfl, rfl, rfl⟩
abbrev mX3_scaleTo : fx_M := (yX3_scaleTo, cX3_scaleTo, 2, none)
set_option maxRecDepth 100000 in
theorem vX3_scaleTo : fx_Vi mX3_scaleTo 1 := ⟨⟨fx_in 580 rfl rfl, fx_in 71 rfl rfl, by decide +kernel, by decide +kernel, by decide +kernel⟩, fx_in 578 rfl rfl, fx_in 579 rfl rfl⟩
abbrev mX3_rowLength : fx_M := (yX3_rowLength, cX3_rowLength, 2, some .int)
set_option maxRecDepth 100000 in
theorem vX3_rowLength : fx_Vi mX3_rowLength 1 := ⟨⟨fx_in 420 rfl rfl, fx_in 71 rfl rfl, by decide +kernel, by decide +kernel, by decide +kernel⟩, fx_in 418 rfl rfl, fx_in 419 rfl rfl⟩
abbrev mX3_wordAt : fx_M := (yX3_wordAt, cX3_wordAt, 4, some .int)
set_option maxRecDepth 100000 in
theorem vX3_wordAt : fx_Vi mX3_wordAt 2 := ⟨⟨fx_in 265 rfl rfl, fx_in 71 rfl rfl, by decide +kernel, by decide +kernel, by decide +kernel⟩, fx_in 263 rfl rfl, fx_in 264 rfl rfl⟩
abbrev mX3_designSize : fx_M := (yX3_designSize, cX3_designSize, 1, some .int)
set_option maxRecDepth 100000 in
theorem vX3_designSize : fx_Vi mX3_designSize 0 := ⟨⟨fx_in 397 rfl rfl, fx_in 71 rfl rfl, by decide +kernel, by decide +kernel, by decide +kernel⟩, fx_in 395 rfl rfl, fx_in 396 rfl rfl⟩
abbrev mX3_infoOf : fx_M := (yX3_infoOf, cX3_infoOf, 2, some .int)
set_option maxRecDepth 100000 in
theorem vX3_infoOf : fx_Vi mX3_infoOf 1 := ⟨⟨fx_in 409 rfl rfl, fx_in 71 rfl rfl, by decide +kernel, by decide +kernel, by decide +kernel⟩, fx_in 407 rfl rfl, fx_in 408 rfl rfl⟩
abbrev mX3_hasCharacter : fx_M := (yX3_hasCharacter, cX3_hasCharacter, 2, some .boolean)
set_option maxRecDepth 100000 in
theorem vX3_hasCharacter : fx_Vi mX3_hasCharacter 1 := ⟨⟨fx_in 405 rfl rfl, fx_in 71 rfl rfl, by decide +kernel, by decide +kernel, by decide +kernel⟩, fx_in 403 rfl rfl, fx_in 404 rfl rfl⟩
abbrev mX3_tagOf : fx_M := (yX3_tagOf, cX3_tagOf, 2, some .int)
set_option maxRecDepth 100000 in
theorem vX3_tagOf : fx_Vi mX3_tagOf 1 := ⟨⟨fx_in 431 rfl rfl, fx_in 71 rfl rfl, by decide +kernel, by decide +kernel, by decide +kernel⟩, fx_in 429 rfl rfl, fx_in 430 rfl rfl⟩
abbrev mX3_restOf : fx_M := (yX3_restOf, cX3_restOf, 2, some .int)
set_option maxRecDepth 100000 in
theorem vX3_restOf : fx_Vi mX3_restOf 1 := ⟨⟨fx_in 427 rfl rfl, fx_in 71 rfl rfl, by decide +kernel, by decide +kernel, by decide +kernel⟩, fx_in 425 rfl rfl, fx_in 426 rfl rfl⟩
abbrev mX3_placeOf : fx_M := (yX3_placeOf, cX3_placeOf, 4, some .int)
set_option maxRecDepth 100000 in
theorem vX3_placeOf : fx_Vi mX3_placeOf 2 := ⟨⟨fx_in 416 rfl rfl, fx_in 71 rfl rfl, by decide +kernel, by decide +kernel, by decide +kernel⟩, fx_in 414 rfl rfl, fx_in 415 rfl rfl⟩
abbrev mX3_scaled : fx_M := (yX3_scaled, cX3_scaled, 2, some .int)
set_option maxRecDepth 100000 in
theorem vX3_scaled : fx_Vi mX3_scaled 1 := ⟨⟨fx_in 615 rfl rfl, fx_in 71 rfl rfl, by decide +kernel, by decide +kernel, by decide +kernel⟩, fx_in 613 rfl rfl, fx_in 614 rfl rfl⟩
abbrev mX3_measure : fx_M := (yX3_measure, cX3_measure, 3, some .int)
set_option maxRecDepth 100000 in
theorem vX3_measure : fx_Vi mX3_measure 2 := ⟨⟨fx_in 610 rfl rfl, fx_in 71 rfl rfl, by decide +kernel, by decide +kernel, by decide +kernel⟩, fx_in 608 rfl rfl, fx_in 609 rfl rfl⟩
abbrev mX3_scaledParameter : fx_M := (yX3_scaledParameter, cX3_scaledParameter, 3, some .int)
set_option maxRecDepth 100000 in
theorem vX3_scaledParameter : fx_Vi mX3_scaledParameter 1 := ⟨⟨fx_in 627 rfl rfl, fx_in 71 rfl rfl, by decide +kernel, by decide +kernel, by decide +kernel⟩, fx_in 625 rfl rfl, fx_in 626 rfl rfl⟩
abbrev mX3_skipOf : fx_M := (yX3_skipOf, cX3_skipOf, 2, some .int)
set_option maxRecDepth 100000 in
theorem vX3_skipOf : fx_Vi mX3_skipOf 1 := ⟨⟨fx_in 261 rfl rfl, fx_in 71 rfl rfl, by decide +kernel, by decide +kernel, by decide +kernel⟩, fx_in 259 rfl rfl, fx_in 260 rfl rfl⟩
abbrev mX3_signOf : fx_M := (yX3_signOf, cX3_signOf, 2, some .int)
set_option maxRecDepth 100000 in
theorem vX3_signOf : fx_Vi mX3_signOf 1 := ⟨⟨fx_in 269 rfl rfl, fx_in 71 rfl rfl, by decide +kernel, by decide +kernel, by decide +kernel⟩, fx_in 267 rfl rfl, fx_in 268 rfl rfl⟩
abbrev mX3_deedOf : fx_M := (yX3_deedOf, cX3_deedOf, 2, some .int)
set_option maxRecDepth 100000 in
theorem vX3_deedOf : fx_Vi mX3_deedOf 1 := ⟨⟨fx_in 461 rfl rfl, fx_in 71 rfl rfl, by decide +kernel, by decide +kernel, by decide +kernel⟩, fx_in 459 rfl rfl, fx_in 460 rfl rfl⟩
abbrev mX3_remainderOf : fx_M := (yX3_remainderOf, cX3_remainderOf, 2, some .int)
set_option maxRecDepth 100000 in
theorem vX3_remainderOf : fx_Vi mX3_remainderOf 1 := ⟨⟨fx_in 465 rfl rfl, fx_in 71 rfl rfl, by decide +kernel, by decide +kernel, by decide +kernel⟩, fx_in 463 rfl rfl, fx_in 464 rfl rfl⟩
abbrev mX3_isJump : fx_M := (yX3_isJump, cX3_isJump, 2, some .boolean)
set_option maxRecDepth 100000 in
theorem vX3_isJump : fx_Vi mX3_isJump 1 := ⟨⟨fx_in 450 rfl rfl, fx_in 71 rfl rfl, by decide +kernel, by decide +kernel, by decide +kernel⟩, fx_in 448 rfl rfl, fx_in 449 rfl rfl⟩
abbrev mX3_targetOf : fx_M := (yX3_targetOf, cX3_targetOf, 2, some .int)
set_option maxRecDepth 100000 in
theorem vX3_targetOf : fx_Vi mX3_targetOf 1 := ⟨⟨fx_in 457 rfl rfl, fx_in 71 rfl rfl, by decide +kernel, by decide +kernel, by decide +kernel⟩, fx_in 455 rfl rfl, fx_in 456 rfl rfl⟩
abbrev mX3_isKern : fx_M := (yX3_isKern, cX3_isKern, 2, some .boolean)
set_option maxRecDepth 100000 in
theorem vX3_isKern : fx_Vi mX3_isKern 1 := ⟨⟨fx_in 478 rfl rfl, fx_in 71 rfl rfl, by decide +kernel, by decide +kernel, by decide +kernel⟩, fx_in 476 rfl rfl, fx_in 477 rfl rfl⟩
abbrev mX3_kernPlaceOf : fx_M := (yX3_kernPlaceOf, cX3_kernPlaceOf, 2, some .int)
set_option maxRecDepth 100000 in
theorem vX3_kernPlaceOf : fx_Vi mX3_kernPlaceOf 1 := ⟨⟨fx_in 482 rfl rfl, fx_in 71 rfl rfl, by decide +kernel, by decide +kernel, by decide +kernel⟩, fx_in 480 rfl rfl, fx_in 481 rfl rfl⟩
abbrev mX3_scaledKern : fx_M := (yX3_scaledKern, cX3_scaledKern, 2, some .int)
set_option maxRecDepth 100000 in
theorem vX3_scaledKern : fx_Vi mX3_scaledKern 1 := ⟨⟨fx_in 688 rfl rfl, fx_in 71 rfl rfl, by decide +kernel, by decide +kernel, by decide +kernel⟩, fx_in 686 rfl rfl, fx_in 687 rfl rfl⟩
abbrev mX3_boundary : fx_M := (yX3_boundary, cX3_boundary, 1, some .int)
set_option maxRecDepth 100000 in
theorem vX3_boundary : fx_Vi mX3_boundary 0 := ⟨⟨fx_in 257 rfl rfl, fx_in 71 rfl rfl, by decide +kernel, by decide +kernel, by decide +kernel⟩, fx_in 255 rfl rfl, fx_in 256 rfl rfl⟩
abbrev mX3_programStart : fx_M := (yX3_programStart, cX3_programStart, 4, some .int)
set_option maxRecDepth 100000 in
theorem vX3_programStart : fx_Vi mX3_programStart 1 := ⟨⟨fx_in 505 rfl rfl, fx_in 71 rfl rfl, by decide +kernel, by decide +kernel, by decide +kernel⟩, fx_in 503 rfl rfl, fx_in 504 rfl rfl⟩
abbrev mX3_nextStep : fx_M := (yX3_nextStep, cX3_nextStep, 3, some .int)
set_option maxRecDepth 100000 in
theorem vX3_nextStep : fx_Vi mX3_nextStep 1 := ⟨⟨fx_in 474 rfl rfl, fx_in 71 rfl rfl, by decide +kernel, by decide +kernel, by decide +kernel⟩, fx_in 472 rfl rfl, fx_in 473 rfl rfl⟩
abbrev mX3_stepFor : fx_M := (yX3_stepFor, cX3_stepFor, 5, some .int)
set_option maxRecDepth 100000 in
theorem vX3_stepFor : fx_Vi mX3_stepFor 2 := ⟨⟨fx_in 665 rfl rfl, fx_in 71 rfl rfl, by decide +kernel, by decide +kernel, by decide +kernel⟩, fx_in 663 rfl rfl, fx_in 664 rfl rfl⟩
abbrev mX3_tally : fx_M := (yX3_tally, cX3_tally, 2, some .int)
set_option maxRecDepth 100000 in
theorem vX3_tally : fx_Vi mX3_tally 1 := ⟨⟨fx_in 248 rfl rfl, fx_in 71 rfl rfl, by decide +kernel, by decide +kernel, by decide +kernel⟩, fx_in 246 rfl rfl, fx_in 247 rfl rfl⟩
abbrev mX3_characterCount : fx_M := (yX3_characterCount, cX3_characterCount, 3, some .int)
set_option maxRecDepth 100000 in
theorem vX3_characterCount : fx_Vi mX3_characterCount 0 := ⟨⟨fx_in 253 rfl rfl, fx_in 71 rfl rfl, by decide +kernel, by decide +kernel, by decide +kernel⟩, fx_in 251 rfl rfl, fx_in 2 rfl rfl⟩
abbrev mX4_init : fx_M := (yX4_init, cX4_init, 1, none)
set_option maxRecDepth 100000 in
theorem vX4_init : fx_Vc mX4_init 0 := ⟨⟨fx_in 128 rfl rfl, fx_in 61 rfl rfl, by decide +kernel, by decide +kernel, by decide +kernel⟩, fx_in 127 rfl rfl, rfl, rfl⟩
abbrev mX4_forget : fx_M := (yX4_forget, cX4_forget, 1, none)
set_option maxRecDepth 100000 in
theorem vX4_forget : fx_Vi mX4_forget 0 := ⟨⟨fx_in 642 rfl rfl, fx_in 61 rfl rfl, by decide +kernel, by decide +kernel, by decide +kernel⟩, fx_in 640 rfl rfl, fx_in 641 rfl rfl⟩
abbrev mX4_begin : fx_M := (yX4_begin, cX4_begin, 4, some .boolean)
set_option maxRecDepth 100000 in
theorem vX4_begin : fx_Vi mX4_begin 2 := ⟨⟨fx_in 638 rfl rfl, fx_in 61 rfl rfl, by decide +kernel, by decide +kernel, by decide +kernel⟩, fx_in 636 rfl rfl, fx_in 637 rfl rfl⟩
abbrev mX4_run : fx_M := (yX4_run, cX4_run, 4, some .boolean)
set_option maxRecDepth 100000 in
theorem vX4_run : fx_Vi mX4_run 1 := ⟨⟨fx_in 657 rfl rfl, fx_in 61 rfl rfl, by decide +kernel, by decide +kernel, by decide +kernel⟩, fx_in 655 rfl rfl, fx_in 656 rfl rfl⟩
abbrev mX4_nextCode : fx_M := (yX4_nextCode, cX4_nextCode, 1, some .int)
set_option maxRecDepth 100000 in
theorem vX4_nextCode : fx_Vi mX4_nextCode 0 := ⟨⟨fx_in 661 rfl rfl, fx_in 61 rfl rfl, by decide +kernel, by decide +kernel, by decide +kernel⟩, fx_in 660 rfl rfl, fx_in 16 rfl rfl⟩
abbrev mX4_kern : fx_M := (yX4_kern, cX4_kern, 2, none)
set_option maxRecDepth 100000 in
theorem vX4_kern : fx_Vi mX4_kern 1 := ⟨⟨fx_in 693 rfl rfl, fx_in 61 rfl rfl, by decide +kernel, by decide +kernel, by decide +kernel⟩, fx_in 692 rfl rfl, fx_in 21 rfl rfl⟩
abbrev mX4_ligature : fx_M := (yX4_ligature, cX4_ligature, 5, none)
set_option maxRecDepth 100000 in
theorem vX4_ligature : fx_Vi mX4_ligature 2 := ⟨⟨fx_in 699 rfl rfl, fx_in 61 rfl rfl, by decide +kernel, by decide +kernel, by decide +kernel⟩, fx_in 698 rfl rfl, fx_in 22 rfl rfl⟩
abbrev mX4_becomeLigature : fx_M := (yX4_becomeLigature, cX4_becomeLigature, 2, none)
set_option maxRecDepth 100000 in
theorem vX4_becomeLigature : fx_Vi mX4_becomeLigature 1 := ⟨⟨fx_in 703 rfl rfl, fx_in 61 rfl rfl, by decide +kernel, by decide +kernel, by decide +kernel⟩, fx_in 702 rfl rfl, fx_in 23 rfl rfl⟩
abbrev mX4_goOn : fx_M := (yX4_goOn, cX4_goOn, 1, none)
set_option maxRecDepth 100000 in
theorem vX4_goOn : fx_Vi mX4_goOn 0 := ⟨⟨fx_in 671 rfl rfl, fx_in 61 rfl rfl, by decide +kernel, by decide +kernel, by decide +kernel⟩, fx_in 670 rfl rfl, fx_in 17 rfl rfl⟩
abbrev mX4_passSign : fx_M := (yX4_passSign, cX4_passSign, 1, none)
set_option maxRecDepth 100000 in
theorem vX4_passSign : fx_Vi mX4_passSign 0 := ⟨⟨fx_in 675 rfl rfl, fx_in 61 rfl rfl, by decide +kernel, by decide +kernel, by decide +kernel⟩, fx_in 674 rfl rfl, fx_in 18 rfl rfl⟩
abbrev mX4_addItem : fx_M := (yX4_addItem, cX4_addItem, 3, none)
set_option maxRecDepth 100000 in
theorem vX4_addItem : fx_Vi mX4_addItem 2 := ⟨⟨fx_in 679 rfl rfl, fx_in 61 rfl rfl, by decide +kernel, by decide +kernel, by decide +kernel⟩, fx_in 678 rfl rfl, fx_in 19 rfl rfl⟩
abbrev mX4_addUp : fx_M := (yX4_addUp, cX4_addUp, 3, none)
set_option maxRecDepth 100000 in
theorem vX4_addUp : fx_Vi mX4_addUp 1 := ⟨⟨fx_in 707 rfl rfl, fx_in 61 rfl rfl, by decide +kernel, by decide +kernel, by decide +kernel⟩, fx_in 706 rfl rfl, fx_in 24 rfl rfl⟩
abbrev mX4_push : fx_M := (yX4_push, cX4_push, 3, none)
set_option maxRecDepth 100000 in
theorem vX4_push : fx_Vi mX4_push 2 := ⟨⟨fx_in 648 rfl rfl, fx_in 61 rfl rfl, by decide +kernel, by decide +kernel, by decide +kernel⟩, fx_in 647 rfl rfl, fx_in 15 rfl rfl⟩
abbrev mX4_pop : fx_M := (yX4_pop, cX4_pop, 1, none)
set_option maxRecDepth 100000 in
theorem vX4_pop : fx_Vi mX4_pop 0 := ⟨⟨fx_in 683 rfl rfl, fx_in 61 rfl rfl, by decide +kernel, by decide +kernel, by decide +kernel⟩, fx_in 682 rfl rfl, fx_in 20 rfl rfl⟩
abbrev mX4_itemCount : fx_M := (yX4_itemCount, cX4_itemCount, 1, some .int)
set_option maxRecDepth 100000 in
theorem vX4_itemCount : fx_Vi mX4_itemCount 0 := ⟨⟨fx_in 713 rfl rfl, fx_in 61 rfl rfl, by decide +kernel, by decide +kernel, by decide +kernel⟩, fx_in 711 rfl rfl, fx_in 712 rfl rfl⟩
abbrev mX4_totalWidth : fx_M := (yX4_totalWidth, cX4_totalWidth, 1, some .long)
set_option maxRecDepth 100000 in
theorem vX4_totalWidth : fx_Vi mX4_totalWidth 0 := ⟨⟨fx_in 232 rfl rfl, fx_in 61 rfl rfl, by decide +kernel, by decide +kernel, by decide +kernel⟩, fx_in 230 rfl rfl, fx_in 231 rfl rfl⟩
abbrev mX4_itemPart : fx_M := (yX4_itemPart, cX4_itemPart, 3, some .int)
set_option maxRecDepth 100000 in
theorem vX4_itemPart : fx_Vi mX4_itemPart 2 := ⟨⟨fx_in 224 rfl rfl, fx_in 61 rfl rfl, by decide +kernel, by decide +kernel, by decide +kernel⟩, fx_in 222 rfl rfl, fx_in 223 rfl rfl⟩
abbrev mX5_init : fx_M := (yX5_init, cX5_init, 1, none)
set_option maxRecDepth 100000 in
theorem vX5_init : fx_Vc mX5_init 0 := ⟨⟨fx_in 78 rfl rfl, fx_in 58 rfl rfl, by decide +kernel, by decide +kernel, by decide +kernel⟩, fx_in 77 rfl rfl, rfl, rfl⟩
abbrev mX5_put : fx_M := (yX5_put, cX5_put, 4, some .boolean)
set_option maxRecDepth 100000 in
theorem vX5_put : fx_Vi mX5_put 2 := ⟨⟨fx_in 183 rfl rfl, fx_in 58 rfl rfl, by decide +kernel, by decide +kernel, by decide +kernel⟩, fx_in 181 rfl rfl, fx_in 182 rfl rfl⟩
abbrev mX5_load : fx_M := (yX5_load, cX5_load, 3, some .int)
set_option maxRecDepth 100000 in
theorem vX5_load : fx_Vi mX5_load 1 := ⟨⟨fx_in 278 rfl rfl, fx_in 58 rfl rfl, by decide +kernel, by decide +kernel, by decide +kernel⟩, fx_in 276 rfl rfl, fx_in 277 rfl rfl⟩
abbrev mX5_fault : fx_M := (yX5_fault, cX5_fault, 1, some .int)
set_option maxRecDepth 100000 in
theorem vX5_fault : fx_Vi mX5_fault 0 := ⟨⟨fx_in 216 rfl rfl, fx_in 58 rfl rfl, by decide +kernel, by decide +kernel, by decide +kernel⟩, fx_in 214 rfl rfl, fx_in 215 rfl rfl⟩
abbrev mX5_metric : fx_M := (yX5_metric, cX5_metric, 5, some .int)
set_option maxRecDepth 100000 in
theorem vX5_metric : fx_Vi mX5_metric 3 := ⟨⟨fx_in 589 rfl rfl, fx_in 58 rfl rfl, by decide +kernel, by decide +kernel, by decide +kernel⟩, fx_in 587 rfl rfl, fx_in 588 rfl rfl⟩
abbrev mX5_parameter : fx_M := (yX5_parameter, cX5_parameter, 4, some .int)
set_option maxRecDepth 100000 in
theorem vX5_parameter : fx_Vi mX5_parameter 2 := ⟨⟨fx_in 622 rfl rfl, fx_in 58 rfl rfl, by decide +kernel, by decide +kernel, by decide +kernel⟩, fx_in 620 rfl rfl, fx_in 621 rfl rfl⟩
abbrev mX5_set : fx_M := (yX5_set, cX5_set, 4, some .int)
set_option maxRecDepth 100000 in
theorem vX5_set : fx_Vi mX5_set 1 := ⟨⟨fx_in 634 rfl rfl, fx_in 58 rfl rfl, by decide +kernel, by decide +kernel, by decide +kernel⟩, fx_in 632 rfl rfl, fx_in 633 rfl rfl⟩
abbrev mX5_item : fx_M := (yX5_item, cX5_item, 3, some .int)
set_option maxRecDepth 100000 in
theorem vX5_item : fx_Vi mX5_item 2 := ⟨⟨fx_in 220 rfl rfl, fx_in 58 rfl rfl, by decide +kernel, by decide +kernel, by decide +kernel⟩, fx_in 218 rfl rfl, fx_in 219 rfl rfl⟩
abbrev mX5_width : fx_M := (yX5_width, cX5_width, 1, some .long)
set_option maxRecDepth 100000 in
theorem vX5_width : fx_Vi mX5_width 0 := ⟨⟨fx_in 228 rfl rfl, fx_in 58 rfl rfl, by decide +kernel, by decide +kernel, by decide +kernel⟩, fx_in 226 rfl rfl, fx_in 227 rfl rfl⟩
abbrev mX5_count : fx_M := (yX5_count, cX5_count, 3, some .int)
set_option maxRecDepth 100000 in
theorem vX5_count : fx_Vi mX5_count 1 := ⟨⟨fx_in 236 rfl rfl, fx_in 58 rfl rfl, by decide +kernel, by decide +kernel, by decide +kernel⟩, fx_in 234 rfl rfl, fx_in 235 rfl rfl⟩
abbrev mX5_fontAt : fx_M := (yX5_fontAt, cX5_fontAt, 2, some (.object "FontDesk$Font"))
set_option maxRecDepth 100000 in
theorem vX5_fontAt : fx_Vi mX5_fontAt 1 := ⟨⟨fx_in 244 rfl rfl, fx_in 58 rfl rfl, by decide +kernel, by decide +kernel, by decide +kernel⟩, fx_in 243 rfl rfl, fx_in 1 rfl rfl⟩
abbrev mX6_init : fx_M := (yX6_init, cX6_init, 1, none)
set_option maxRecDepth 100000 in
theorem vX6_init : fx_Vc mX6_init 0 := ⟨⟨fx_in 718 rfl rfl, fx_in 62 rfl rfl, by decide +kernel, by decide +kernel, by decide +kernel⟩, fx_in 717 rfl rfl, rfl, rfl⟩
abbrev mX6_thrown : fx_M := (yX6_thrown, cX6_thrown, 1, some .int)
set_option maxRecDepth 100000 in
theorem vX6_thrown : fx_Vi mX6_thrown 0 := ⟨⟨fx_in 772 rfl rfl, fx_in 62 rfl rfl, by decide +kernel, by decide +kernel, by decide +kernel⟩, fx_in 770 rfl rfl, fx_in 771 rfl rfl⟩
abbrev mX6_fails : fx_M := (yX6_fails, cX6_fails, 2, some .int)
set_option maxRecDepth 100000 in
theorem vX6_fails : fx_Vi mX6_fails 1 := ⟨⟨fx_in 787 rfl rfl, fx_in 62 rfl rfl, by decide +kernel, by decide +kernel, by decide +kernel⟩, fx_in 786 rfl rfl, fx_in 25 rfl rfl⟩
abbrev mX6_put : fx_M := (yX6_put, cX6_put, 5, some .boolean)
set_option maxRecDepth 100000 in
theorem vX6_put : fx_Vi mX6_put 2 := ⟨⟨fx_in 776 rfl rfl, fx_in 62 rfl rfl, by decide +kernel, by decide +kernel, by decide +kernel⟩, fx_in 774 rfl rfl, fx_in 775 rfl rfl⟩
abbrev mX6_byteAt : fx_M := (yX6_byteAt, cX6_byteAt, 2, some .int)
set_option maxRecDepth 100000 in
theorem vX6_byteAt : fx_Vi mX6_byteAt 1 := ⟨⟨fx_in 803 rfl rfl, fx_in 62 rfl rfl, by decide +kernel, by decide +kernel, by decide +kernel⟩, fx_in 802 rfl rfl, fx_in 29 rfl rfl⟩
abbrev mX6_half : fx_M := (yX6_half, cX6_half, 2, some .int)
set_option maxRecDepth 100000 in
theorem vX6_half : fx_Vi mX6_half 1 := ⟨⟨fx_in 799 rfl rfl, fx_in 62 rfl rfl, by decide +kernel, by decide +kernel, by decide +kernel⟩, fx_in 798 rfl rfl, fx_in 28 rfl rfl⟩
abbrev mX6_word : fx_M := (yX6_word, cX6_word, 2, some .int)
set_option maxRecDepth 100000 in
theorem vX6_word : fx_Vi mX6_word 1 := ⟨⟨fx_in 816 rfl rfl, fx_in 62 rfl rfl, by decide +kernel, by decide +kernel, by decide +kernel⟩, fx_in 815 rfl rfl, fx_in 32 rfl rfl⟩
abbrev mX6_characters : fx_M := (yX6_characters, cX6_characters, 1, some .int)
set_option maxRecDepth 100000 in
theorem vX6_characters : fx_Vi mX6_characters 0 := ⟨⟨fx_in 812 rfl rfl, fx_in 62 rfl rfl, by decide +kernel, by decide +kernel, by decide +kernel⟩, fx_in 811 rfl rfl, fx_in 31 rfl rfl⟩
abbrev mX6_start : fx_M := (yX6_start, cX6_start, 4, some .int)
set_option maxRecDepth 100000 in
theorem vX6_start : fx_Vi mX6_start 1 := ⟨⟨fx_in 808 rfl rfl, fx_in 62 rfl rfl, by decide +kernel, by decide +kernel, by decide +kernel⟩, fx_in 807 rfl rfl, fx_in 30 rfl rfl⟩
abbrev mX6_piece : fx_M := (yX6_piece, cX6_piece, 4, some .int)
set_option maxRecDepth 100000 in
theorem vX6_piece : fx_Vi mX6_piece 3 := ⟨⟨fx_in 833 rfl rfl, fx_in 62 rfl rfl, by decide +kernel, by decide +kernel, by decide +kernel⟩, fx_in 832 rfl rfl, fx_in 36 rfl rfl⟩
abbrev mX6_info : fx_M := (yX6_info, cX6_info, 3, some .int)
set_option maxRecDepth 100000 in
theorem vX6_info : fx_Vi mX6_info 2 := ⟨⟨fx_in 829 rfl rfl, fx_in 62 rfl rfl, by decide +kernel, by decide +kernel, by decide +kernel⟩, fx_in 828 rfl rfl, fx_in 35 rfl rfl⟩
abbrev mX6_isThere : fx_M := (yX6_isThere, cX6_isThere, 2, some .boolean)
set_option maxRecDepth 100000 in
theorem vX6_isThere : fx_Vi mX6_isThere 1 := ⟨⟨fx_in 825 rfl rfl, fx_in 62 rfl rfl, by decide +kernel, by decide +kernel, by decide +kernel⟩, fx_in 824 rfl rfl, fx_in 34 rfl rfl⟩
abbrev mX6_isWhole : fx_M := (yX6_isWhole, cX6_isWhole, 3, some .boolean)
set_option maxRecDepth 100000 in
theorem vX6_isWhole : fx_Vi mX6_isWhole 0 := ⟨⟨fx_in 795 rfl rfl, fx_in 62 rfl rfl, by decide +kernel, by decide +kernel, by decide +kernel⟩, fx_in 794 rfl rfl, fx_in 27 rfl rfl⟩
abbrev mX6_ends : fx_M := (yX6_ends, cX6_ends, 4, some .boolean)
set_option maxRecDepth 100000 in
theorem vX6_ends : fx_Vi mX6_ends 1 := ⟨⟨fx_in 837 rfl rfl, fx_in 62 rfl rfl, by decide +kernel, by decide +kernel, by decide +kernel⟩, fx_in 836 rfl rfl, fx_in 37 rfl rfl⟩
abbrev mX6_goodInfo : fx_M := (yX6_goodInfo, cX6_goodInfo, 5, some .boolean)
set_option maxRecDepth 100000 in
theorem vX6_goodInfo : fx_Vi mX6_goodInfo 1 := ⟨⟨fx_in 821 rfl rfl, fx_in 62 rfl rfl, by decide +kernel, by decide +kernel, by decide +kernel⟩, fx_in 820 rfl rfl, fx_in 33 rfl rfl⟩
abbrev mX6_goodFractions : fx_M := (yX6_goodFractions, cX6_goodFractions, 6, some .boolean)
set_option maxRecDepth 100000 in
theorem vX6_goodFractions : fx_Vi mX6_goodFractions 0 := ⟨⟨fx_in 841 rfl rfl, fx_in 62 rfl rfl, by decide +kernel, by decide +kernel, by decide +kernel⟩, fx_in 840 rfl rfl, fx_in 38 rfl rfl⟩
abbrev mX6_step : fx_M := (yX6_step, cX6_step, 3, some .int)
set_option maxRecDepth 100000 in
theorem vX6_step : fx_Vi mX6_step 2 := ⟨⟨fx_in 851 rfl rfl, fx_in 62 rfl rfl, by decide +kernel, by decide +kernel, by decide +kernel⟩, fx_in 850 rfl rfl, fx_in 40 rfl rfl⟩
abbrev mX6_boundary : fx_M := (yX6_boundary, cX6_boundary, 1, some .int)
set_option maxRecDepth 100000 in
theorem vX6_boundary : fx_Vi mX6_boundary 0 := ⟨⟨fx_in 855 rfl rfl, fx_in 62 rfl rfl, by decide +kernel, by decide +kernel, by decide +kernel⟩, fx_in 854 rfl rfl, fx_in 41 rfl rfl⟩
abbrev mX6_goodStep : fx_M := (yX6_goodStep, cX6_goodStep, 7, some .boolean)
set_option maxRecDepth 100000 in
theorem vX6_goodStep : fx_Vi mX6_goodStep 1 := ⟨⟨fx_in 847 rfl rfl, fx_in 62 rfl rfl, by decide +kernel, by decide +kernel, by decide +kernel⟩, fx_in 846 rfl rfl, fx_in 39 rfl rfl⟩
abbrev mX6_goodPiece : fx_M := (yX6_goodPiece, cX6_goodPiece, 4, some .boolean)
set_option maxRecDepth 100000 in
theorem vX6_goodPiece : fx_Vi mX6_goodPiece 1 := ⟨⟨fx_in 859 rfl rfl, fx_in 62 rfl rfl, by decide +kernel, by decide +kernel, by decide +kernel⟩, fx_in 858 rfl rfl, fx_in 42 rfl rfl⟩
abbrev mX6_program : fx_M := (yX6_program, cX6_program, 5, some .int)
set_option maxRecDepth 100000 in
theorem vX6_program : fx_Vi mX6_program 1 := ⟨⟨fx_in 871 rfl rfl, fx_in 62 rfl rfl, by decide +kernel, by decide +kernel, by decide +kernel⟩, fx_in 870 rfl rfl, fx_in 45 rfl rfl⟩
abbrev mX6_sought : fx_M := (yX6_sought, cX6_sought, 5, some .int)
set_option maxRecDepth 100000 in
theorem vX6_sought : fx_Vi mX6_sought 2 := ⟨⟨fx_in 919 rfl rfl, fx_in 62 rfl rfl, by decide +kernel, by decide +kernel, by decide +kernel⟩, fx_in 918 rfl rfl, fx_in 53 rfl rfl⟩
abbrev mX6_programs : fx_M := (yX6_programs, cX6_programs, 5, none)
set_option maxRecDepth 100000 in
theorem vX6_programs : fx_Vi mX6_programs 0 := ⟨⟨fx_in 867 rfl rfl, fx_in 62 rfl rfl, by decide +kernel, by decide +kernel, by decide +kernel⟩, fx_in 866 rfl rfl, fx_in 44 rfl rfl⟩
abbrev mX6_behind : fx_M := (yX6_behind, cX6_behind, 3, some .int)
set_option maxRecDepth 100000 in
theorem vX6_behind : fx_Vi mX6_behind 2 := ⟨⟨fx_in 879 rfl rfl, fx_in 62 rfl rfl, by decide +kernel, by decide +kernel, by decide +kernel⟩, fx_in 878 rfl rfl, fx_in 47 rfl rfl⟩
abbrev mX6_looked : fx_M := (yX6_looked, cX6_looked, 7, some .int)
set_option maxRecDepth 100000 in
theorem vX6_looked : fx_Vi mX6_looked 2 := ⟨⟨fx_in 875 rfl rfl, fx_in 62 rfl rfl, by decide +kernel, by decide +kernel, by decide +kernel⟩, fx_in 874 rfl rfl, fx_in 46 rfl rfl⟩
abbrev mX6_allEnd : fx_M := (yX6_allEnd, cX6_allEnd, 6, some .boolean)
set_option maxRecDepth 100000 in
theorem vX6_allEnd : fx_Vi mX6_allEnd 0 := ⟨⟨fx_in 863 rfl rfl, fx_in 62 rfl rfl, by decide +kernel, by decide +kernel, by decide +kernel⟩, fx_in 862 rfl rfl, fx_in 43 rfl rfl⟩
abbrev mX6_faultOf : fx_M := (yX6_faultOf, cX6_faultOf, 3, some .int)
set_option maxRecDepth 100000 in
theorem vX6_faultOf : fx_Vi mX6_faultOf 0 := ⟨⟨fx_in 791 rfl rfl, fx_in 62 rfl rfl, by decide +kernel, by decide +kernel, by decide +kernel⟩, fx_in 790 rfl rfl, fx_in 26 rfl rfl⟩
abbrev mX6_load : fx_M := (yX6_load, cX6_load, 3, some .int)
set_option maxRecDepth 100000 in
theorem vX6_load : fx_Vi mX6_load 1 := ⟨⟨fx_in 782 rfl rfl, fx_in 62 rfl rfl, by decide +kernel, by decide +kernel, by decide +kernel⟩, fx_in 780 rfl rfl, fx_in 781 rfl rfl⟩
abbrev mX6_fault : fx_M := (yX6_fault, cX6_fault, 1, some .int)
set_option maxRecDepth 100000 in
theorem vX6_fault : fx_Vi mX6_fault 0 := ⟨⟨fx_in 883 rfl rfl, fx_in 62 rfl rfl, by decide +kernel, by decide +kernel, by decide +kernel⟩, fx_in 881 rfl rfl, fx_in 882 rfl rfl⟩
abbrev mX6_choose : fx_M := (yX6_choose, cX6_choose, 3, some .boolean)
set_option maxRecDepth 100000 in
theorem vX6_choose : fx_Vi mX6_choose 1 := ⟨⟨fx_in 891 rfl rfl, fx_in 62 rfl rfl, by decide +kernel, by decide +kernel, by decide +kernel⟩, fx_in 890 rfl rfl, fx_in 48 rfl rfl⟩
abbrev mX6_scaled : fx_M := (yX6_scaled, cX6_scaled, 4, some .int)
set_option maxRecDepth 100000 in
theorem vX6_scaled : fx_Vi mX6_scaled 3 := ⟨⟨fx_in 899 rfl rfl, fx_in 62 rfl rfl, by decide +kernel, by decide +kernel, by decide +kernel⟩, fx_in 898 rfl rfl, fx_in 50 rfl rfl⟩
abbrev mX6_metricOf : fx_M := (yX6_metricOf, cX6_metricOf, 6, some .int)
set_option maxRecDepth 100000 in
theorem vX6_metricOf : fx_Vi mX6_metricOf 3 := ⟨⟨fx_in 895 rfl rfl, fx_in 62 rfl rfl, by decide +kernel, by decide +kernel, by decide +kernel⟩, fx_in 894 rfl rfl, fx_in 49 rfl rfl⟩
abbrev mX6_metric : fx_M := (yX6_metric, cX6_metric, 5, some .int)
set_option maxRecDepth 100000 in
theorem vX6_metric : fx_Vi mX6_metric 3 := ⟨⟨fx_in 887 rfl rfl, fx_in 62 rfl rfl, by decide +kernel, by decide +kernel, by decide +kernel⟩, fx_in 885 rfl rfl, fx_in 886 rfl rfl⟩
abbrev mX6_parameter : fx_M := (yX6_parameter, cX6_parameter, 3, some .int)
set_option maxRecDepth 100000 in
theorem vX6_parameter : fx_Vi mX6_parameter 2 := ⟨⟨fx_in 903 rfl rfl, fx_in 62 rfl rfl, by decide +kernel, by decide +kernel, by decide +kernel⟩, fx_in 901 rfl rfl, fx_in 902 rfl rfl⟩
abbrev mX6_open : fx_M := (yX6_open, cX6_open, 5, none)
set_option maxRecDepth 100000 in
theorem vX6_open : fx_Vi mX6_open 3 := ⟨⟨fx_in 915 rfl rfl, fx_in 62 rfl rfl, by decide +kernel, by decide +kernel, by decide +kernel⟩, fx_in 914 rfl rfl, fx_in 52 rfl rfl⟩
abbrev mX6_close : fx_M := (yX6_close, cX6_close, 3, none)
set_option maxRecDepth 100000 in
theorem vX6_close : fx_Vi mX6_close 1 := ⟨⟨fx_in 931 rfl rfl, fx_in 62 rfl rfl, by decide +kernel, by decide +kernel, by decide +kernel⟩, fx_in 930 rfl rfl, fx_in 56 rfl rfl⟩
abbrev mX6_change : fx_M := (yX6_change, cX6_change, 3, none)
set_option maxRecDepth 100000 in
theorem vX6_change : fx_Vi mX6_change 2 := ⟨⟨fx_in 927 rfl rfl, fx_in 62 rfl rfl, by decide +kernel, by decide +kernel, by decide +kernel⟩, fx_in 926 rfl rfl, fx_in 55 rfl rfl⟩
abbrev mX6_join : fx_M := (yX6_join, cX6_join, 4, some .int)
set_option maxRecDepth 100000 in
theorem vX6_join : fx_Vi mX6_join 3 := ⟨⟨fx_in 923 rfl rfl, fx_in 62 rfl rfl, by decide +kernel, by decide +kernel, by decide +kernel⟩, fx_in 922 rfl rfl, fx_in 54 rfl rfl⟩
abbrev mX6_setting : fx_M := (yX6_setting, cX6_setting, 7, some .int)
set_option maxRecDepth 100000 in
theorem vX6_setting : fx_Vi mX6_setting 2 := ⟨⟨fx_in 911 rfl rfl, fx_in 62 rfl rfl, by decide +kernel, by decide +kernel, by decide +kernel⟩, fx_in 910 rfl rfl, fx_in 51 rfl rfl⟩
abbrev mX6_set : fx_M := (yX6_set, cX6_set, 6, some .int)
set_option maxRecDepth 100000 in
theorem vX6_set : fx_Vi mX6_set 1 := ⟨⟨fx_in 907 rfl rfl, fx_in 62 rfl rfl, by decide +kernel, by decide +kernel, by decide +kernel⟩, fx_in 905 rfl rfl, fx_in 906 rfl rfl⟩
abbrev mX6_item : fx_M := (yX6_item, cX6_item, 3, some .int)
set_option maxRecDepth 100000 in
theorem vX6_item : fx_Vi mX6_item 2 := ⟨⟨fx_in 935 rfl rfl, fx_in 62 rfl rfl, by decide +kernel, by decide +kernel, by decide +kernel⟩, fx_in 933 rfl rfl, fx_in 934 rfl rfl⟩
abbrev mX6_width : fx_M := (yX6_width, cX6_width, 1, some .long)
set_option maxRecDepth 100000 in
theorem vX6_width : fx_Vi mX6_width 0 := ⟨⟨fx_in 939 rfl rfl, fx_in 62 rfl rfl, by decide +kernel, by decide +kernel, by decide +kernel⟩, fx_in 937 rfl rfl, fx_in 938 rfl rfl⟩
abbrev mX6_count : fx_M := (yX6_count, cX6_count, 5, some .int)
set_option maxRecDepth 100000 in
theorem vX6_count : fx_Vi mX6_count 1 := ⟨⟨fx_in 943 rfl rfl, fx_in 62 rfl rfl, by decide +kernel, by decide +kernel, by decide +kernel⟩, fx_in 941 rfl rfl, fx_in 942 rfl rfl⟩
abbrev mJ9_max_7cf53 : fx_M := (yJ9_max_7cf53, cJ9_max_7cf53, 2, some .int)
set_option maxRecDepth 100000 in
theorem vJ9_max_7cf53 : fx_Vs mJ9_max_7cf53 2 := ⟨⟨fx_in 195 rfl rfl, fx_in 63 rfl rfl, by decide +kernel, by decide +kernel, by decide +kernel⟩, fx_in 194 rfl rfl⟩
abbrev mJ9_min_7cf53 : fx_M := (yJ9_min_7cf53, cJ9_min_7cf53, 2, some .int)
set_option maxRecDepth 100000 in
theorem vJ9_min_7cf53 : fx_Vs mJ9_min_7cf53 2 := ⟨⟨fx_in 198 rfl rfl, fx_in 63 rfl rfl, by decide +kernel, by decide +kernel, by decide +kernel⟩, fx_in 197 rfl rfl⟩
abbrev mJ7_copyOf_9075b : fx_M := (yJ7_copyOf_9075b, cJ7_copyOf_9075b, 3, some (.array .byte))
set_option maxRecDepth 100000 in
theorem vJ7_copyOf_9075b : fx_Vs mJ7_copyOf_9075b 2 := ⟨⟨fx_in 201 rfl rfl, fx_in 64 rfl rfl, by decide +kernel, by decide +kernel, by decide +kernel⟩, fx_in 200 rfl rfl⟩
set_option maxRecDepth 100000 in
theorem kkL_30 : Cond.methodLink RL 30 yX5_init ∈ fx_ws := fx_in 76 rfl rfl
set_option maxRecDepth 100000 in
theorem kkL_36 : Cond.methodLink RL 36 yX5_put ∈ fx_ws := fx_in 180 rfl rfl
set_option maxRecDepth 100000 in
theorem kkX5_43 : Cond.methodLink RX5 43 yX0_append ∈ fx_ws := fx_in 184 rfl rfl
set_option maxRecDepth 100000 in
theorem kkX0_18 : Cond.methodLink RX0 18 yX0_makeRoom ∈ fx_ws := fx_in 189 rfl rfl
set_option maxRecDepth 100000 in
theorem kkX0_22 : Cond.methodLink RX0 22 yJ9_max_7cf53 ∈ fx_ws := fx_in 193 rfl rfl
set_option maxRecDepth 100000 in
theorem kkX0_28 : Cond.methodLink RX0 28 yJ9_min_7cf53 ∈ fx_ws := fx_in 196 rfl rfl
set_option maxRecDepth 100000 in
theorem kkX0_31 : Cond.methodLink RX0 31 yJ7_copyOf_9075b ∈ fx_ws := fx_in 199 rfl rfl
set_option maxRecDepth 100000 in
theorem kkJ7_304 : Cond.methodLink RJ7 304 yJ9_min_7cf53 ∈ fx_ws := fx_in 209 rfl rfl
set_option maxRecDepth 100000 in
theorem kkL_51 : Cond.methodLink RL 51 yX5_fault ∈ fx_ws := fx_in 213 rfl rfl
set_option maxRecDepth 100000 in
theorem kkL_66 : Cond.methodLink RL 66 yX5_item ∈ fx_ws := fx_in 217 rfl rfl
set_option maxRecDepth 100000 in
theorem kkX5_127 : Cond.methodLink RX5 127 yX4_itemPart ∈ fx_ws := fx_in 221 rfl rfl
set_option maxRecDepth 100000 in
theorem kkL_70 : Cond.methodLink RL 70 yX5_width ∈ fx_ws := fx_in 225 rfl rfl
set_option maxRecDepth 100000 in
theorem kkX5_130 : Cond.methodLink RX5 130 yX4_totalWidth ∈ fx_ws := fx_in 229 rfl rfl
set_option maxRecDepth 100000 in
theorem kkL_75 : Cond.methodLink RL 75 yX5_count ∈ fx_ws := fx_in 233 rfl rfl
set_option maxRecDepth 100000 in
theorem kkX5_134 : Cond.methodLink RX5 134 yX0_size ∈ fx_ws := fx_in 237 rfl rfl
set_option maxRecDepth 100000 in
theorem kkX5_84 : Cond.methodLink RX5 84 yX5_fontAt ∈ fx_ws := fx_in 241 rfl rfl
set_option maxRecDepth 100000 in
theorem kkX5_137 : Cond.methodLink RX5 137 yX3_tally ∈ fx_ws := fx_in 245 rfl rfl
set_option maxRecDepth 100000 in
theorem kkX3_92 : Cond.methodLink RX3 92 yX3_characterCount ∈ fx_ws := fx_in 249 rfl rfl
set_option maxRecDepth 100000 in
theorem kkX3_95 : Cond.methodLink RX3 95 yX3_boundary ∈ fx_ws := fx_in 254 rfl rfl
set_option maxRecDepth 100000 in
theorem kkX3_61 : Cond.methodLink RX3 61 yX3_skipOf ∈ fx_ws := fx_in 258 rfl rfl
set_option maxRecDepth 100000 in
theorem kkX3_40 : Cond.methodLink RX3 40 yX3_wordAt ∈ fx_ws := fx_in 262 rfl rfl
set_option maxRecDepth 100000 in
theorem kkX3_73 : Cond.methodLink RX3 73 yX3_signOf ∈ fx_ws := fx_in 266 rfl rfl
set_option maxRecDepth 100000 in
theorem kkL_7 : Cond.methodLink RL 7 yX5_load ∈ fx_ws := fx_in 275 rfl rfl
set_option maxRecDepth 100000 in
theorem kkX5_55 : Cond.methodLink RX5 55 yX2_halvesFit ∈ fx_ws := fx_in 347 rfl rfl
set_option maxRecDepth 100000 in
theorem kkX2_7 : Cond.methodLink RX2 7 yX0_size ∈ fx_ws := fx_in 350 rfl rfl
set_option maxRecDepth 100000 in
theorem kkX2_13 : Cond.methodLink RX2 13 yX0_halfAt ∈ fx_ws := fx_in 351 rfl rfl
set_option maxRecDepth 100000 in
theorem kkX0_37 : Cond.methodLink RX0 37 yX0_byteAt ∈ fx_ws := fx_in 355 rfl rfl
set_option maxRecDepth 100000 in
theorem kkX5_61 : Cond.methodLink RX5 61 yX3_init ∈ fx_ws := fx_in 360 rfl rfl
set_option maxRecDepth 100000 in
theorem kkX3_25 : Cond.methodLink RX3 25 yX0_size ∈ fx_ws := fx_in 364 rfl rfl
set_option maxRecDepth 100000 in
theorem kkX3_33 : Cond.methodLink RX3 33 yX0_wordAt ∈ fx_ws := fx_in 365 rfl rfl
set_option maxRecDepth 100000 in
theorem kkX0_41 : Cond.methodLink RX0 41 yX0_halfAt ∈ fx_ws := fx_in 369 rfl rfl
set_option maxRecDepth 100000 in
theorem kkX3_37 : Cond.methodLink RX3 37 yX0_halfAt ∈ fx_ws := fx_in 370 rfl rfl
set_option maxRecDepth 100000 in
theorem kkX5_64 : Cond.methodLink RX5 64 yX0_clear ∈ fx_ws := fx_in 387 rfl rfl
set_option maxRecDepth 100000 in
theorem kkX5_67 : Cond.methodLink RX5 67 yX2_faultOf ∈ fx_ws := fx_in 391 rfl rfl
set_option maxRecDepth 100000 in
theorem kkX2_18 : Cond.methodLink RX2 18 yX3_designSize ∈ fx_ws := fx_in 394 rfl rfl
set_option maxRecDepth 100000 in
theorem kkX2_26 : Cond.methodLink RX2 26 yX2_infosFit ∈ fx_ws := fx_in 399 rfl rfl
set_option maxRecDepth 100000 in
theorem kkX2_39 : Cond.methodLink RX2 39 yX3_hasCharacter ∈ fx_ws := fx_in 402 rfl rfl
set_option maxRecDepth 100000 in
theorem kkX3_46 : Cond.methodLink RX3 46 yX3_infoOf ∈ fx_ws := fx_in 406 rfl rfl
set_option maxRecDepth 100000 in
theorem kkX2_43 : Cond.methodLink RX2 43 yX2_placesFit ∈ fx_ws := fx_in 410 rfl rfl
set_option maxRecDepth 100000 in
theorem kkX2_50 : Cond.methodLink RX2 50 yX3_placeOf ∈ fx_ws := fx_in 413 rfl rfl
set_option maxRecDepth 100000 in
theorem kkX2_54 : Cond.methodLink RX2 54 yX3_rowLength ∈ fx_ws := fx_in 417 rfl rfl
set_option maxRecDepth 100000 in
theorem kkX2_47 : Cond.methodLink RX2 47 yX2_tagFits ∈ fx_ws := fx_in 421 rfl rfl
set_option maxRecDepth 100000 in
theorem kkX2_57 : Cond.methodLink RX2 57 yX3_restOf ∈ fx_ws := fx_in 424 rfl rfl
set_option maxRecDepth 100000 in
theorem kkX2_60 : Cond.methodLink RX2 60 yX3_tagOf ∈ fx_ws := fx_in 428 rfl rfl
set_option maxRecDepth 100000 in
theorem kkX2_63 : Cond.methodLink RX2 63 yX2_chainEnds ∈ fx_ws := fx_in 432 rfl rfl
set_option maxRecDepth 100000 in
theorem kkX2_30 : Cond.methodLink RX2 30 yX2_fractionsFit ∈ fx_ws := fx_in 435 rfl rfl
set_option maxRecDepth 100000 in
theorem kkX2_66 : Cond.methodLink RX2 66 yX3_wordAt ∈ fx_ws := fx_in 438 rfl rfl
set_option maxRecDepth 100000 in
theorem kkX2_69 : Cond.methodLink RX2 69 yX2_areFractions ∈ fx_ws := fx_in 439 rfl rfl
set_option maxRecDepth 100000 in
theorem kkX2_33 : Cond.methodLink RX2 33 yX2_stepsFit ∈ fx_ws := fx_in 444 rfl rfl
set_option maxRecDepth 100000 in
theorem kkX2_75 : Cond.methodLink RX2 75 yX3_isJump ∈ fx_ws := fx_in 447 rfl rfl
set_option maxRecDepth 100000 in
theorem kkX2_78 : Cond.methodLink RX2 78 yX2_jumpFits ∈ fx_ws := fx_in 451 rfl rfl
set_option maxRecDepth 100000 in
theorem kkX2_84 : Cond.methodLink RX2 84 yX3_targetOf ∈ fx_ws := fx_in 454 rfl rfl
set_option maxRecDepth 100000 in
theorem kkX3_64 : Cond.methodLink RX3 64 yX3_deedOf ∈ fx_ws := fx_in 458 rfl rfl
set_option maxRecDepth 100000 in
theorem kkX3_67 : Cond.methodLink RX3 67 yX3_remainderOf ∈ fx_ws := fx_in 462 rfl rfl
set_option maxRecDepth 100000 in
theorem kkX2_81 : Cond.methodLink RX2 81 yX2_deedFits ∈ fx_ws := fx_in 466 rfl rfl
set_option maxRecDepth 100000 in
theorem kkX2_87 : Cond.methodLink RX2 87 yX3_signOf ∈ fx_ws := fx_in 469 rfl rfl
set_option maxRecDepth 100000 in
theorem kkX2_90 : Cond.methodLink RX2 90 yX3_boundary ∈ fx_ws := fx_in 470 rfl rfl
set_option maxRecDepth 100000 in
theorem kkX2_93 : Cond.methodLink RX2 93 yX3_nextStep ∈ fx_ws := fx_in 471 rfl rfl
set_option maxRecDepth 100000 in
theorem kkX2_96 : Cond.methodLink RX2 96 yX3_isKern ∈ fx_ws := fx_in 475 rfl rfl
set_option maxRecDepth 100000 in
theorem kkX2_99 : Cond.methodLink RX2 99 yX3_kernPlaceOf ∈ fx_ws := fx_in 479 rfl rfl
set_option maxRecDepth 100000 in
theorem kkX2_102 : Cond.methodLink RX2 102 yX3_remainderOf ∈ fx_ws := fx_in 483 rfl rfl
set_option maxRecDepth 100000 in
theorem kkX2_105 : Cond.methodLink RX2 105 yX3_deedOf ∈ fx_ws := fx_in 484 rfl rfl
set_option maxRecDepth 100000 in
theorem kkX2_108 : Cond.methodLink RX2 108 yX2_isLigature ∈ fx_ws := fx_in 485 rfl rfl
set_option maxRecDepth 100000 in
theorem kkX2_36 : Cond.methodLink RX2 36 yX2_piecesFit ∈ fx_ws := fx_in 488 rfl rfl
set_option maxRecDepth 100000 in
theorem kkX2_111 : Cond.methodLink RX2 111 yX2_partFits ∈ fx_ws := fx_in 491 rfl rfl
set_option maxRecDepth 100000 in
theorem kkX5_71 : Cond.methodLink RX5 71 yX1_allEnd ∈ fx_ws := fx_in 494 rfl rfl
set_option maxRecDepth 100000 in
theorem kkX1_33 : Cond.methodLink RX1 33 yX1_numberPrograms ∈ fx_ws := fx_in 498 rfl rfl
set_option maxRecDepth 100000 in
theorem kkX1_52 : Cond.methodLink RX1 52 yX3_programStart ∈ fx_ws := fx_in 502 rfl rfl
set_option maxRecDepth 100000 in
theorem kkX3_76 : Cond.methodLink RX3 76 yX3_rowLength ∈ fx_ws := fx_in 506 rfl rfl
set_option maxRecDepth 100000 in
theorem kkX3_49 : Cond.methodLink RX3 49 yX3_tagOf ∈ fx_ws := fx_in 507 rfl rfl
set_option maxRecDepth 100000 in
theorem kkX3_52 : Cond.methodLink RX3 52 yX3_restOf ∈ fx_ws := fx_in 508 rfl rfl
set_option maxRecDepth 100000 in
theorem kkX3_79 : Cond.methodLink RX3 79 yX3_isJump ∈ fx_ws := fx_in 509 rfl rfl
set_option maxRecDepth 100000 in
theorem kkX3_83 : Cond.methodLink RX3 83 yX3_targetOf ∈ fx_ws := fx_in 510 rfl rfl
set_option maxRecDepth 100000 in
theorem kkX1_37 : Cond.methodLink RX1 37 yX1_clearTables ∈ fx_ws := fx_in 511 rfl rfl
set_option maxRecDepth 100000 in
theorem kkX1_56 : Cond.methodLink RX1 56 yJ9_max_7cf53 ∈ fx_ws := fx_in 516 rfl rfl
set_option maxRecDepth 100000 in
theorem kkX1_62 : Cond.methodLink RX1 62 yJ9_min_7cf53 ∈ fx_ws := fx_in 517 rfl rfl
set_option maxRecDepth 100000 in
theorem kkX1_40 : Cond.methodLink RX1 40 yX1_noteSteps ∈ fx_ws := fx_in 518 rfl rfl
set_option maxRecDepth 100000 in
theorem kkX1_65 : Cond.methodLink RX1 65 yX3_rowLength ∈ fx_ws := fx_in 522 rfl rfl
set_option maxRecDepth 100000 in
theorem kkX1_68 : Cond.methodLink RX1 68 yX3_signOf ∈ fx_ws := fx_in 523 rfl rfl
set_option maxRecDepth 100000 in
theorem kkX1_70 : Cond.methodLink RX1 70 yX3_isJump ∈ fx_ws := fx_in 524 rfl rfl
set_option maxRecDepth 100000 in
theorem kkX1_74 : Cond.methodLink RX1 74 yX3_nextStep ∈ fx_ws := fx_in 525 rfl rfl
set_option maxRecDepth 100000 in
theorem kkX1_44 : Cond.methodLink RX1 44 yX1_stateOf ∈ fx_ws := fx_in 526 rfl rfl
set_option maxRecDepth 100000 in
theorem kkX1_48 : Cond.methodLink RX1 48 yX1_ends ∈ fx_ws := fx_in 530 rfl rfl
set_option maxRecDepth 100000 in
theorem kkX1_77 : Cond.methodLink RX1 77 yX1_awaitAnswer ∈ fx_ws := fx_in 534 rfl rfl
set_option maxRecDepth 100000 in
theorem kkX1_80 : Cond.methodLink RX1 80 yX1_answer ∈ fx_ws := fx_in 538 rfl rfl
set_option maxRecDepth 100000 in
theorem kkX1_84 : Cond.methodLink RX1 84 yX3_deedOf ∈ fx_ws := fx_in 542 rfl rfl
set_option maxRecDepth 100000 in
theorem kkX1_87 : Cond.methodLink RX1 87 yX3_remainderOf ∈ fx_ws := fx_in 543 rfl rfl
set_option maxRecDepth 100000 in
theorem kkX1_90 : Cond.methodLink RX1 90 yX3_isKern ∈ fx_ws := fx_in 544 rfl rfl
set_option maxRecDepth 100000 in
theorem kkX1_93 : Cond.methodLink RX1 93 yX1_know ∈ fx_ws := fx_in 545 rfl rfl
set_option maxRecDepth 100000 in
theorem kkX1_96 : Cond.methodLink RX1 96 yX1_answerAs ∈ fx_ws := fx_in 549 rfl rfl
set_option maxRecDepth 100000 in
theorem kkX1_100 : Cond.methodLink RX1 100 yX1_endOf ∈ fx_ws := fx_in 553 rfl rfl
set_option maxRecDepth 100000 in
theorem kkX1_103 : Cond.methodLink RX1 103 yX1_pairOf ∈ fx_ws := fx_in 557 rfl rfl
set_option maxRecDepth 100000 in
theorem kkX5_80 : Cond.methodLink RX5 80 yX3_scaleTo ∈ fx_ws := fx_in 577 rfl rfl
set_option maxRecDepth 100000 in
theorem kkX3_43 : Cond.methodLink RX3 43 yX3_designSize ∈ fx_ws := fx_in 581 rfl rfl
set_option maxRecDepth 100000 in
theorem kkL_17 : Cond.methodLink RL 17 yX5_metric ∈ fx_ws := fx_in 586 rfl rfl
set_option maxRecDepth 100000 in
theorem kkX5_88 : Cond.methodLink RX5 88 yX3_hasCharacter ∈ fx_ws := fx_in 590 rfl rfl
set_option maxRecDepth 100000 in
theorem kkX5_97 : Cond.methodLink RX5 97 yX3_measure ∈ fx_ws := fx_in 607 rfl rfl
set_option maxRecDepth 100000 in
theorem kkX3_55 : Cond.methodLink RX3 55 yX3_placeOf ∈ fx_ws := fx_in 611 rfl rfl
set_option maxRecDepth 100000 in
theorem kkX3_58 : Cond.methodLink RX3 58 yX3_scaled ∈ fx_ws := fx_in 612 rfl rfl
set_option maxRecDepth 100000 in
theorem kkL_23 : Cond.methodLink RL 23 yX5_parameter ∈ fx_ws := fx_in 619 rfl rfl
set_option maxRecDepth 100000 in
theorem kkX5_103 : Cond.methodLink RX5 103 yX3_scaledParameter ∈ fx_ws := fx_in 624 rfl rfl
set_option maxRecDepth 100000 in
theorem kkL_27 : Cond.methodLink RL 27 yX5_set ∈ fx_ws := fx_in 631 rfl rfl
set_option maxRecDepth 100000 in
theorem kkX5_107 : Cond.methodLink RX5 107 yX4_begin ∈ fx_ws := fx_in 635 rfl rfl
set_option maxRecDepth 100000 in
theorem kkX4_46 : Cond.methodLink RX4 46 yX4_forget ∈ fx_ws := fx_in 639 rfl rfl
set_option maxRecDepth 100000 in
theorem kkX4_49 : Cond.methodLink RX4 49 yX0_size ∈ fx_ws := fx_in 643 rfl rfl
set_option maxRecDepth 100000 in
theorem kkX4_55 : Cond.methodLink RX4 55 yX3_boundary ∈ fx_ws := fx_in 644 rfl rfl
set_option maxRecDepth 100000 in
theorem kkX4_58 : Cond.methodLink RX4 58 yX4_push ∈ fx_ws := fx_in 645 rfl rfl
set_option maxRecDepth 100000 in
theorem kkX4_62 : Cond.methodLink RX4 62 yX0_byteAt ∈ fx_ws := fx_in 649 rfl rfl
set_option maxRecDepth 100000 in
theorem kkX4_66 : Cond.methodLink RX4 66 yX3_hasCharacter ∈ fx_ws := fx_in 650 rfl rfl
set_option maxRecDepth 100000 in
theorem kkX5_111 : Cond.methodLink RX5 111 yX4_forget ∈ fx_ws := fx_in 651 rfl rfl
set_option maxRecDepth 100000 in
theorem kkX5_118 : Cond.methodLink RX5 118 yX4_run ∈ fx_ws := fx_in 654 rfl rfl
set_option maxRecDepth 100000 in
theorem kkX4_70 : Cond.methodLink RX4 70 yX4_nextCode ∈ fx_ws := fx_in 658 rfl rfl
set_option maxRecDepth 100000 in
theorem kkX4_73 : Cond.methodLink RX4 73 yX3_stepFor ∈ fx_ws := fx_in 662 rfl rfl
set_option maxRecDepth 100000 in
theorem kkX3_86 : Cond.methodLink RX3 86 yX3_programStart ∈ fx_ws := fx_in 666 rfl rfl
set_option maxRecDepth 100000 in
theorem kkX3_89 : Cond.methodLink RX3 89 yX3_nextStep ∈ fx_ws := fx_in 667 rfl rfl
set_option maxRecDepth 100000 in
theorem kkX4_77 : Cond.methodLink RX4 77 yX4_goOn ∈ fx_ws := fx_in 668 rfl rfl
set_option maxRecDepth 100000 in
theorem kkX4_99 : Cond.methodLink RX4 99 yX4_passSign ∈ fx_ws := fx_in 672 rfl rfl
set_option maxRecDepth 100000 in
theorem kkX4_106 : Cond.methodLink RX4 106 yX4_addItem ∈ fx_ws := fx_in 676 rfl rfl
set_option maxRecDepth 100000 in
theorem kkX4_109 : Cond.methodLink RX4 109 yX4_pop ∈ fx_ws := fx_in 680 rfl rfl
set_option maxRecDepth 100000 in
theorem kkX4_80 : Cond.methodLink RX4 80 yX3_isKern ∈ fx_ws := fx_in 684 rfl rfl
set_option maxRecDepth 100000 in
theorem kkX4_83 : Cond.methodLink RX4 83 yX3_scaledKern ∈ fx_ws := fx_in 685 rfl rfl
set_option maxRecDepth 100000 in
theorem kkX3_70 : Cond.methodLink RX3 70 yX3_kernPlaceOf ∈ fx_ws := fx_in 689 rfl rfl
set_option maxRecDepth 100000 in
theorem kkX4_86 : Cond.methodLink RX4 86 yX4_kern ∈ fx_ws := fx_in 690 rfl rfl
set_option maxRecDepth 100000 in
theorem kkX4_90 : Cond.methodLink RX4 90 yX3_deedOf ∈ fx_ws := fx_in 694 rfl rfl
set_option maxRecDepth 100000 in
theorem kkX4_93 : Cond.methodLink RX4 93 yX3_remainderOf ∈ fx_ws := fx_in 695 rfl rfl
set_option maxRecDepth 100000 in
theorem kkX4_96 : Cond.methodLink RX4 96 yX4_ligature ∈ fx_ws := fx_in 696 rfl rfl
set_option maxRecDepth 100000 in
theorem kkX4_112 : Cond.methodLink RX4 112 yX4_becomeLigature ∈ fx_ws := fx_in 700 rfl rfl
set_option maxRecDepth 100000 in
theorem kkX4_102 : Cond.methodLink RX4 102 yX4_addUp ∈ fx_ws := fx_in 704 rfl rfl
set_option maxRecDepth 100000 in
theorem kkX4_115 : Cond.methodLink RX4 115 yX3_measure ∈ fx_ws := fx_in 708 rfl rfl
set_option maxRecDepth 100000 in
theorem kkX5_123 : Cond.methodLink RX5 123 yX4_itemCount ∈ fx_ws := fx_in 710 rfl rfl
set_option maxRecDepth 100000 in
theorem kkL_33 : Cond.methodLink RL 33 yX6_init ∈ fx_ws := fx_in 716 rfl rfl
set_option maxRecDepth 100000 in
theorem kkL_47 : Cond.methodLink RL 47 yX6_thrown ∈ fx_ws := fx_in 769 rfl rfl
set_option maxRecDepth 100000 in
theorem kkL_40 : Cond.methodLink RL 40 yX6_put ∈ fx_ws := fx_in 773 rfl rfl
set_option maxRecDepth 100000 in
theorem kkL_46 : Cond.methodLink RL 46 yX6_load ∈ fx_ws := fx_in 779 rfl rfl
set_option maxRecDepth 100000 in
theorem kkX6_127 : Cond.methodLink RX6 127 yX6_fails ∈ fx_ws := fx_in 784 rfl rfl
set_option maxRecDepth 100000 in
theorem kkX6_130 : Cond.methodLink RX6 130 yX6_faultOf ∈ fx_ws := fx_in 788 rfl rfl
set_option maxRecDepth 100000 in
theorem kkX6_106 : Cond.methodLink RX6 106 yX6_isWhole ∈ fx_ws := fx_in 792 rfl rfl
set_option maxRecDepth 100000 in
theorem kkX6_57 : Cond.methodLink RX6 57 yX6_half ∈ fx_ws := fx_in 796 rfl rfl
set_option maxRecDepth 100000 in
theorem kkX6_53 : Cond.methodLink RX6 53 yX6_byteAt ∈ fx_ws := fx_in 800 rfl rfl
set_option maxRecDepth 100000 in
theorem kkX6_64 : Cond.methodLink RX6 64 yX6_start ∈ fx_ws := fx_in 805 rfl rfl
set_option maxRecDepth 100000 in
theorem kkX6_60 : Cond.methodLink RX6 60 yX6_characters ∈ fx_ws := fx_in 809 rfl rfl
set_option maxRecDepth 100000 in
theorem kkX6_83 : Cond.methodLink RX6 83 yX6_word ∈ fx_ws := fx_in 813 rfl rfl
set_option maxRecDepth 100000 in
theorem kkX6_111 : Cond.methodLink RX6 111 yX6_goodInfo ∈ fx_ws := fx_in 818 rfl rfl
set_option maxRecDepth 100000 in
theorem kkX6_76 : Cond.methodLink RX6 76 yX6_isThere ∈ fx_ws := fx_in 822 rfl rfl
set_option maxRecDepth 100000 in
theorem kkX6_71 : Cond.methodLink RX6 71 yX6_info ∈ fx_ws := fx_in 826 rfl rfl
set_option maxRecDepth 100000 in
theorem kkX6_67 : Cond.methodLink RX6 67 yX6_piece ∈ fx_ws := fx_in 830 rfl rfl
set_option maxRecDepth 100000 in
theorem kkX6_80 : Cond.methodLink RX6 80 yX6_ends ∈ fx_ws := fx_in 834 rfl rfl
set_option maxRecDepth 100000 in
theorem kkX6_114 : Cond.methodLink RX6 114 yX6_goodFractions ∈ fx_ws := fx_in 838 rfl rfl
set_option maxRecDepth 100000 in
theorem kkX6_117 : Cond.methodLink RX6 117 yX6_goodStep ∈ fx_ws := fx_in 844 rfl rfl
set_option maxRecDepth 100000 in
theorem kkX6_88 : Cond.methodLink RX6 88 yX6_step ∈ fx_ws := fx_in 848 rfl rfl
set_option maxRecDepth 100000 in
theorem kkX6_91 : Cond.methodLink RX6 91 yX6_boundary ∈ fx_ws := fx_in 852 rfl rfl
set_option maxRecDepth 100000 in
theorem kkX6_120 : Cond.methodLink RX6 120 yX6_goodPiece ∈ fx_ws := fx_in 856 rfl rfl
set_option maxRecDepth 100000 in
theorem kkX6_123 : Cond.methodLink RX6 123 yX6_allEnd ∈ fx_ws := fx_in 860 rfl rfl
set_option maxRecDepth 100000 in
theorem kkX6_100 : Cond.methodLink RX6 100 yX6_programs ∈ fx_ws := fx_in 864 rfl rfl
set_option maxRecDepth 100000 in
theorem kkX6_94 : Cond.methodLink RX6 94 yX6_program ∈ fx_ws := fx_in 868 rfl rfl
set_option maxRecDepth 100000 in
theorem kkX6_103 : Cond.methodLink RX6 103 yX6_looked ∈ fx_ws := fx_in 872 rfl rfl
set_option maxRecDepth 100000 in
theorem kkX6_97 : Cond.methodLink RX6 97 yX6_behind ∈ fx_ws := fx_in 876 rfl rfl
set_option maxRecDepth 100000 in
theorem kkL_54 : Cond.methodLink RL 54 yX6_fault ∈ fx_ws := fx_in 880 rfl rfl
set_option maxRecDepth 100000 in
theorem kkL_58 : Cond.methodLink RL 58 yX6_metric ∈ fx_ws := fx_in 884 rfl rfl
set_option maxRecDepth 100000 in
theorem kkX6_139 : Cond.methodLink RX6 139 yX6_choose ∈ fx_ws := fx_in 888 rfl rfl
set_option maxRecDepth 100000 in
theorem kkX6_142 : Cond.methodLink RX6 142 yX6_metricOf ∈ fx_ws := fx_in 892 rfl rfl
set_option maxRecDepth 100000 in
theorem kkX6_136 : Cond.methodLink RX6 136 yX6_scaled ∈ fx_ws := fx_in 896 rfl rfl
set_option maxRecDepth 100000 in
theorem kkL_62 : Cond.methodLink RL 62 yX6_parameter ∈ fx_ws := fx_in 900 rfl rfl
set_option maxRecDepth 100000 in
theorem kkL_65 : Cond.methodLink RL 65 yX6_set ∈ fx_ws := fx_in 904 rfl rfl
set_option maxRecDepth 100000 in
theorem kkX6_170 : Cond.methodLink RX6 170 yX6_setting ∈ fx_ws := fx_in 908 rfl rfl
set_option maxRecDepth 100000 in
theorem kkX6_156 : Cond.methodLink RX6 156 yX6_open ∈ fx_ws := fx_in 912 rfl rfl
set_option maxRecDepth 100000 in
theorem kkX6_160 : Cond.methodLink RX6 160 yX6_sought ∈ fx_ws := fx_in 916 rfl rfl
set_option maxRecDepth 100000 in
theorem kkX6_163 : Cond.methodLink RX6 163 yX6_join ∈ fx_ws := fx_in 920 rfl rfl
set_option maxRecDepth 100000 in
theorem kkX6_148 : Cond.methodLink RX6 148 yX6_change ∈ fx_ws := fx_in 924 rfl rfl
set_option maxRecDepth 100000 in
theorem kkX6_152 : Cond.methodLink RX6 152 yX6_close ∈ fx_ws := fx_in 928 rfl rfl
set_option maxRecDepth 100000 in
theorem kkL_69 : Cond.methodLink RL 69 yX6_item ∈ fx_ws := fx_in 932 rfl rfl
set_option maxRecDepth 100000 in
theorem kkL_74 : Cond.methodLink RL 74 yX6_width ∈ fx_ws := fx_in 936 rfl rfl
set_option maxRecDepth 100000 in
theorem kkL_78 : Cond.methodLink RL 78 yX6_count ∈ fx_ws := fx_in 940 rfl rfl
set_option maxRecDepth 100000 in
theorem iiX0 : ∀ w ∈ u_ws RX0 TX0 2, w ∈ fx_ws := by
  intro w hw
  obtain ⟨k, hk, rfl⟩ := List.mem_map.mp hw
  have hk : k < 2 := List.mem_range.mp hk
  match k, hk with
  | 0, _ => exact fx_in 90 rfl rfl
  | 1, _ => exact fx_in 92 rfl rfl
set_option maxRecDepth 100000 in
theorem iiX1 : ∀ w ∈ u_ws RX1 TX1 6, w ∈ fx_ws := by
  intro w hw
  obtain ⟨k, hk, rfl⟩ := List.mem_map.mp hw
  have hk : k < 6 := List.mem_range.mp hk
  match k, hk with
  | 0, _ => exact fx_in 110 rfl rfl
  | 1, _ => exact fx_in 112 rfl rfl
  | 2, _ => exact fx_in 114 rfl rfl
  | 3, _ => exact fx_in 116 rfl rfl
  | 4, _ => exact fx_in 118 rfl rfl
  | 5, _ => exact fx_in 120 rfl rfl
set_option maxRecDepth 100000 in
theorem iiX3 : ∀ w ∈ u_ws RX3 TX3 5, w ∈ fx_ws := by
  intro w hw
  obtain ⟨k, hk, rfl⟩ := List.mem_map.mp hw
  have hk : k < 5 := List.mem_range.mp hk
  match k, hk with
  | 0, _ => exact fx_in 376 rfl rfl
  | 1, _ => exact fx_in 378 rfl rfl
  | 2, _ => exact fx_in 380 rfl rfl
  | 3, _ => exact fx_in 382 rfl rfl
  | 4, _ => exact fx_in 384 rfl rfl
set_option maxRecDepth 100000 in
theorem iiX4 : ∀ w ∈ u_ws RX4 TX4 10, w ∈ fx_ws := by
  intro w hw
  obtain ⟨k, hk, rfl⟩ := List.mem_map.mp hw
  have hk : k < 10 := List.mem_range.mp hk
  match k, hk with
  | 0, _ => exact fx_in 140 rfl rfl
  | 1, _ => exact fx_in 142 rfl rfl
  | 2, _ => exact fx_in 144 rfl rfl
  | 3, _ => exact fx_in 146 rfl rfl
  | 4, _ => exact fx_in 148 rfl rfl
  | 5, _ => exact fx_in 150 rfl rfl
  | 6, _ => exact fx_in 152 rfl rfl
  | 7, _ => exact fx_in 154 rfl rfl
  | 8, _ => exact fx_in 156 rfl rfl
  | 9, _ => exact fx_in 158 rfl rfl
set_option maxRecDepth 100000 in
theorem iiX5 : ∀ w ∈ u_ws RX5 TX5 6, w ∈ fx_ws := by
  intro w hw
  obtain ⟨k, hk, rfl⟩ := List.mem_map.mp hw
  have hk : k < 6 := List.mem_range.mp hk
  match k, hk with
  | 0, _ => exact fx_in 167 rfl rfl
  | 1, _ => exact fx_in 169 rfl rfl
  | 2, _ => exact fx_in 171 rfl rfl
  | 3, _ => exact fx_in 173 rfl rfl
  | 4, _ => exact fx_in 175 rfl rfl
  | 5, _ => exact fx_in 177 rfl rfl
set_option maxRecDepth 100000 in
theorem iiX6 : ∀ w ∈ u_ws RX6 TX6 15, w ∈ fx_ws := by
  intro w hw
  obtain ⟨k, hk, rfl⟩ := List.mem_map.mp hw
  have hk : k < 15 := List.mem_range.mp hk
  match k, hk with
  | 0, _ => exact fx_in 737 rfl rfl
  | 1, _ => exact fx_in 739 rfl rfl
  | 2, _ => exact fx_in 741 rfl rfl
  | 3, _ => exact fx_in 743 rfl rfl
  | 4, _ => exact fx_in 745 rfl rfl
  | 5, _ => exact fx_in 747 rfl rfl
  | 6, _ => exact fx_in 749 rfl rfl
  | 7, _ => exact fx_in 751 rfl rfl
  | 8, _ => exact fx_in 753 rfl rfl
  | 9, _ => exact fx_in 755 rfl rfl
  | 10, _ => exact fx_in 757 rfl rfl
  | 11, _ => exact fx_in 759 rfl rfl
  | 12, _ => exact fx_in 761 rfl rfl
  | 13, _ => exact fx_in 763 rfl rfl
  | 14, _ => exact fx_in 765 rfl rfl
set_option maxRecDepth 100000 in
theorem inL : Cond.initialized RL ∈ fx_ws := fx_in 57 rfl rfl
set_option maxRecDepth 100000 in
theorem inX5 : Cond.initialized RX5 ∈ fx_ws := fx_in 58 rfl rfl
set_option maxRecDepth 100000 in
theorem inX0 : Cond.initialized RX0 ∈ fx_ws := fx_in 59 rfl rfl
set_option maxRecDepth 100000 in
theorem inX1 : Cond.initialized RX1 ∈ fx_ws := fx_in 60 rfl rfl
set_option maxRecDepth 100000 in
theorem inX4 : Cond.initialized RX4 ∈ fx_ws := fx_in 61 rfl rfl
set_option maxRecDepth 100000 in
theorem inX6 : Cond.initialized RX6 ∈ fx_ws := fx_in 62 rfl rfl
set_option maxRecDepth 100000 in
theorem inJ9 : Cond.initialized RJ9 ∈ fx_ws := fx_in 63 rfl rfl
set_option maxRecDepth 100000 in
theorem inJ7 : Cond.initialized RJ7 ∈ fx_ws := fx_in 64 rfl rfl
set_option maxRecDepth 100000 in
theorem inJ10 : Cond.initialized RJ10 ∈ fx_ws := fx_in 65 rfl rfl
set_option maxRecDepth 100000 in
theorem inX2 : Cond.initialized RX2 ∈ fx_ws := fx_in 70 rfl rfl
set_option maxRecDepth 100000 in
theorem inX3 : Cond.initialized RX3 ∈ fx_ws := fx_in 71 rfl rfl
set_option maxRecDepth 100000 in
theorem ccL_8 : Cond.classLink RL 8 RX5 ∈ fx_ws := fx_in 74 rfl rfl
set_option maxRecDepth 100000 in
theorem szX5 : Cond.instantiable RX5 6 ∈ fx_ws := fx_in 75 rfl rfl
set_option maxRecDepth 100000 in
theorem ccX5_7 : Cond.classLink RX5 7 RX0 ∈ fx_ws := fx_in 82 rfl rfl
set_option maxRecDepth 100000 in
theorem szX0 : Cond.instantiable RX0 2 ∈ fx_ws := fx_in 83 rfl rfl
set_option maxRecDepth 100000 in
theorem ffX0_7 : fx_F RX0 7 0 0 false (.array .byte) := ⟨RX0, TX0, 2, tyX0, rfl, by decide, iiX0, fx_in 88 rfl rfl, tyX0_ok, nmX0, rfl, tyX0_ok 0 (by decide), rfl⟩
set_option maxRecDepth 100000 in
theorem ffX0_13 : fx_F RX0 13 0 1 false (.int) := ⟨RX0, TX0, 2, tyX0, rfl, by decide, iiX0, fx_in 89 rfl rfl, tyX0_ok, nmX0, rfl, tyX0_ok 1 (by decide), rfl⟩
set_option maxRecDepth 100000 in
theorem ac_byte : Cond.arrayClass .byte ∈ fx_ws := fx_in 95 rfl rfl
set_option maxRecDepth 100000 in
theorem ccX5_16 : Cond.classLink RX5 16 RX3 ∈ fx_ws := fx_in 96 rfl rfl
set_option maxRecDepth 100000 in
theorem ccX5_22 : Cond.classLink RX5 22 RX1 ∈ fx_ws := fx_in 98 rfl rfl
set_option maxRecDepth 100000 in
theorem szX1 : Cond.instantiable RX1 6 ∈ fx_ws := fx_in 99 rfl rfl
set_option maxRecDepth 100000 in
theorem ffX1_13 : fx_F RX1 13 1 0 true (.array .int) := ⟨RX1, TX1, 6, tyX1, rfl, by decide, iiX1, fx_in 104 rfl rfl, tyX1_ok, nmX1, rfl, tyX1_ok 0 (by decide), rfl⟩
set_option maxRecDepth 100000 in
theorem ffX1_17 : fx_F RX1 17 1 1 true (.array .int) := ⟨RX1, TX1, 6, tyX1, rfl, by decide, iiX1, fx_in 105 rfl rfl, tyX1_ok, nmX1, rfl, tyX1_ok 1 (by decide), rfl⟩
set_option maxRecDepth 100000 in
theorem ffX1_20 : fx_F RX1 20 1 2 false (.int) := ⟨RX1, TX1, 6, tyX1, rfl, by decide, iiX1, fx_in 106 rfl rfl, tyX1_ok, nmX1, rfl, tyX1_ok 2 (by decide), rfl⟩
set_option maxRecDepth 100000 in
theorem ffX1_24 : fx_F RX1 24 1 3 false (.array .int) := ⟨RX1, TX1, 6, tyX1, rfl, by decide, iiX1, fx_in 107 rfl rfl, tyX1_ok, nmX1, rfl, tyX1_ok 3 (by decide), rfl⟩
set_option maxRecDepth 100000 in
theorem ffX1_27 : fx_F RX1 27 1 4 false (.array .int) := ⟨RX1, TX1, 6, tyX1, rfl, by decide, iiX1, fx_in 108 rfl rfl, tyX1_ok, nmX1, rfl, tyX1_ok 4 (by decide), rfl⟩
set_option maxRecDepth 100000 in
theorem ffX1_30 : fx_F RX1 30 1 5 false (.array .int) := ⟨RX1, TX1, 6, tyX1, rfl, by decide, iiX1, fx_in 109 rfl rfl, tyX1_ok, nmX1, rfl, tyX1_ok 5 (by decide), rfl⟩
set_option maxRecDepth 100000 in
theorem ac_int : Cond.arrayClass .int ∈ fx_ws := fx_in 123 rfl rfl
set_option maxRecDepth 100000 in
theorem ccX5_29 : Cond.classLink RX5 29 RX4 ∈ fx_ws := fx_in 124 rfl rfl
set_option maxRecDepth 100000 in
theorem szX4 : Cond.instantiable RX4 10 ∈ fx_ws := fx_in 125 rfl rfl
set_option maxRecDepth 100000 in
theorem ffX4_11 : fx_F RX4 11 3 0 true (.array .int) := ⟨RX4, TX4, 10, tyX4, rfl, by decide, iiX4, fx_in 130 rfl rfl, tyX4_ok, nmX4, rfl, tyX4_ok 0 (by decide), rfl⟩
set_option maxRecDepth 100000 in
theorem ffX4_15 : fx_F RX4 15 3 1 true (.array .int) := ⟨RX4, TX4, 10, tyX4, rfl, by decide, iiX4, fx_in 131 rfl rfl, tyX4_ok, nmX4, rfl, tyX4_ok 1 (by decide), rfl⟩
set_option maxRecDepth 100000 in
theorem ffX4_18 : fx_F RX4 18 3 2 false (.int) := ⟨RX4, TX4, 10, tyX4, rfl, by decide, iiX4, fx_in 132 rfl rfl, tyX4_ok, nmX4, rfl, tyX4_ok 2 (by decide), rfl⟩
set_option maxRecDepth 100000 in
theorem ffX4_22 : fx_F RX4 22 3 3 false (.long) := ⟨RX4, TX4, 10, tyX4, rfl, by decide, iiX4, fx_in 133 rfl rfl, tyX4_ok, nmX4, rfl, tyX4_ok 3 (by decide), rfl⟩
set_option maxRecDepth 100000 in
theorem ffX4_26 : fx_F RX4 26 3 4 false (.int) := ⟨RX4, TX4, 10, tyX4, rfl, by decide, iiX4, fx_in 134 rfl rfl, tyX4_ok, nmX4, rfl, tyX4_ok 4 (by decide), rfl⟩
set_option maxRecDepth 100000 in
theorem ffX4_31 : fx_F RX4 31 3 5 false (.int) := ⟨RX4, TX4, 10, tyX4, rfl, by decide, iiX4, fx_in 135 rfl rfl, tyX4_ok, nmX4, rfl, tyX4_ok 5 (by decide), rfl⟩
set_option maxRecDepth 100000 in
theorem ffX4_34 : fx_F RX4 34 3 6 true (.array .int) := ⟨RX4, TX4, 10, tyX4, rfl, by decide, iiX4, fx_in 136 rfl rfl, tyX4_ok, nmX4, rfl, tyX4_ok 6 (by decide), rfl⟩
set_option maxRecDepth 100000 in
theorem ffX4_37 : fx_F RX4 37 3 7 true (.array .int) := ⟨RX4, TX4, 10, tyX4, rfl, by decide, iiX4, fx_in 137 rfl rfl, tyX4_ok, nmX4, rfl, tyX4_ok 7 (by decide), rfl⟩
set_option maxRecDepth 100000 in
theorem ffX4_40 : fx_F RX4 40 3 8 false (.int) := ⟨RX4, TX4, 10, tyX4, rfl, by decide, iiX4, fx_in 138 rfl rfl, tyX4_ok, nmX4, rfl, tyX4_ok 8 (by decide), rfl⟩
set_option maxRecDepth 100000 in
theorem ffX4_43 : fx_F RX4 43 3 9 false (.int) := ⟨RX4, TX4, 10, tyX4, rfl, by decide, iiX4, fx_in 139 rfl rfl, tyX4_ok, nmX4, rfl, tyX4_ok 9 (by decide), rfl⟩
set_option maxRecDepth 100000 in
theorem ffX5_10 : fx_F RX5 10 4 0 true (.object "FontDesk$Draft") := ⟨RX5, TX5, 6, tyX5, rfl, by decide, iiX5, fx_in 161 rfl rfl, tyX5_ok, nmX5, rfl, tyX5_ok 0 (by decide), rfl⟩
set_option maxRecDepth 100000 in
theorem ffX5_18 : fx_F RX5 18 4 1 true (.array (.object "FontDesk$Font")) := ⟨RX5, TX5, 6, tyX5, rfl, by decide, iiX5, fx_in 162 rfl rfl, tyX5_ok, nmX5, rfl, tyX5_ok 1 (by decide), rfl⟩
set_option maxRecDepth 100000 in
theorem ffX5_25 : fx_F RX5 25 4 2 true (.object "FontDesk$Endings") := ⟨RX5, TX5, 6, tyX5, rfl, by decide, iiX5, fx_in 163 rfl rfl, tyX5_ok, nmX5, rfl, tyX5_ok 2 (by decide), rfl⟩
set_option maxRecDepth 100000 in
theorem ffX5_32 : fx_F RX5 32 4 3 true (.object "FontDesk$Setting") := ⟨RX5, TX5, 6, tyX5, rfl, by decide, iiX5, fx_in 164 rfl rfl, tyX5_ok, nmX5, rfl, tyX5_ok 3 (by decide), rfl⟩
set_option maxRecDepth 100000 in
theorem ffX5_36 : fx_F RX5 36 4 4 false (.int) := ⟨RX5, TX5, 6, tyX5, rfl, by decide, iiX5, fx_in 165 rfl rfl, tyX5_ok, nmX5, rfl, tyX5_ok 4 (by decide), rfl⟩
set_option maxRecDepth 100000 in
theorem ffX5_40 : fx_F RX5 40 4 5 false (.int) := ⟨RX5, TX5, 6, tyX5, rfl, by decide, iiX5, fx_in 166 rfl rfl, tyX5_ok, nmX5, rfl, tyX5_ok 5 (by decide), rfl⟩
set_option maxRecDepth 100000 in
theorem qqX0_17 : Cond.constant RX0 17 (nI 131072) ∈ fx_ws := fx_in 188 rfl rfl
set_option maxRecDepth 100000 in
theorem ccJ7_311 : Cond.classLink RJ7 311 "[B" ∈ fx_ws := fx_in 208 rfl rfl
set_option maxRecDepth 100000 in
theorem szX3 : Cond.instantiable RX3 5 ∈ fx_ws := fx_in 252 rfl rfl
set_option maxRecDepth 100000 in
theorem ccL_13 : Cond.classLink RL 13 "java/lang/IllegalArgumentException" ∈ fx_ws := fx_in 273 rfl rfl
set_option maxRecDepth 100000 in
theorem ccL_15 : Cond.classLink RL 15 "java/lang/IllegalStateException" ∈ fx_ws := fx_in 274 rfl rfl
set_option maxRecDepth 100000 in
theorem qqX5_47 : Cond.constant RX5 47 (nI 134217727) ∈ fx_ws := fx_in 279 rfl rfl
set_option maxRecDepth 100000 in
theorem ccX5_48 : Cond.classLink RX5 48 "java/lang/IllegalStateException" ∈ fx_ws := fx_in 280 rfl rfl
set_option maxRecDepth 100000 in
theorem qqX2_17 : Cond.constant RX2 17 (nI 32768) ∈ fx_ws := fx_in 359 rfl rfl
set_option maxRecDepth 100000 in
theorem ffX3_30 : fx_F RX3 30 2 0 true (.array .int) := ⟨RX3, TX3, 5, tyX3, rfl, by decide, iiX3, fx_in 371 rfl rfl, tyX3_ok, nmX3, rfl, tyX3_ok 0 (by decide), rfl⟩
set_option maxRecDepth 100000 in
theorem ffX3_11 : fx_F RX3 11 2 1 true (.array .int) := ⟨RX3, TX3, 5, tyX3, rfl, by decide, iiX3, fx_in 372 rfl rfl, tyX3_ok, nmX3, rfl, tyX3_ok 1 (by decide), rfl⟩
set_option maxRecDepth 100000 in
theorem ffX3_15 : fx_F RX3 15 2 2 true (.array .int) := ⟨RX3, TX3, 5, tyX3, rfl, by decide, iiX3, fx_in 373 rfl rfl, tyX3_ok, nmX3, rfl, tyX3_ok 2 (by decide), rfl⟩
set_option maxRecDepth 100000 in
theorem ffX3_18 : fx_F RX3 18 2 3 true (.array .int) := ⟨RX3, TX3, 5, tyX3, rfl, by decide, iiX3, fx_in 374 rfl rfl, tyX3_ok, nmX3, rfl, tyX3_ok 3 (by decide), rfl⟩
set_option maxRecDepth 100000 in
theorem ffX3_21 : fx_F RX3 21 2 4 false (.int) := ⟨RX3, TX3, 5, tyX3, rfl, by decide, iiX3, fx_in 375 rfl rfl, tyX3_ok, nmX3, rfl, tyX3_ok 4 (by decide), rfl⟩
set_option maxRecDepth 100000 in
theorem qqX2_25 : Cond.constant RX2 25 (nI 1048576) ∈ fx_ws := fx_in 398 rfl rfl
set_option maxRecDepth 100000 in
theorem qqX2_73 : Cond.constant RX2 73 (-16777216) ∈ fx_ws := fx_in 442 rfl rfl
set_option maxRecDepth 100000 in
theorem qqX2_74 : Cond.constant RX2 74 (nI 16777216) ∈ fx_ws := fx_in 443 rfl rfl
set_option maxRecDepth 100000 in
theorem qqX1_55 : Cond.constant RX1 55 (nI 65792) ∈ fx_ws := fx_in 515 rfl rfl
set_option maxRecDepth 100000 in
theorem ccX5_75 : Cond.classLink RX5 75 "java/lang/IllegalArgumentException" ∈ fx_ws := fx_in 561 rfl rfl
set_option maxRecDepth 100000 in
theorem ccL_21 : Cond.classLink RL 21 "java/lang/IndexOutOfBoundsException" ∈ fx_ws := fx_in 585 rfl rfl
set_option maxRecDepth 100000 in
theorem ccX5_92 : Cond.classLink RX5 92 "java/lang/IndexOutOfBoundsException" ∈ fx_ws := fx_in 591 rfl rfl
set_option maxRecDepth 100000 in
theorem ccL_31 : Cond.classLink RL 31 RX6 ∈ fx_ws := fx_in 714 rfl rfl
set_option maxRecDepth 100000 in
theorem szX6 : Cond.instantiable RX6 15 ∈ fx_ws := fx_in 715 rfl rfl
set_option maxRecDepth 100000 in
theorem qqX6_7 : Cond.constant RX6 7 (nI 40000) ∈ fx_ws := fx_in 720 rfl rfl
set_option maxRecDepth 100000 in
theorem qqX6_20 : Cond.constant RX6 20 (nI 65792) ∈ fx_ws := fx_in 721 rfl rfl
set_option maxRecDepth 100000 in
theorem ffX6_37 : fx_F RX6 37 5 0 false (.int) := ⟨RX6, TX6, 15, tyX6, rfl, by decide, iiX6, fx_in 722 rfl rfl, tyX6_ok, nmX6, rfl, tyX6_ok 0 (by decide), rfl⟩
set_option maxRecDepth 100000 in
theorem ffX6_8 : fx_F RX6 8 5 1 true (.array .int) := ⟨RX6, TX6, 15, tyX6, rfl, by decide, iiX6, fx_in 723 rfl rfl, tyX6_ok, nmX6, rfl, tyX6_ok 1 (by decide), rfl⟩
set_option maxRecDepth 100000 in
theorem ffX6_41 : fx_F RX6 41 5 2 false (.int) := ⟨RX6, TX6, 15, tyX6, rfl, by decide, iiX6, fx_in 724 rfl rfl, tyX6_ok, nmX6, rfl, tyX6_ok 2 (by decide), rfl⟩
set_option maxRecDepth 100000 in
theorem ffX6_45 : fx_F RX6 45 5 3 false (.int) := ⟨RX6, TX6, 15, tyX6, rfl, by decide, iiX6, fx_in 725 rfl rfl, tyX6_ok, nmX6, rfl, tyX6_ok 3 (by decide), rfl⟩
set_option maxRecDepth 100000 in
theorem ffX6_14 : fx_F RX6 14 5 4 true (.array .int) := ⟨RX6, TX6, 15, tyX6, rfl, by decide, iiX6, fx_in 726 rfl rfl, tyX6_ok, nmX6, rfl, tyX6_ok 4 (by decide), rfl⟩
set_option maxRecDepth 100000 in
theorem ffX6_17 : fx_F RX6 17 5 5 true (.array .int) := ⟨RX6, TX6, 15, tyX6, rfl, by decide, iiX6, fx_in 727 rfl rfl, tyX6_ok, nmX6, rfl, tyX6_ok 5 (by decide), rfl⟩
set_option maxRecDepth 100000 in
theorem ffX6_133 : fx_F RX6 133 5 6 false (.int) := ⟨RX6, TX6, 15, tyX6, rfl, by decide, iiX6, fx_in 728 rfl rfl, tyX6_ok, nmX6, rfl, tyX6_ok 6 (by decide), rfl⟩
set_option maxRecDepth 100000 in
theorem ffX6_50 : fx_F RX6 50 5 7 false (.int) := ⟨RX6, TX6, 15, tyX6, rfl, by decide, iiX6, fx_in 729 rfl rfl, tyX6_ok, nmX6, rfl, tyX6_ok 7 (by decide), rfl⟩
set_option maxRecDepth 100000 in
theorem ffX6_21 : fx_F RX6 21 5 8 true (.array .int) := ⟨RX6, TX6, 15, tyX6, rfl, by decide, iiX6, fx_in 730 rfl rfl, tyX6_ok, nmX6, rfl, tyX6_ok 8 (by decide), rfl⟩
set_option maxRecDepth 100000 in
theorem ffX6_24 : fx_F RX6 24 5 9 true (.array .int) := ⟨RX6, TX6, 15, tyX6, rfl, by decide, iiX6, fx_in 731 rfl rfl, tyX6_ok, nmX6, rfl, tyX6_ok 9 (by decide), rfl⟩
set_option maxRecDepth 100000 in
theorem ffX6_27 : fx_F RX6 27 5 10 true (.array .boolean) := ⟨RX6, TX6, 15, tyX6, rfl, by decide, iiX6, fx_in 732 rfl rfl, tyX6_ok, nmX6, rfl, tyX6_ok 10 (by decide), rfl⟩
set_option maxRecDepth 100000 in
theorem ffX6_145 : fx_F RX6 145 5 11 false (.int) := ⟨RX6, TX6, 15, tyX6, rfl, by decide, iiX6, fx_in 733 rfl rfl, tyX6_ok, nmX6, rfl, tyX6_ok 11 (by decide), rfl⟩
set_option maxRecDepth 100000 in
theorem ffX6_31 : fx_F RX6 31 5 12 true (.array .int) := ⟨RX6, TX6, 15, tyX6, rfl, by decide, iiX6, fx_in 734 rfl rfl, tyX6_ok, nmX6, rfl, tyX6_ok 12 (by decide), rfl⟩
set_option maxRecDepth 100000 in
theorem ffX6_34 : fx_F RX6 34 5 13 true (.array .int) := ⟨RX6, TX6, 15, tyX6, rfl, by decide, iiX6, fx_in 735 rfl rfl, tyX6_ok, nmX6, rfl, tyX6_ok 13 (by decide), rfl⟩
set_option maxRecDepth 100000 in
theorem ffX6_166 : fx_F RX6 166 5 14 false (.long) := ⟨RX6, TX6, 15, tyX6, rfl, by decide, iiX6, fx_in 736 rfl rfl, tyX6_ok, nmX6, rfl, tyX6_ok 14 (by decide), rfl⟩
set_option maxRecDepth 100000 in
theorem ac_boolean : Cond.arrayClass .boolean ∈ fx_ws := fx_in 768 rfl rfl
set_option maxRecDepth 100000 in
theorem qqX6_44 : Cond.constant RX6 44 (nI 131072) ∈ fx_ws := fx_in 777 rfl rfl
set_option maxRecDepth 100000 in
theorem qqX6_48 : Cond.constantLong RX6 48 (lN 255) ∈ fx_ws := fx_in 778 rfl rfl
set_option maxRecDepth 100000 in
theorem qqX6_126 : Cond.constant RX6 126 (nI 134217727) ∈ fx_ws := fx_in 783 rfl rfl
set_option maxRecDepth 100000 in
theorem qqX6_75 : Cond.constant RX6 75 (nI 32768) ∈ fx_ws := fx_in 804 rfl rfl
set_option maxRecDepth 100000 in
theorem qqX6_110 : Cond.constant RX6 110 (nI 1048576) ∈ fx_ws := fx_in 817 rfl rfl
set_option maxRecDepth 100000 in
theorem qqX6_86 : Cond.constant RX6 86 (-16777216) ∈ fx_ws := fx_in 842 rfl rfl
set_option maxRecDepth 100000 in
theorem qqX6_87 : Cond.constant RX6 87 (nI 16777216) ∈ fx_ws := fx_in 843 rfl rfl
set_option maxRecDepth 100000 in
theorem qqL_34 : Cond.constantLong RL 34 (lN 4294967295) ∈ fx_ws := fx_in 944 rfl rfl
set_option maxRecDepth 100000 in
theorem ac_long : Cond.arrayClass .long ∈ fx_ws := fx_in 945 rfl rfl
set_option maxRecDepth 100000 in
theorem oo_i : Cond.instanceMethod objectInit ∈ fx_ws := fx_in 80 rfl rfl
set_option maxRecDepth 100000 in
theorem oo_c : Cond.code objectInit ⟨#[0xb1]⟩ 1 none ∈ fx_ws := fx_in 81 rfl rfl
set_option maxRecDepth 100000 in
theorem ooX5 : Cond.methodLink RX5 1 objectInit ∈ fx_ws := fx_in 79 rfl rfl
set_option maxRecDepth 100000 in
theorem ooX0 : Cond.methodLink RX0 1 objectInit ∈ fx_ws := fx_in 87 rfl rfl
set_option maxRecDepth 100000 in
theorem ooX1 : Cond.methodLink RX1 5 objectInit ∈ fx_ws := fx_in 103 rfl rfl
set_option maxRecDepth 100000 in
theorem ooX4 : Cond.methodLink RX4 3 objectInit ∈ fx_ws := fx_in 129 rfl rfl
set_option maxRecDepth 100000 in
theorem mthX0_22 : Cond.methodLink RX0 22 Lib.Math.max.name ∈ fx_ws := fx_in 193 rfl rfl
set_option maxRecDepth 100000 in
theorem mthX0_28 : Cond.methodLink RX0 28 Lib.Math.min.name ∈ fx_ws := fx_in 196 rfl rfl
set_option maxRecDepth 100000 in
theorem mthJ7_304 : Cond.methodLink RJ7 304 Lib.Math.min.name ∈ fx_ws := fx_in 209 rfl rfl
set_option maxRecDepth 100000 in
theorem ooX3 : Cond.methodLink RX3 3 objectInit ∈ fx_ws := fx_in 363 rfl rfl
set_option maxRecDepth 100000 in
theorem mthX1_56 : Cond.methodLink RX1 56 Lib.Math.max.name ∈ fx_ws := fx_in 516 rfl rfl
set_option maxRecDepth 100000 in
theorem mthX1_62 : Cond.methodLink RX1 62 Lib.Math.min.name ∈ fx_ws := fx_in 517 rfl rfl
set_option maxRecDepth 100000 in
theorem ooX6 : Cond.methodLink RX6 1 objectInit ∈ fx_ws := fx_in 719 rfl rfl
set_option maxRecDepth 100000 in
theorem ms_max : Cond.static Lib.Math.max.name ∈ fx_ws := fx_in 194 rfl rfl
set_option maxRecDepth 100000 in
theorem mc_max : Cond.code Lib.Math.max.name Lib.Math.max.code 2 (some .int) ∈ fx_ws := fx_in 195 rfl rfl
set_option maxRecDepth 100000 in
theorem ms_min : Cond.static Lib.Math.min.name ∈ fx_ws := fx_in 197 rfl rfl
set_option maxRecDepth 100000 in
theorem mc_min : Cond.code Lib.Math.min.name Lib.Math.min.code 2 (some .int) ∈ fx_ws := fx_in 198 rfl rfl
end
section
section FXT
variable {g : fx_G} {M : fx_M} {d lo : Nat} {K : Option Value → fx_H → Prop} {KX : String → fx_H → Prop} {pc : Nat} {lv lv' : List (Nat × Value)} {st : List Value} {h : fx_H} {cu su : Nat}
/-- at a loop's head: the locals that it wants -/
theorem fx_to (k : fx_Y g M d lo K KX pc lv' st h cu su) (hl : fx_le lv' lv) : fx_Y g M d lo K KX pc lv st h cu su := fx_sub lv' hl k
theorem fx_st0 {st' : List Value} (e : st = st') (k : fx_Y g M d lo K KX pc lv st' h cu su) : fx_Y g M d lo K KX pc lv st h cu su := e ▸ k
/-- a truth as an int -/
noncomputable def bI (p : Prop) : Int32 := @ite Int32 p (Classical.propDecidable p) (nI 1) (nI 0)
theorem bI_t {p : Prop} (h : p) : bI p = nI 1 := if_pos h
theorem bI_f {p : Prop} (h : ¬ p) : bI p = nI 0 := if_neg h
theorem bI_nar (p : Prop) : narrow .boolean (.int (bI p)) = .int (bI p) := by
  by_cases h : p
  · rw [bI_t h]; rfl
  · rw [bI_f h]; rfl
theorem bI_0 {p : Prop} : bI p = 0 ↔ ¬ p := by
  by_cases h : p
  · rw [bI_t h]; exact ⟨fun e => absurd e (by decide), fun q => absurd h q⟩
  · rw [bI_f h]; exact ⟨fun _ => h, fun _ => rfl⟩
theorem bI_n0 {p : Prop} : ¬ bI p = 0 ↔ p := by
  rw [bI_0]
  exact Classical.not_not
theorem bI_c {p q : Prop} (h : p ↔ q) : bI p = bI q := by rw [propext h]
theorem nI_eq0 {n : Nat} (h : n < 2 ^ 32) : nI n = 0 ↔ n = 0 := by
  constructor
  · intro e
    have h1 := congrArg (fun x : Int32 => x.toBitVec.toNat) e
    simp only [pk_tn h] at h1
    simpa using h1
  · intro e
    rw [e]
    rfl
theorem nI_le0 {n : Nat} (h : n < 2 ^ 31) : nI n ≤ 0 ↔ n = 0 := by
  constructor
  · intro e
    exact Nat.eq_zero_of_not_pos (fun q => nI_nle q h e)
  · intro e
    rw [e]
    decide
theorem fx_if_eqB {p : Prop} {off : Int} (tgt : Nat) (hd : decode M.2.1 pc = .ok (.ifCond .eq off, 3)) (ht : (pc : Int) + off = (tgt : Int)) (kt : ¬ p → fx_Y g M d lo K KX tgt lv st h cu su) (kf : p → fx_Y g M d lo K KX (pc + 3) lv st h cu su) : fx_Y g M d lo K KX pc lv (.int (bI p) :: st) h cu su :=
  fx_if_eq tgt hd ht (fun q => kt (bI_0.mp q)) (fun q => kf (bI_n0.mp q))
theorem fx_if_neB {p : Prop} {off : Int} (tgt : Nat) (hd : decode M.2.1 pc = .ok (.ifCond .ne off, 3)) (ht : (pc : Int) + off = (tgt : Int)) (kt : p → fx_Y g M d lo K KX tgt lv st h cu su) (kf : ¬ p → fx_Y g M d lo K KX (pc + 3) lv st h cu su) : fx_Y g M d lo K KX pc lv (.int (bI p) :: st) h cu su :=
  fx_if_ne tgt hd ht (fun q => kt (bI_n0.mp q)) (fun q => kf (bI_0.mp q))
theorem fx_icn_eq {x y : Nat} {off : Int} (tgt : Nat) (hd : decode M.2.1 pc = .ok (.if_icmp .eq off, 3)) (ht : (pc : Int) + off = (tgt : Int)) (hx : x < 2 ^ 31) (hy : y < 2 ^ 31) (kt : x = y → fx_Y g M d lo K KX tgt lv st h cu su) (kf : x ≠ y → fx_Y g M d lo K KX (pc + 3) lv st h cu su) : fx_Y g M d lo K KX pc lv (.int (nI y) :: .int (nI x) :: st) h cu su :=
  fx_icmp_eq tgt hd ht (fun q => kt ((nI_eq hx hy).mp q)) (fun q => kf (fun e => q ((nI_eq hx hy).mpr e)))
theorem fx_icn_ne {x y : Nat} {off : Int} (tgt : Nat) (hd : decode M.2.1 pc = .ok (.if_icmp .ne off, 3)) (ht : (pc : Int) + off = (tgt : Int)) (hx : x < 2 ^ 31) (hy : y < 2 ^ 31) (kt : x ≠ y → fx_Y g M d lo K KX tgt lv st h cu su) (kf : x = y → fx_Y g M d lo K KX (pc + 3) lv st h cu su) : fx_Y g M d lo K KX pc lv (.int (nI y) :: .int (nI x) :: st) h cu su :=
  fx_icmp_ne tgt hd ht (fun q => kt (fun e => q ((nI_eq hx hy).mpr e))) (fun q => kf ((nI_eq hx hy).mp q))
theorem fx_icn_lt {x y : Nat} {off : Int} (tgt : Nat) (hd : decode M.2.1 pc = .ok (.if_icmp .lt off, 3)) (ht : (pc : Int) + off = (tgt : Int)) (hx : x < 2 ^ 31) (hy : y < 2 ^ 31) (kt : x < y → fx_Y g M d lo K KX tgt lv st h cu su) (kf : y ≤ x → fx_Y g M d lo K KX (pc + 3) lv st h cu su) : fx_Y g M d lo K KX pc lv (.int (nI y) :: .int (nI x) :: st) h cu su :=
  fx_icmp_lt tgt hd ht (fun q => kt ((nI_ltI hx hy).mp q)) (fun q => kf (Nat.le_of_not_lt (fun e => q ((nI_ltI hx hy).mpr e))))
theorem fx_icn_ge {x y : Nat} {off : Int} (tgt : Nat) (hd : decode M.2.1 pc = .ok (.if_icmp .ge off, 3)) (ht : (pc : Int) + off = (tgt : Int)) (hx : x < 2 ^ 31) (hy : y < 2 ^ 31) (kt : y ≤ x → fx_Y g M d lo K KX tgt lv st h cu su) (kf : x < y → fx_Y g M d lo K KX (pc + 3) lv st h cu su) : fx_Y g M d lo K KX pc lv (.int (nI y) :: .int (nI x) :: st) h cu su :=
  fx_icmp_ge tgt hd ht (fun q => kt ((nI_leI hy hx).mp q)) (fun q => kf (Nat.lt_of_not_le (fun e => q ((nI_leI hy hx).mpr e))))
theorem fx_icn_gt {x y : Nat} {off : Int} (tgt : Nat) (hd : decode M.2.1 pc = .ok (.if_icmp .gt off, 3)) (ht : (pc : Int) + off = (tgt : Int)) (hx : x < 2 ^ 31) (hy : y < 2 ^ 31) (kt : y < x → fx_Y g M d lo K KX tgt lv st h cu su) (kf : x ≤ y → fx_Y g M d lo K KX (pc + 3) lv st h cu su) : fx_Y g M d lo K KX pc lv (.int (nI y) :: .int (nI x) :: st) h cu su :=
  fx_icmp_gt tgt hd ht (fun q => kt ((nI_ltI hy hx).mp q)) (fun q => kf (Nat.le_of_not_lt (fun e => q ((nI_ltI hy hx).mpr e))))
theorem fx_icn_le {x y : Nat} {off : Int} (tgt : Nat) (hd : decode M.2.1 pc = .ok (.if_icmp .le off, 3)) (ht : (pc : Int) + off = (tgt : Int)) (hx : x < 2 ^ 31) (hy : y < 2 ^ 31) (kt : x ≤ y → fx_Y g M d lo K KX tgt lv st h cu su) (kf : y < x → fx_Y g M d lo K KX (pc + 3) lv st h cu su) : fx_Y g M d lo K KX pc lv (.int (nI y) :: .int (nI x) :: st) h cu su :=
  fx_icmp_le tgt hd ht (fun q => kt ((nI_leI hx hy).mp q)) (fun q => kf (Nat.lt_of_not_le (fun e => q ((nI_leI hx hy).mpr e))))
theorem fx_ifn_eq {x : Nat} {off : Int} (tgt : Nat) (hd : decode M.2.1 pc = .ok (.ifCond .eq off, 3)) (ht : (pc : Int) + off = (tgt : Int)) (hx : x < 2 ^ 31) (kt : x = 0 → fx_Y g M d lo K KX tgt lv st h cu su) (kf : x ≠ 0 → fx_Y g M d lo K KX (pc + 3) lv st h cu su) : fx_Y g M d lo K KX pc lv (.int (nI x) :: st) h cu su :=
  fx_if_eq tgt hd ht (fun q => kt ((nI_eq0 (by omega)).mp q)) (fun q => kf (fun e => q ((nI_eq0 (by omega)).mpr e)))
theorem fx_ifn_ne {x : Nat} {off : Int} (tgt : Nat) (hd : decode M.2.1 pc = .ok (.ifCond .ne off, 3)) (ht : (pc : Int) + off = (tgt : Int)) (hx : x < 2 ^ 31) (kt : x ≠ 0 → fx_Y g M d lo K KX tgt lv st h cu su) (kf : x = 0 → fx_Y g M d lo K KX (pc + 3) lv st h cu su) : fx_Y g M d lo K KX pc lv (.int (nI x) :: st) h cu su :=
  fx_if_ne tgt hd ht (fun q => kt (fun e => q ((nI_eq0 (by omega)).mpr e))) (fun q => kf ((nI_eq0 (by omega)).mp q))
theorem fx_ifn_le {x : Nat} {off : Int} (tgt : Nat) (hd : decode M.2.1 pc = .ok (.ifCond .le off, 3)) (ht : (pc : Int) + off = (tgt : Int)) (hx : x < 2 ^ 31) (kt : x = 0 → fx_Y g M d lo K KX tgt lv st h cu su) (kf : x ≠ 0 → fx_Y g M d lo K KX (pc + 3) lv st h cu su) : fx_Y g M d lo K KX pc lv (.int (nI x) :: st) h cu su :=
  fx_if_le tgt hd ht (fun q => kt ((nI_le0 hx).mp q)) (fun q => kf (fun e => q ((nI_le0 hx).mpr e)))
theorem fx_ifn_gt {x : Nat} {off : Int} (tgt : Nat) (hd : decode M.2.1 pc = .ok (.ifCond .gt off, 3)) (ht : (pc : Int) + off = (tgt : Int)) (hx : x < 2 ^ 31) (kt : x ≠ 0 → fx_Y g M d lo K KX tgt lv st h cu su) (kf : x = 0 → fx_Y g M d lo K KX (pc + 3) lv st h cu su) : fx_Y g M d lo K KX pc lv (.int (nI x) :: st) h cu su :=
  fx_if_gt tgt hd ht (fun q => kt (fun e => by rw [e] at q; exact absurd q (by decide))) (fun q => kf (Nat.eq_zero_of_not_pos (fun e => q (nI_lt e hx))))
theorem fx_ifn_lt {x : Nat} {off : Int} (tgt : Nat) (hd : decode M.2.1 pc = .ok (.ifCond .lt off, 3)) (ht : (pc : Int) + off = (tgt : Int)) (hx : x < 2 ^ 31) (kt : False → fx_Y g M d lo K KX tgt lv st h cu su) (kf : True → fx_Y g M d lo K KX (pc + 3) lv st h cu su) : fx_Y g M d lo K KX pc lv (.int (nI x) :: st) h cu su :=
  fx_if_lt tgt hd ht (fun q => kt (nI_pos hx q)) (fun q => kf (trivial))
theorem fx_ifn_ge {x : Nat} {off : Int} (tgt : Nat) (hd : decode M.2.1 pc = .ok (.ifCond .ge off, 3)) (ht : (pc : Int) + off = (tgt : Int)) (hx : x < 2 ^ 31) (kt : True → fx_Y g M d lo K KX tgt lv st h cu su) (kf : False → fx_Y g M d lo K KX (pc + 3) lv st h cu su) : fx_Y g M d lo K KX pc lv (.int (nI x) :: st) h cu su :=
  fx_if_ge tgt hd ht (fun q => kt (trivial)) (fun q => kf (q (nI_pos' hx)))
end FXT
end
section
/-! The file, as numbers. b: its bytes. -/
def ml_H (b : Nat → Nat) (k : Nat) : Nat := 256 * b (2 * k) + b (2 * k + 1)
def ml_W (b : Nat → Nat) (k : Nat) : Nat := 65536 * ml_H b (2 * k) + ml_H b (2 * k + 1)
/-- how many words row r has, where it begins -/
def ml_rl (b : Nat → Nat) (r : Nat) : Nat := if r = 0 then ml_H b 1 else if r = 1 then ml_H b 3 + 1 - ml_H b 2 else ml_H b (r + 2)
def ml_st (b : Nat → Nat) : Nat → Nat
  | 0 => 6
  | r + 1 => ml_st b r + ml_rl b r
/-- word k of row r, 0 if there is none -/
def ml_e (b : Nat → Nat) (r k : Nat) : Nat := if k < ml_rl b r then ml_W b (ml_st b r + k) else 0
def ml_eI (b : Nat → Nat) (r : Nat) (x : Int32) : Nat := if x < 0 then 0 else ml_e b r x.toNatClampNeg
/-- the info of a character that is there, else 0 -/
def ml_i (b : Nat → Nat) (c : Nat) : Nat := if ml_H b 2 ≤ c ∧ 16777216 ≤ ml_e b 1 (c - ml_H b 2) then ml_e b 1 (c - ml_H b 2) else 0
def ml_iI (b : Nat → Nat) (x : Int32) : Nat := if x < 0 then 0 else ml_i b x.toNatClampNeg
/-- fault 1 is wanting -/
def ml_f1 (b : Nat → Nat) (nb : Nat) : Prop := 24 ≤ nb ∧ nb = 4 * ml_H b 0 ∧ (∀ k, k < 12 → ml_H b k < 32768) ∧ 2 ≤ ml_H b 1 ∧ (∀ k, 4 ≤ k → k < 8 → 1 ≤ ml_H b k) ∧ ml_H b 2 ≤ ml_H b 3 + 1 ∧ ml_H b 3 ≤ 255 ∧ ml_H b 10 ≤ 256 ∧ ml_st b 10 = ml_H b 0
def ml_v (b : Nat → Nat) (nw : Nat) : Prop := (∀ i, b i < 256) ∧ ml_f1 b (4 * nw)
theorem ml_H_lt {b : Nat → Nat} (hb : ∀ i, b i < 256) (k : Nat) : ml_H b k < 65536 := by
  have h1 := hb (2 * k)
  have h2 := hb (2 * k + 1)
  unfold ml_H
  omega
theorem ml_W_lt {b : Nat → Nat} (hb : ∀ i, b i < 256) (k : Nat) : ml_W b k < 2 ^ 32 := by
  have h1 := ml_H_lt hb (2 * k)
  have h2 := ml_H_lt hb (2 * k + 1)
  unfold ml_W
  omega
theorem ml_e_lt {b : Nat → Nat} (hb : ∀ i, b i < 256) (r k : Nat) : ml_e b r k < 2 ^ 32 := by
  unfold ml_e
  split
  · exact ml_W_lt hb _
  · decide
theorem ml_eI_lt {b : Nat → Nat} (hb : ∀ i, b i < 256) (r : Nat) (x : Int32) : ml_eI b r x < 2 ^ 32 := by
  unfold ml_eI
  split
  · decide
  · exact ml_e_lt hb _ _
theorem ml_i_lt {b : Nat → Nat} (hb : ∀ i, b i < 256) (c : Nat) : ml_i b c < 2 ^ 32 := by
  unfold ml_i
  split
  · exact ml_e_lt hb _ _
  · decide
theorem ml_iI_lt {b : Nat → Nat} (hb : ∀ i, b i < 256) (x : Int32) : ml_iI b x < 2 ^ 32 := by
  unfold ml_iI
  split
  · decide
  · exact ml_i_lt hb _
theorem ml_eI_n {b : Nat → Nat} (r : Nat) {j : Nat} (hj : j < 2 ^ 31) : ml_eI b r (nI j) = ml_e b r j := by
  unfold ml_eI
  rw [if_neg (nI_pos hj), nI_clamp hj]
theorem ml_eI_m {b : Nat → Nat} (r : Nat) {x : Int32} (hx : x < 0) : ml_eI b r x = 0 := by
  unfold ml_eI
  rw [if_pos hx]
theorem ml_iI_n {b : Nat → Nat} {j : Nat} (hj : j < 2 ^ 31) : ml_iI b (nI j) = ml_i b j := by
  unfold ml_iI
  rw [if_neg (nI_pos hj), nI_clamp hj]
theorem ml_iI_m {b : Nat → Nat} {x : Int32} (hx : x < 0) : ml_iI b x = 0 := by
  unfold ml_iI
  rw [if_pos hx]
theorem ml_st_mono {b : Nat → Nat} {r t : Nat} (h : r ≤ t) : ml_st b r ≤ ml_st b t := by
  induction h with
  | refl => exact Nat.le_refl _
  | step _ ih => exact Nat.le_trans ih (Nat.le_add_right _ _)
theorem ml_st_6 {b : Nat → Nat} (r : Nat) : 6 ≤ ml_st b r := ml_st_mono (Nat.zero_le r)
theorem ml_v.row {b : Nat → Nat} {nw : Nat} (V : ml_v b nw) {r : Nat} (hr : r < 10) : ml_st b r + ml_rl b r ≤ nw := by
  have h1 : ml_st b (r + 1) ≤ ml_st b 10 := ml_st_mono (by omega)
  obtain ⟨-, -, h2, -, -, -, -, -, -, h3⟩ := V
  have h4 : ml_st b (r + 1) = ml_st b r + ml_rl b r := rfl
  omega
theorem ml_v.nw {b : Nat → Nat} {nw : Nat} (V : ml_v b nw) : nw < 32768 ∧ nw = ml_H b 0 := by
  obtain ⟨-, -, h2, h3, -⟩ := V
  have := h3 0 (by decide)
  omega
theorem ml_v.rl {b : Nat → Nat} {nw : Nat} (V : ml_v b nw) {r : Nat} (hr : r < 10) : ml_rl b r < 32768 := by
  have h1 := V.row hr
  have h2 := V.nw
  omega
theorem ml_v.st {b : Nat → Nat} {nw : Nat} (V : ml_v b nw) {r : Nat} (hr : r < 10) : ml_st b r < 32768 := by
  have h1 := V.row hr
  have h2 := V.nw
  omega
/-- no character beyond 255 -/
theorem ml_v.i0 {b : Nat → Nat} {nw : Nat} (V : ml_v b nw) {c : Nat} (hc : 256 ≤ c) : ml_i b c = 0 := by
  have h5 : ml_H b 3 ≤ 255 := V.2.2.2.2.2.2.2.1
  have e1 : ml_rl b 1 = ml_H b 3 + 1 - ml_H b 2 := rfl
  unfold ml_i
  split
  · rename_i q
    exfalso
    by_cases q1 : c - ml_H b 2 < ml_rl b 1
    · omega
    · have q2 := q.2
      unfold ml_e at q2
      rw [if_neg q1] at q2
      omega
  · rfl
end
section
/-! FontDesk$Draft -/
/-- a draft at a: its row of bytes at b (of length n), len of them drafted: B -/
def dr (h : fx_H) (a b n len : Nat) (B : Nat → Nat) : Prop := h a = some (.inr (0, [.ref b, .int (nI len)])) ∧ len ≤ n ∧ n ≤ 131072 ∧ ∃ f : Nat → Int32, h b = some (.inl (1, n, .inl f)) ∧ (∀ j, j < len → f j &&& nI 255 = nI (B j) ∧ B j < 256) ∧ ∀ j, fits .byte (.int (f j)) = true
def by_ (B : Nat → Nat) (len j : Nat) : Nat := if j < len then B j else 0
def hf (B : Nat → Nat) (len k : Nat) : Nat := 256 * by_ B len (2 * k) + by_ B len (2 * k + 1)
def wd (B : Nat → Nat) (len k : Nat) : Nat := 65536 * hf B len (2 * k) + hf B len (2 * k + 1)
theorem dr.by_lt {h : fx_H} {a b n len : Nat} {B : Nat → Nat} (H : dr h a b n len B) (j : Nat) : by_ B len j < 256 := by
  unfold by_
  split
  · rename_i hl
    obtain ⟨-, -, -, f, -, h5, -⟩ := H
    exact (h5 j hl).2
  · decide
theorem dr.hf_lt {h : fx_H} {a b n len : Nat} {B : Nat → Nat} (H : dr h a b n len B) (k : Nat) : hf B len k < 65536 := by
  have h1 := H.by_lt (2 * k)
  have h2 := H.by_lt (2 * k + 1)
  unfold hf
  omega
theorem dr.wd_lt {h : fx_H} {a b n len : Nat} {B : Nat → Nat} (H : dr h a b n len B) (k : Nat) : wd B len k < 4294967296 := by
  have h1 := H.hf_lt (2 * k)
  have h2 := H.hf_lt (2 * k + 1)
  unfold wd
  omega
/-- 'or' of numbers whose bits don't meet -/
theorem nI_or {x y k : Nat} (hy : y < 2 ^ k) (hx : x * 2 ^ k < 2 ^ 32) : nI (x * 2 ^ k) ||| nI y = nI (x * 2 ^ k + y) := by
  have e : x * 2 ^ k ||| y = x * 2 ^ k + y := by
    rw [Nat.mul_comm, Nat.two_pow_add_eq_or_of_lt hy]
  rw [← e]
  refine Int32.toBitVec_inj.mp ?_
  show (BitVec.ofNat 32 (x * 2 ^ k) ||| BitVec.ofNat 32 y) = BitVec.ofNat 32 (x * 2 ^ k ||| y)
  apply BitVec.eq_of_toNat_eq
  simp [Nat.or_mod_two_pow]

theorem p_dr_byteAt {g : fx_G} {h : fx_H} {a b n len : Nat} {B : Nat → Nat} (H : dr h a b n len B) (j : Nat) (hj : j < 2 ^ 31) : fx_P g mX0_byteAt 0 0 [.ref a, .int (nI j)] h (.int (nI (by_ B len j))) := by
  obtain ⟨h1, h2, h3, f, h4, h5, -⟩ := H
  refine fx_Met.of rfl (Nat.le_of_ble_eq_true rfl) ?_
  by_cases hl : j < len
  · skip
    refine fx_iloadn dX0_byteAt_0 rfl ?_
    refine fx_if_lt 34 dX0_byteAt_1 (by decide) (fun c1 => absurd c1 (nI_pos hj)) (fun c1 => ?_)
    refine fx_iloadn dX0_byteAt_4 rfl ?_
    refine fx_aloadn dX0_byteAt_5 rfl ?_
    refine fx_get dX0_byteAt_6 ffX0_13 (by assumption) rfl ?_
    refine fx_icmp_ge 34 dX0_byteAt_9 (by decide) (fun c9 => absurd c9 (nI_ge hl (by omega))) (fun c9 => ?_)
    refine fx_iloadn dX0_byteAt_12 rfl ?_
    refine fx_aloadn dX0_byteAt_13 rfl ?_
    refine fx_get dX0_byteAt_14 ffX0_7 (by assumption) rfl ?_
    refine fx_alenI dX0_byteAt_17 (by assumption) (by decide) ?_
    refine fx_icmp_ge 34 dX0_byteAt_18 (by decide) (fun c18 => absurd c18 (nI_ge (Nat.lt_of_lt_of_le hl h2) (by omega))) (fun c18 => ?_)
    refine fx_aloadn dX0_byteAt_21 rfl ?_
    refine fx_get dX0_byteAt_22 ffX0_7 (by assumption) rfl ?_
    refine fx_iloadn dX0_byteAt_25 rfl ?_
    refine fx_bald dX0_byteAt_26 (by assumption) (vp_in_nI (Nat.lt_of_lt_of_le hl h2) (by omega)) ?_
    refine fx_sipush (nI 255) dX0_byteAt_27 (by decide) ?_
    refine fx_iand dX0_byteAt_30 ?_
    refine fx_goto 35 dX0_byteAt_31 (by decide) ?_
    refine fx_iret dX0_byteAt_35 rfl ?_
    refine ⟨?_, rfl⟩
    rw [nI_clamp hj, (h5 j hl).1]
    unfold by_
    rw [if_pos hl]
  · skip
    refine fx_iloadn dX0_byteAt_0 rfl ?_
    refine fx_if_lt 34 dX0_byteAt_1 (by decide) (fun c1 => absurd c1 (nI_pos hj)) (fun c1 => ?_)
    refine fx_iloadn dX0_byteAt_4 rfl ?_
    refine fx_aloadn dX0_byteAt_5 rfl ?_
    refine fx_get dX0_byteAt_6 ffX0_13 (by assumption) rfl ?_
    refine fx_icmp_ge 34 dX0_byteAt_9 (by decide) (fun c9 => ?_) (fun c9 => absurd (nI_le (by omega) hj) c9)
    refine fx_iconst (nI 0) dX0_byteAt_34 (by decide) ?_
    refine fx_iret dX0_byteAt_35 rfl ?_
    refine ⟨?_, rfl⟩
    unfold by_
    rw [if_neg hl]
theorem p_dr_halfAt {g : fx_G} {h : fx_H} {a b n len : Nat} {B : Nat → Nat} (H : dr h a b n len B) (k : Nat) (hk : k < 2 ^ 29) : fx_P g mX0_halfAt 1 21 [.ref a, .int (nI k)] h (.int (nI (hf B len k))) := by
  refine fx_Met.of rfl (Nat.le_of_ble_eq_true rfl) ?_
  have h1 := H.1
  refine fx_aloadn dX0_halfAt_0 rfl ?_
  refine fx_iconst (nI 2) dX0_halfAt_1 (by decide) ?_
  refine fx_iloadn dX0_halfAt_2 rfl ?_
  refine fx_imul dX0_halfAt_3 ?_
  rw [pk_mul]
  refine fx_callVp dX0_halfAt_4 vX0_byteAt kkX0_37 rfl rfl (by assumption) (p_dr_byteAt H _ (by omega)) rfl (by decide) (by decide) rfl (Nat.le_of_ble_eq_true rfl) ?_
  refine fx_bipush (nI 8) dX0_halfAt_7 (by decide) ?_
  refine fx_ishl dX0_halfAt_9 ?_
  refine fx_aloadn dX0_halfAt_10 rfl ?_
  refine fx_iconst (nI 2) dX0_halfAt_11 (by decide) ?_
  refine fx_iloadn dX0_halfAt_12 rfl ?_
  refine fx_imul dX0_halfAt_13 ?_
  refine fx_iconst (nI 1) dX0_halfAt_14 (by decide) ?_
  refine fx_iadd dX0_halfAt_15 ?_
  rw [pk_mul, nI_add]
  refine fx_callVp dX0_halfAt_16 vX0_byteAt kkX0_37 rfl rfl (by assumption) (p_dr_byteAt H _ (by omega)) rfl (by decide) (by decide) rfl (Nat.le_of_ble_eq_true rfl) ?_
  refine fx_ior dX0_halfAt_19 ?_
  refine fx_iret dX0_halfAt_20 rfl ?_
  refine ⟨?_, rfl⟩
  have q1 := H.by_lt (2 * k)
  have q2 := H.by_lt (2 * k + 1)
  rw [pk_shlN (nI 8 &&& 31) 8 (by decide) (by omega), nI_or (by omega) (by omega)]
  unfold hf
  congr 3
  omega
theorem p_dr_wordAt {g : fx_G} {h : fx_H} {a b n len : Nat} {B : Nat → Nat} (H : dr h a b n len B) (k : Nat) (hk : k < 2 ^ 27) : fx_P g mX0_wordAt 2 42 [.ref a, .int (nI k)] h (.int (nI (wd B len k))) := by
  refine fx_Met.of rfl (Nat.le_of_ble_eq_true rfl) ?_
  have h1 := H.1
  refine fx_aloadn dX0_wordAt_0 rfl ?_
  refine fx_iconst (nI 2) dX0_wordAt_1 (by decide) ?_
  refine fx_iloadn dX0_wordAt_2 rfl ?_
  refine fx_imul dX0_wordAt_3 ?_
  rw [pk_mul]
  refine fx_callVp dX0_wordAt_4 vX0_halfAt kkX0_41 rfl rfl (by assumption) (p_dr_halfAt H _ (by omega)) rfl (by decide) (by decide) rfl (Nat.le_of_ble_eq_true rfl) ?_
  refine fx_bipush (nI 16) dX0_wordAt_7 (by decide) ?_
  refine fx_ishl dX0_wordAt_9 ?_
  refine fx_aloadn dX0_wordAt_10 rfl ?_
  refine fx_iconst (nI 2) dX0_wordAt_11 (by decide) ?_
  refine fx_iloadn dX0_wordAt_12 rfl ?_
  refine fx_imul dX0_wordAt_13 ?_
  refine fx_iconst (nI 1) dX0_wordAt_14 (by decide) ?_
  refine fx_iadd dX0_wordAt_15 ?_
  rw [pk_mul, nI_add]
  refine fx_callVp dX0_wordAt_16 vX0_halfAt kkX0_41 rfl rfl (by assumption) (p_dr_halfAt H _ (by omega)) rfl (by decide) (by decide) rfl (Nat.le_of_ble_eq_true rfl) ?_
  refine fx_ior dX0_wordAt_19 ?_
  refine fx_iret dX0_wordAt_20 rfl ?_
  refine ⟨?_, rfl⟩
  have q1 := H.hf_lt (2 * k)
  have q2 := H.hf_lt (2 * k + 1)
  rw [pk_shlN (nI 16 &&& 31) 16 (by decide) (by omega), nI_or (by omega) (by omega)]
  unfold wd
  congr 3
  omega
theorem p_dr_size {g : fx_G} {h : fx_H} {a b n len : Nat} {B : Nat → Nat} (H : dr h a b n len B) : fx_P g mX0_size 0 0 [.ref a] h (.int (nI len)) := by
  refine fx_Met.of rfl (Nat.le_of_ble_eq_true rfl) ?_
  have h1 := H.1
  refine fx_aloadn dX0_size_0 rfl ?_
  refine fx_get dX0_size_1 ffX0_13 (by assumption) rfl ?_
  refine fx_iret dX0_size_4 rfl ?_
  exact ⟨rfl, rfl⟩
end
section
/-! FontDesk$Font: its reads -/
/-- a font at a, all of whose cells are in S: the file b of nw words, at the size z -/
def fo (S : Nat → Prop) (h : fx_H) (a : Nat) (b : Nat → Nat) (nw : Nat) (z : Int32) : Prop := ∃ (pw ps pl pi : Nat) (fw fs fl fi : Nat → Int32), h a = some (.inr (2, [.ref pw, .ref ps, .ref pl, .ref pi, .int z])) ∧ h pw = some (.inl (0, nw, .inl fw)) ∧ h ps = some (.inl (0, 10, .inl fs)) ∧ h pl = some (.inl (0, 10, .inl fl)) ∧ h pi = some (.inl (0, 256, .inl fi)) ∧ (∀ k, k < nw → fw k = nI (ml_W b k)) ∧ (∀ r, r < 10 → fs r = nI (ml_st b r) ∧ fl r = nI (ml_rl b r)) ∧ (∀ c, c < 256 → fi c = nI (ml_i b c)) ∧ S a ∧ S pw ∧ S ps ∧ S pl ∧ S pi
theorem fo.kept {S : Nat → Prop} {h h' : fx_H} {a nw : Nat} {b : Nat → Nat} {z : Int32} (H : fo S h a b nw z) (hk : ∀ q, S q → h' q = h q) : fo S h' a b nw z := by
  obtain ⟨pw, ps, pl, pi, fw, fs, fl, fi, h1, h2, h3, h4, h5, h6, h7, h8, s1, s2, s3, s4, s5⟩ := H
  exact ⟨pw, ps, pl, pi, fw, fs, fl, fi, (hk _ s1).trans h1, (hk _ s2).trans h2, (hk _ s3).trans h3, (hk _ s4).trans h4, (hk _ s5).trans h5, h6, h7, h8, s1, s2, s3, s4, s5⟩
theorem fo.sub {S S' : Nat → Prop} {h : fx_H} {a nw : Nat} {b : Nat → Nat} {z : Int32} (H : fo S h a b nw z) (hs : ∀ q, S q → S' q) : fo S' h a b nw z := by
  obtain ⟨pw, ps, pl, pi, fw, fs, fl, fi, h1, h2, h3, h4, h5, h6, h7, h8, s1, s2, s3, s4, s5⟩ := H
  exact ⟨pw, ps, pl, pi, fw, fs, fl, fi, h1, h2, h3, h4, h5, h6, h7, h8, hs _ s1, hs _ s2, hs _ s3, hs _ s4, hs _ s5⟩
theorem fo.at {S : Nat → Prop} {h : fx_H} {a nw : Nat} {b : Nat → Nat} {z : Int32} (H : fo S h a b nw z) : ∃ fs : List Value, h a = some (.inr (2, fs)) := by
  obtain ⟨pw, ps, pl, pi, fw, fs, fl, fi, h1, -⟩ := H
  exact ⟨_, h1⟩

theorem p_fo_rowLength {g : fx_G} {S : Nat → Prop} {h : fx_H} {a nw : Nat} {b : Nat → Nat} {z : Int32} (H : fo S h a b nw z) (V : ml_v b nw) (r : Nat) (hr : r < 10) : fx_P g mX3_rowLength 0 0 [.ref a, .int (nI r)] h (.int (nI (ml_rl b r))) := by
  obtain ⟨pw, ps, pl, pi, fw, fs, fl, fi, h1, h2, h3, h4, h5, h6, h7, h8, -⟩ := id H
  refine fx_Met.of rfl (Nat.le_of_ble_eq_true rfl) ?_
  refine fx_iloadn dX3_rowLength_0 rfl ?_
  refine fx_if_lt 19 dX3_rowLength_1 (by decide) (fun c1 => absurd c1 (nI_pos (by omega))) (fun c1 => ?_)
  refine fx_iloadn dX3_rowLength_4 rfl ?_
  refine fx_bipush (nI 10) dX3_rowLength_5 (by decide) ?_
  refine fx_icmp_ge 19 dX3_rowLength_7 (by decide) (fun c7 => absurd c7 (nI_ge hr (by decide))) (fun c7 => ?_)
  refine fx_aloadn dX3_rowLength_10 rfl ?_
  refine fx_get dX3_rowLength_11 ffX3_15 (by assumption) rfl ?_
  refine fx_iloadn dX3_rowLength_14 rfl ?_
  refine fx_iald dX3_rowLength_15 (by assumption) (vp_in_nI hr (by decide)) ?_
  refine fx_goto 20 dX3_rowLength_16 (by decide) ?_
  refine fx_iret dX3_rowLength_20 rfl ?_
  refine ⟨?_, rfl⟩
  rw [nI_clamp (by omega), (h7 r hr).2]
theorem p_fo_wordAt {g : fx_G} {S : Nat → Prop} {h : fx_H} {a nw : Nat} {b : Nat → Nat} {z : Int32} (H : fo S h a b nw z) (V : ml_v b nw) (r : Nat) (hr : r < 10) (x : Int32) : fx_P g mX3_wordAt 0 0 [.ref a, .int (nI r), .int x] h (.int (nI (ml_eI b r x))) := by
  obtain ⟨pw, ps, pl, pi, fw, fs, fl, fi, h1, h2, h3, h4, h5, h6, h7, h8, -⟩ := id H
  refine fx_Met.of rfl (Nat.le_of_ble_eq_true rfl) ?_
  have hq1 := V.row hr
  have hq2 := V.nw
  by_cases hx : x < 0
  · skip
    refine fx_iloadn dX3_wordAt_0 rfl ?_
    refine fx_if_lt 24 dX3_wordAt_1 (by decide) (fun c1 => absurd c1 (nI_pos (by omega))) (fun c1 => ?_)
    refine fx_iloadn dX3_wordAt_4 rfl ?_
    refine fx_bipush (nI 10) dX3_wordAt_5 (by decide) ?_
    refine fx_icmp_ge 24 dX3_wordAt_7 (by decide) (fun c7 => absurd c7 (nI_ge hr (by decide))) (fun c7 => ?_)
    refine fx_iloadn dX3_wordAt_10 rfl ?_
    refine fx_if_lt 24 dX3_wordAt_11 (by decide) (fun c11 => ?_) (fun c11 => absurd (hx) c11)
    refine fx_iconst (nI 0) dX3_wordAt_24 (by decide) ?_
    refine fx_iret dX3_wordAt_25 rfl ?_
    exact ⟨by rw [ml_eI_m r hx], rfl⟩
  · obtain ⟨j, hj, rfl⟩ := nI_of hx
    by_cases hk : j < ml_rl b r
    · skip
      refine fx_iloadn dX3_wordAt_0 rfl ?_
      refine fx_if_lt 24 dX3_wordAt_1 (by decide) (fun c1 => absurd c1 (nI_pos (by omega))) (fun c1 => ?_)
      refine fx_iloadn dX3_wordAt_4 rfl ?_
      refine fx_bipush (nI 10) dX3_wordAt_5 (by decide) ?_
      refine fx_icmp_ge 24 dX3_wordAt_7 (by decide) (fun c7 => absurd c7 (nI_ge hr (by decide))) (fun c7 => ?_)
      refine fx_iloadn dX3_wordAt_10 rfl ?_
      refine fx_if_lt 24 dX3_wordAt_11 (by decide) (fun c11 => absurd c11 (nI_pos hj)) (fun c11 => ?_)
      refine fx_iloadn dX3_wordAt_14 rfl ?_
      refine fx_aloadn dX3_wordAt_15 rfl ?_
      refine fx_get dX3_wordAt_16 ffX3_15 (by assumption) rfl ?_
      refine fx_iloadn dX3_wordAt_19 rfl ?_
      refine fx_iald dX3_wordAt_20 (by assumption) (vp_in_nI hr (by decide)) ?_
      rw [nI_clamp (show r < 2 ^ 31 by omega), (h7 r hr).2]
      refine fx_icmp_lt 26 dX3_wordAt_21 (by decide) (fun c21 => ?_) (fun c21 => absurd (nI_lt hk (by omega)) c21)
      refine fx_aloadn dX3_wordAt_26 rfl ?_
      refine fx_get dX3_wordAt_27 ffX3_11 (by assumption) rfl ?_
      refine fx_iloadn dX3_wordAt_30 rfl ?_
      refine fx_iald dX3_wordAt_31 (by assumption) (vp_in_nI hr (by decide)) ?_
      rw [nI_clamp (show r < 2 ^ 31 by omega), (h7 r hr).1]
      refine fx_iloadn dX3_wordAt_32 rfl ?_
      refine fx_iadd dX3_wordAt_33 ?_
      rw [nI_add]
      refine fx_istoren dX3_wordAt_34 (by decide) ?_
      refine fx_iloadn dX3_wordAt_35 rfl ?_
      refine fx_if_lt 57 dX3_wordAt_36 (by decide) (fun c36 => absurd c36 (nI_pos (by omega))) (fun c36 => ?_)
      refine fx_iloadn dX3_wordAt_39 rfl ?_
      refine fx_aloadn dX3_wordAt_40 rfl ?_
      refine fx_get dX3_wordAt_41 ffX3_30 (by assumption) rfl ?_
      refine fx_alenI dX3_wordAt_44 (by assumption) (by decide) ?_
      refine fx_icmp_ge 57 dX3_wordAt_45 (by decide) (fun c45 => absurd c45 (nI_ge (show ml_st b r + j < nw by omega) (by omega))) (fun c45 => ?_)
      refine fx_aloadn dX3_wordAt_48 rfl ?_
      refine fx_get dX3_wordAt_49 ffX3_30 (by assumption) rfl ?_
      refine fx_iloadn dX3_wordAt_52 rfl ?_
      refine fx_iald dX3_wordAt_53 (by assumption) (vp_in_nI (show ml_st b r + j < nw by omega) (by omega)) ?_
      rw [nI_clamp (show ml_st b r + j < 2 ^ 31 by omega), h6 _ (by omega)]
      refine fx_goto 58 dX3_wordAt_54 (by decide) ?_
      refine fx_iret dX3_wordAt_58 rfl ?_
      refine ⟨?_, rfl⟩
      rw [ml_eI_n r hj]
      unfold ml_e
      rw [if_pos hk]
    · skip
      refine fx_iloadn dX3_wordAt_0 rfl ?_
      refine fx_if_lt 24 dX3_wordAt_1 (by decide) (fun c1 => absurd c1 (nI_pos (by omega))) (fun c1 => ?_)
      refine fx_iloadn dX3_wordAt_4 rfl ?_
      refine fx_bipush (nI 10) dX3_wordAt_5 (by decide) ?_
      refine fx_icmp_ge 24 dX3_wordAt_7 (by decide) (fun c7 => absurd c7 (nI_ge hr (by decide))) (fun c7 => ?_)
      refine fx_iloadn dX3_wordAt_10 rfl ?_
      refine fx_if_lt 24 dX3_wordAt_11 (by decide) (fun c11 => absurd c11 (nI_pos hj)) (fun c11 => ?_)
      refine fx_iloadn dX3_wordAt_14 rfl ?_
      refine fx_aloadn dX3_wordAt_15 rfl ?_
      refine fx_get dX3_wordAt_16 ffX3_15 (by assumption) rfl ?_
      refine fx_iloadn dX3_wordAt_19 rfl ?_
      refine fx_iald dX3_wordAt_20 (by assumption) (vp_in_nI hr (by decide)) ?_
      rw [nI_clamp (show r < 2 ^ 31 by omega), (h7 r hr).2]
      refine fx_icmp_lt 26 dX3_wordAt_21 (by decide) (fun c21 => absurd c21 (nI_nlt (by omega) hj)) (fun c21 => ?_)
      refine fx_iconst (nI 0) dX3_wordAt_24 (by decide) ?_
      refine fx_iret dX3_wordAt_25 rfl ?_
      refine ⟨?_, rfl⟩
      rw [ml_eI_n r hj]
      unfold ml_e
      rw [if_neg hk]
theorem p_fo_infoOf {g : fx_G} {S : Nat → Prop} {h : fx_H} {a nw : Nat} {b : Nat → Nat} {z : Int32} (H : fo S h a b nw z) (V : ml_v b nw) (x : Int32) : fx_P g mX3_infoOf 0 0 [.ref a, .int x] h (.int (nI (ml_iI b x))) := by
  obtain ⟨pw, ps, pl, pi, fw, fs, fl, fi, h1, h2, h3, h4, h5, h6, h7, h8, -⟩ := id H
  refine fx_Met.of rfl (Nat.le_of_ble_eq_true rfl) ?_
  by_cases hx : x < 0
  · skip
    refine fx_iloadn dX3_infoOf_0 rfl ?_
    refine fx_if_lt 20 dX3_infoOf_1 (by decide) (fun c1 => ?_) (fun c1 => absurd (hx) c1)
    refine fx_iconst (nI 0) dX3_infoOf_20 (by decide) ?_
    refine fx_iret dX3_infoOf_21 rfl ?_
    exact ⟨by rw [ml_iI_m hx], rfl⟩
  · obtain ⟨j, hj, rfl⟩ := nI_of hx
    by_cases hc : j < 256
    · skip
      refine fx_iloadn dX3_infoOf_0 rfl ?_
      refine fx_if_lt 20 dX3_infoOf_1 (by decide) (fun c1 => absurd c1 (nI_pos hj)) (fun c1 => ?_)
      refine fx_iloadn dX3_infoOf_4 rfl ?_
      refine fx_sipush (nI 256) dX3_infoOf_5 (by decide) ?_
      refine fx_icmp_ge 20 dX3_infoOf_8 (by decide) (fun c8 => absurd c8 (nI_ge hc (by decide))) (fun c8 => ?_)
      refine fx_aloadn dX3_infoOf_11 rfl ?_
      refine fx_get dX3_infoOf_12 ffX3_18 (by assumption) rfl ?_
      refine fx_iloadn dX3_infoOf_15 rfl ?_
      refine fx_iald dX3_infoOf_16 (by assumption) (vp_in_nI hc (by decide)) ?_
      refine fx_goto 21 dX3_infoOf_17 (by decide) ?_
      refine fx_iret dX3_infoOf_21 rfl ?_
      refine ⟨?_, rfl⟩
      rw [nI_clamp hj, h8 j hc, ml_iI_n hj]
    · skip
      refine fx_iloadn dX3_infoOf_0 rfl ?_
      refine fx_if_lt 20 dX3_infoOf_1 (by decide) (fun c1 => absurd c1 (nI_pos hj)) (fun c1 => ?_)
      refine fx_iloadn dX3_infoOf_4 rfl ?_
      refine fx_sipush (nI 256) dX3_infoOf_5 (by decide) ?_
      refine fx_icmp_ge 20 dX3_infoOf_8 (by decide) (fun c8 => ?_) (fun c8 => absurd (nI_le (by omega) hj) c8)
      refine fx_iconst (nI 0) dX3_infoOf_20 (by decide) ?_
      refine fx_iret dX3_infoOf_21 rfl ?_
      refine ⟨?_, rfl⟩
      rw [ml_iI_n hj, V.i0 (by omega)]
def ml_s (b : Nat → Nat) (x : Int32) : Nat := ml_eI b 6 x / 16777216
def ml_n (b : Nat → Nat) (x : Int32) : Nat := ml_eI b 6 x / 65536 % 256
def ml_o (b : Nat → Nat) (x : Int32) : Nat := ml_eI b 6 x / 256 % 256
def ml_r (b : Nat → Nat) (x : Int32) : Nat := ml_eI b 6 x % 256
def ml_tag (b : Nat → Nat) (x : Int32) : Nat := ml_iI b x / 256 % 4
def ml_rest (b : Nat → Nat) (x : Int32) : Nat := ml_iI b x % 256
theorem ml_s_lt {b : Nat → Nat} (hb : ∀ i, b i < 256) (x : Int32) : ml_s b x < 256 := by
  have := ml_eI_lt hb 6 x
  unfold ml_s
  omega
theorem ml_n_lt {b : Nat → Nat} (x : Int32) : ml_n b x < 256 := Nat.mod_lt _ (by decide)
theorem ml_o_lt {b : Nat → Nat} (x : Int32) : ml_o b x < 256 := Nat.mod_lt _ (by decide)
theorem ml_r_lt {b : Nat → Nat} (x : Int32) : ml_r b x < 256 := Nat.mod_lt _ (by decide)
theorem ml_tag_lt {b : Nat → Nat} (x : Int32) : ml_tag b x < 4 := Nat.mod_lt _ (by decide)
theorem ml_rest_lt {b : Nat → Nat} (x : Int32) : ml_rest b x < 256 := Nat.mod_lt _ (by decide)

theorem p_fo_skipOf {g : fx_G} {S : Nat → Prop} {h : fx_H} {a nw : Nat} {b : Nat → Nat} {z : Int32} (H : fo S h a b nw z) (V : ml_v b nw) (x : Int32) : fx_P g mX3_skipOf 1 23 [.ref a, .int x] h (.int (nI (ml_s b x))) := by
  obtain ⟨fs, h1⟩ := H.at
  refine fx_Met.of rfl (Nat.le_of_ble_eq_true rfl) ?_
  refine fx_aloadn dX3_skipOf_0 rfl ?_
  refine fx_bipush (nI 6) dX3_skipOf_1 (by decide) ?_
  refine fx_iloadn dX3_skipOf_3 rfl ?_
  refine fx_callVp dX3_skipOf_4 vX3_wordAt kkX3_40 rfl rfl (by assumption) (p_fo_wordAt H V 6 (by decide) _) rfl (by decide) (by decide) rfl (Nat.le_of_ble_eq_true rfl) ?_
  refine fx_bipush (nI 24) dX3_skipOf_7 (by decide) ?_
  refine fx_iushr dX3_skipOf_9 ?_
  refine fx_iret dX3_skipOf_10 rfl ?_
  refine ⟨?_, rfl⟩
  rw [pk_ushrN (ml_eI_lt V.1 6 x) (nI 24) 24 (by decide)]
  rfl
theorem p_fo_signOf {g : fx_G} {S : Nat → Prop} {h : fx_H} {a nw : Nat} {b : Nat → Nat} {z : Int32} (H : fo S h a b nw z) (V : ml_v b nw) (x : Int32) : fx_P g mX3_signOf 1 23 [.ref a, .int x] h (.int (nI (ml_n b x))) := by
  obtain ⟨fs, h1⟩ := H.at
  refine fx_Met.of rfl (Nat.le_of_ble_eq_true rfl) ?_
  refine fx_aloadn dX3_signOf_0 rfl ?_
  refine fx_bipush (nI 6) dX3_signOf_1 (by decide) ?_
  refine fx_iloadn dX3_signOf_3 rfl ?_
  refine fx_callVp dX3_signOf_4 vX3_wordAt kkX3_40 rfl rfl (by assumption) (p_fo_wordAt H V 6 (by decide) _) rfl (by decide) (by decide) rfl (Nat.le_of_ble_eq_true rfl) ?_
  refine fx_bipush (nI 16) dX3_signOf_7 (by decide) ?_
  refine fx_iushr dX3_signOf_9 ?_
  refine fx_sipush (nI 255) dX3_signOf_10 (by decide) ?_
  refine fx_iand dX3_signOf_13 ?_
  refine fx_iret dX3_signOf_14 rfl ?_
  refine ⟨?_, rfl⟩
  have q := ml_eI_lt V.1 6 x
  rw [pk_ushrN (ml_eI_lt V.1 6 x) (nI 16) 16 (by decide), pk_andN (m := nI 255) (by omega) 8 (by decide)]
  rfl
theorem p_fo_deedOf {g : fx_G} {S : Nat → Prop} {h : fx_H} {a nw : Nat} {b : Nat → Nat} {z : Int32} (H : fo S h a b nw z) (V : ml_v b nw) (x : Int32) : fx_P g mX3_deedOf 1 23 [.ref a, .int x] h (.int (nI (ml_o b x))) := by
  obtain ⟨fs, h1⟩ := H.at
  refine fx_Met.of rfl (Nat.le_of_ble_eq_true rfl) ?_
  refine fx_aloadn dX3_deedOf_0 rfl ?_
  refine fx_bipush (nI 6) dX3_deedOf_1 (by decide) ?_
  refine fx_iloadn dX3_deedOf_3 rfl ?_
  refine fx_callVp dX3_deedOf_4 vX3_wordAt kkX3_40 rfl rfl (by assumption) (p_fo_wordAt H V 6 (by decide) _) rfl (by decide) (by decide) rfl (Nat.le_of_ble_eq_true rfl) ?_
  refine fx_bipush (nI 8) dX3_deedOf_7 (by decide) ?_
  refine fx_iushr dX3_deedOf_9 ?_
  refine fx_sipush (nI 255) dX3_deedOf_10 (by decide) ?_
  refine fx_iand dX3_deedOf_13 ?_
  refine fx_iret dX3_deedOf_14 rfl ?_
  refine ⟨?_, rfl⟩
  have q := ml_eI_lt V.1 6 x
  rw [pk_ushrN (ml_eI_lt V.1 6 x) (nI 8) 8 (by decide), pk_andN (m := nI 255) (by omega) 8 (by decide)]
  rfl
theorem p_fo_remainderOf {g : fx_G} {S : Nat → Prop} {h : fx_H} {a nw : Nat} {b : Nat → Nat} {z : Int32} (H : fo S h a b nw z) (V : ml_v b nw) (x : Int32) : fx_P g mX3_remainderOf 1 23 [.ref a, .int x] h (.int (nI (ml_r b x))) := by
  obtain ⟨fs, h1⟩ := H.at
  refine fx_Met.of rfl (Nat.le_of_ble_eq_true rfl) ?_
  refine fx_aloadn dX3_remainderOf_0 rfl ?_
  refine fx_bipush (nI 6) dX3_remainderOf_1 (by decide) ?_
  refine fx_iloadn dX3_remainderOf_3 rfl ?_
  refine fx_callVp dX3_remainderOf_4 vX3_wordAt kkX3_40 rfl rfl (by assumption) (p_fo_wordAt H V 6 (by decide) _) rfl (by decide) (by decide) rfl (Nat.le_of_ble_eq_true rfl) ?_
  refine fx_sipush (nI 255) dX3_remainderOf_7 (by decide) ?_
  refine fx_iand dX3_remainderOf_10 ?_
  refine fx_iret dX3_remainderOf_11 rfl ?_
  refine ⟨?_, rfl⟩
  rw [pk_andN (m := nI 255) (ml_eI_lt V.1 6 x) 8 (by decide)]
  rfl
theorem p_fo_designSize {g : fx_G} {S : Nat → Prop} {h : fx_H} {a nw : Nat} {b : Nat → Nat} {z : Int32} (H : fo S h a b nw z) (V : ml_v b nw) : fx_P g mX3_designSize 1 23 [.ref a] h (.int (nI (ml_e b 0 1))) := by
  obtain ⟨fs, h1⟩ := H.at
  refine fx_Met.of rfl (Nat.le_of_ble_eq_true rfl) ?_
  refine fx_aloadn dX3_designSize_0 rfl ?_
  refine fx_iconst (nI 0) dX3_designSize_1 (by decide) ?_
  refine fx_iconst (nI 1) dX3_designSize_2 (by decide) ?_
  refine fx_callVp dX3_designSize_3 vX3_wordAt kkX3_40 rfl rfl (by assumption) (p_fo_wordAt H V 0 (by decide) _) rfl (by decide) (by decide) rfl (Nat.le_of_ble_eq_true rfl) ?_
  refine fx_iret dX3_designSize_6 rfl ?_
  refine ⟨?_, rfl⟩
  rw [ml_eI_n 0 (by decide)]
theorem p_fo_tagOf {g : fx_G} {S : Nat → Prop} {h : fx_H} {a nw : Nat} {b : Nat → Nat} {z : Int32} (H : fo S h a b nw z) (V : ml_v b nw) (x : Int32) : fx_P g mX3_tagOf 1 21 [.ref a, .int x] h (.int (nI (ml_tag b x))) := by
  obtain ⟨fs, h1⟩ := H.at
  refine fx_Met.of rfl (Nat.le_of_ble_eq_true rfl) ?_
  refine fx_aloadn dX3_tagOf_0 rfl ?_
  refine fx_iloadn dX3_tagOf_1 rfl ?_
  refine fx_callVp dX3_tagOf_2 vX3_infoOf kkX3_46 rfl rfl (by assumption) (p_fo_infoOf H V _) rfl (by decide) (by decide) rfl (Nat.le_of_ble_eq_true rfl) ?_
  refine fx_bipush (nI 8) dX3_tagOf_5 (by decide) ?_
  refine fx_iushr dX3_tagOf_7 ?_
  refine fx_iconst (nI 3) dX3_tagOf_8 (by decide) ?_
  refine fx_iand dX3_tagOf_9 ?_
  refine fx_iret dX3_tagOf_10 rfl ?_
  refine ⟨?_, rfl⟩
  have q := ml_iI_lt V.1 x
  rw [pk_ushrN (ml_iI_lt V.1 x) (nI 8) 8 (by decide), pk_andN (m := nI 3) (by omega) 2 (by decide)]
  rfl
theorem p_fo_restOf {g : fx_G} {S : Nat → Prop} {h : fx_H} {a nw : Nat} {b : Nat → Nat} {z : Int32} (H : fo S h a b nw z) (V : ml_v b nw) (x : Int32) : fx_P g mX3_restOf 1 21 [.ref a, .int x] h (.int (nI (ml_rest b x))) := by
  obtain ⟨fs, h1⟩ := H.at
  refine fx_Met.of rfl (Nat.le_of_ble_eq_true rfl) ?_
  refine fx_aloadn dX3_restOf_0 rfl ?_
  refine fx_iloadn dX3_restOf_1 rfl ?_
  refine fx_callVp dX3_restOf_2 vX3_infoOf kkX3_46 rfl rfl (by assumption) (p_fo_infoOf H V _) rfl (by decide) (by decide) rfl (Nat.le_of_ble_eq_true rfl) ?_
  refine fx_sipush (nI 255) dX3_restOf_5 (by decide) ?_
  refine fx_iand dX3_restOf_8 ?_
  refine fx_iret dX3_restOf_9 rfl ?_
  refine ⟨?_, rfl⟩
  rw [pk_andN (m := nI 255) (ml_iI_lt V.1 x) 8 (by decide)]
  rfl
theorem p_fo_hasCharacter {g : fx_G} {S : Nat → Prop} {h : fx_H} {a nw : Nat} {b : Nat → Nat} {z : Int32} (H : fo S h a b nw z) (V : ml_v b nw) (x : Int32) : fx_P g mX3_hasCharacter 1 21 [.ref a, .int x] h (.int (bI (ml_iI b x ≠ 0))) := by
  obtain ⟨fs, h1⟩ := H.at
  refine fx_Met.of rfl (Nat.le_of_ble_eq_true rfl) ?_
  refine fx_aloadn dX3_hasCharacter_0 rfl ?_
  refine fx_iloadn dX3_hasCharacter_1 rfl ?_
  refine fx_callVp dX3_hasCharacter_2 vX3_infoOf kkX3_46 rfl rfl (by assumption) (p_fo_infoOf H V _) rfl (by decide) (by decide) rfl (Nat.le_of_ble_eq_true rfl) ?_
  refine fx_if_eq 12 dX3_hasCharacter_5 (by decide) (fun c5 => ?_) (fun c5 => ?_)
  · skip
    refine fx_iconst (nI 0) dX3_hasCharacter_12 (by decide) ?_
    refine fx_zret dX3_hasCharacter_13 rfl rfl ?_
    exact ⟨by rw [bI_f (fun q => q ((nI_eq0 (ml_iI_lt V.1 x)).mp c5))], rfl⟩
  · skip
    refine fx_iconst (nI 1) dX3_hasCharacter_8 (by decide) ?_
    refine fx_goto 13 dX3_hasCharacter_9 (by decide) ?_
    refine fx_zret dX3_hasCharacter_13 rfl rfl ?_
    exact ⟨by rw [bI_t (fun q => c5 (by rw [q]; rfl))], rfl⟩
theorem p_fo_isJump {g : fx_G} {S : Nat → Prop} {h : fx_H} {a nw : Nat} {b : Nat → Nat} {z : Int32} (H : fo S h a b nw z) (V : ml_v b nw) (x : Int32) : fx_P g mX3_isJump 2 44 [.ref a, .int x] h (.int (bI (128 < ml_s b x))) := by
  obtain ⟨fs, h1⟩ := H.at
  refine fx_Met.of rfl (Nat.le_of_ble_eq_true rfl) ?_
  refine fx_aloadn dX3_isJump_0 rfl ?_
  refine fx_iloadn dX3_isJump_1 rfl ?_
  refine fx_callVp dX3_isJump_2 vX3_skipOf kkX3_61 rfl rfl (by assumption) (p_fo_skipOf H V _) rfl (by decide) (by decide) rfl (Nat.le_of_ble_eq_true rfl) ?_
  refine fx_sipush (nI 128) dX3_isJump_5 (by decide) ?_
  refine fx_icmp_le 15 dX3_isJump_8 (by decide) (fun c8 => ?_) (fun c8 => ?_)
  · skip
    refine fx_iconst (nI 0) dX3_isJump_15 (by decide) ?_
    refine fx_zret dX3_isJump_16 rfl rfl ?_
    exact ⟨by rw [bI_f (fun q => nI_ge q (by have := ml_s_lt V.1 x; omega) c8)], rfl⟩
  · skip
    refine fx_iconst (nI 1) dX3_isJump_11 (by decide) ?_
    refine fx_goto 16 dX3_isJump_12 (by decide) ?_
    refine fx_zret dX3_isJump_16 rfl rfl ?_
    exact ⟨by rw [bI_t (Nat.lt_of_not_le (fun q => c8 (nI_le q (by decide))))], rfl⟩
theorem p_fo_isKern {g : fx_G} {S : Nat → Prop} {h : fx_H} {a nw : Nat} {b : Nat → Nat} {z : Int32} (H : fo S h a b nw z) (V : ml_v b nw) (x : Int32) : fx_P g mX3_isKern 2 44 [.ref a, .int x] h (.int (bI (128 ≤ ml_o b x))) := by
  obtain ⟨fs, h1⟩ := H.at
  refine fx_Met.of rfl (Nat.le_of_ble_eq_true rfl) ?_
  refine fx_aloadn dX3_isKern_0 rfl ?_
  refine fx_iloadn dX3_isKern_1 rfl ?_
  refine fx_callVp dX3_isKern_2 vX3_deedOf kkX3_64 rfl rfl (by assumption) (p_fo_deedOf H V _) rfl (by decide) (by decide) rfl (Nat.le_of_ble_eq_true rfl) ?_
  refine fx_sipush (nI 128) dX3_isKern_5 (by decide) ?_
  refine fx_icmp_lt 15 dX3_isKern_8 (by decide) (fun c8 => ?_) (fun c8 => ?_)
  · skip
    refine fx_iconst (nI 0) dX3_isKern_15 (by decide) ?_
    refine fx_zret dX3_isKern_16 rfl rfl ?_
    exact ⟨by rw [bI_f (fun q => nI_nlt q (by have := ml_o_lt (b := b) x; omega) c8)], rfl⟩
  · skip
    refine fx_iconst (nI 1) dX3_isKern_11 (by decide) ?_
    refine fx_goto 16 dX3_isKern_12 (by decide) ?_
    refine fx_zret dX3_isKern_16 rfl rfl ?_
    exact ⟨by rw [bI_t (Nat.le_of_not_lt (fun q => c8 (nI_lt q (by decide))))], rfl⟩
theorem p_fo_targetOf {g : fx_G} {S : Nat → Prop} {h : fx_H} {a nw : Nat} {b : Nat → Nat} {z : Int32} (H : fo S h a b nw z) (V : ml_v b nw) (x : Int32) : fx_P g mX3_targetOf 2 44 [.ref a, .int x] h (.int (nI (256 * ml_o b x + ml_r b x))) := by
  obtain ⟨fs, h1⟩ := H.at
  refine fx_Met.of rfl (Nat.le_of_ble_eq_true rfl) ?_
  refine fx_sipush (nI 256) dX3_targetOf_0 (by decide) ?_
  refine fx_aloadn dX3_targetOf_3 rfl ?_
  refine fx_iloadn dX3_targetOf_4 rfl ?_
  refine fx_callVp dX3_targetOf_5 vX3_deedOf kkX3_64 rfl rfl (by assumption) (p_fo_deedOf H V _) rfl (by decide) (by decide) rfl (Nat.le_of_ble_eq_true rfl) ?_
  refine fx_imul dX3_targetOf_8 ?_
  refine fx_aloadn dX3_targetOf_9 rfl ?_
  refine fx_iloadn dX3_targetOf_10 rfl ?_
  refine fx_callVp dX3_targetOf_11 vX3_remainderOf kkX3_67 rfl rfl (by assumption) (p_fo_remainderOf H V _) rfl (by decide) (by decide) rfl (Nat.le_of_ble_eq_true rfl) ?_
  refine fx_iadd dX3_targetOf_14 ?_
  refine fx_iret dX3_targetOf_15 rfl ?_
  exact ⟨by rw [pk_mul, nI_add], rfl⟩
theorem p_fo_kernPlaceOf {g : fx_G} {S : Nat → Prop} {h : fx_H} {a nw : Nat} {b : Nat → Nat} {z : Int32} (H : fo S h a b nw z) (V : ml_v b nw) (x : Int32) (hx : 128 ≤ ml_o b x) : fx_P g mX3_kernPlaceOf 2 44 [.ref a, .int x] h (.int (nI (256 * (ml_o b x - 128) + ml_r b x))) := by
  obtain ⟨fs, h1⟩ := H.at
  refine fx_Met.of rfl (Nat.le_of_ble_eq_true rfl) ?_
  refine fx_sipush (nI 256) dX3_kernPlaceOf_0 (by decide) ?_
  refine fx_aloadn dX3_kernPlaceOf_3 rfl ?_
  refine fx_iloadn dX3_kernPlaceOf_4 rfl ?_
  refine fx_callVp dX3_kernPlaceOf_5 vX3_deedOf kkX3_64 rfl rfl (by assumption) (p_fo_deedOf H V _) rfl (by decide) (by decide) rfl (Nat.le_of_ble_eq_true rfl) ?_
  refine fx_sipush (nI 128) dX3_kernPlaceOf_8 (by decide) ?_
  refine fx_isub dX3_kernPlaceOf_11 ?_
  refine fx_imul dX3_kernPlaceOf_12 ?_
  refine fx_aloadn dX3_kernPlaceOf_13 rfl ?_
  refine fx_iloadn dX3_kernPlaceOf_14 rfl ?_
  refine fx_callVp dX3_kernPlaceOf_15 vX3_remainderOf kkX3_67 rfl rfl (by assumption) (p_fo_remainderOf H V _) rfl (by decide) (by decide) rfl (Nat.le_of_ble_eq_true rfl) ?_
  refine fx_iadd dX3_kernPlaceOf_18 ?_
  refine fx_iret dX3_kernPlaceOf_19 rfl ?_
  exact ⟨by rw [pk_sub hx, pk_mul, nI_add], rfl⟩
end
section
/-! FontDesk$Font: the rest of its reads -/
def ml_pl (b : Nat → Nat) (x : Int32) (q : Nat) : Nat := if q = 0 then ml_iI b x / 16777216 else if q = 1 then ml_iI b x / 1048576 % 16 else if q = 2 then ml_iI b x / 65536 % 16 else ml_iI b x / 1024 % 64
def ml_sc (z x : Int32) : Int32 := ((x.toInt64 * z.toInt64) >>> ((nI 20).toInt64 &&& 63)).toInt32
def ml_ms (b : Nat → Nat) (z x : Int32) (q : Nat) : Int32 := if q = 4 then nI (ml_tag b x) else if q = 5 then (if ml_tag b x = 0 then nI 0 else nI (ml_rest b x)) else ml_sc z (nI (ml_e b (2 + q) (ml_pl b x q)))
/-- where the program of x begins: the step ahead of a jump, and behind it -/
def ml_pb (b : Nat → Nat) (x : Nat) : Int32 := if x = 256 then (if ml_s b (nI (ml_rl b 6) - nI 1) = 255 then nI (ml_rl b 6) - nI 1 else (-1)) else if ml_tag b (nI x) = 1 then nI (ml_rest b (nI x)) else (-1)
def ml_ju (b : Nat → Nat) (i : Int32) : Int32 := if 128 < ml_s b i then (if 128 < ml_s b (nI (256 * ml_o b i + ml_r b i)) then (-1) else nI (256 * ml_o b i + ml_r b i)) else i
def ml_ps (b : Nat → Nat) (x : Nat) : Int32 := ml_ju b (ml_pb b x)
def ml_nx (b : Nat → Nat) (i : Int32) : Int32 := if 128 ≤ ml_s b i then (-1) else i + nI (ml_s b i) + nI 1
def ml_seek (b : Nat → Nat) (y : Int32) : Nat → Int32 → Int32
  | 0, _ => -1
  | n + 1, i => if i = -1 then -1 else if ¬ 128 < ml_s b i ∧ nI (ml_n b i) = y then i else ml_seek b y n (ml_nx b i)
def ml_bd (b : Nat → Nat) : Int32 := if ml_s b (nI 0) = 255 then nI (ml_n b (nI 0)) else (-1)
def ml_cc (b : Nat → Nat) : Nat → Nat
  | 0 => 0
  | c + 1 => ml_cc b c + if ml_i b c = 0 then 0 else 1
theorem ml_cc_le (b : Nat → Nat) (c : Nat) : ml_cc b c ≤ c := by
  induction c with
  | zero => exact Nat.le_refl _
  | succ c ih =>
    unfold ml_cc
    split <;> omega
theorem ml_pl_lt {b : Nat → Nat} (hb : ∀ i, b i < 256) (x : Int32) (q : Nat) : ml_pl b x q < 256 := by
  have := ml_iI_lt hb x
  unfold ml_pl
  split
  · omega
  · split
    · omega
    · split <;> omega

theorem p_fo_placeOf {g : fx_G} {S : Nat → Prop} {h : fx_H} {a nw : Nat} {b : Nat → Nat} {z : Int32} (H : fo S h a b nw z) (V : ml_v b nw) (x : Int32) (q : Nat) (hq : q < 4) : fx_P g mX3_placeOf 1 21 [.ref a, .int x, .int (nI q)] h (.int (nI (ml_pl b x q))) := by
  obtain ⟨fs, h1⟩ := H.at
  refine fx_Met.of rfl (Nat.le_of_ble_eq_true rfl) ?_
  rcases (show q = 0 ∨ q = 1 ∨ q = 2 ∨ q = 3 by omega) with rfl | rfl | rfl | rfl
  · skip
    refine fx_aloadn dX3_placeOf_0 rfl ?_
    refine fx_iloadn dX3_placeOf_1 rfl ?_
    refine fx_callVp dX3_placeOf_2 vX3_infoOf kkX3_46 rfl rfl (by assumption) (p_fo_infoOf H V _) rfl (by decide) (by decide) rfl (Nat.le_of_ble_eq_true rfl) ?_
    refine fx_istoren dX3_placeOf_5 (by decide) ?_
    refine fx_iloadn dX3_placeOf_6 rfl ?_
    refine fx_tswIn 25 32 dX3_placeOf_7 (by decide) (by decide) rfl (by decide) ?_
    refine fx_iloadn dX3_placeOf_32 rfl ?_
    refine fx_bipush (nI 24) dX3_placeOf_33 (by decide) ?_
    refine fx_iushr dX3_placeOf_35 ?_
    refine fx_iret dX3_placeOf_36 rfl ?_
    refine ⟨?_, rfl⟩
    rw [pk_ushrN (ml_iI_lt V.1 x) (nI 24) 24 (by decide)]
    rfl
  · skip
    refine fx_aloadn dX3_placeOf_0 rfl ?_
    refine fx_iloadn dX3_placeOf_1 rfl ?_
    refine fx_callVp dX3_placeOf_2 vX3_infoOf kkX3_46 rfl rfl (by assumption) (p_fo_infoOf H V _) rfl (by decide) (by decide) rfl (Nat.le_of_ble_eq_true rfl) ?_
    refine fx_istoren dX3_placeOf_5 (by decide) ?_
    refine fx_iloadn dX3_placeOf_6 rfl ?_
    refine fx_tswIn 30 37 dX3_placeOf_7 (by decide) (by decide) rfl (by decide) ?_
    refine fx_iloadn dX3_placeOf_37 rfl ?_
    refine fx_bipush (nI 20) dX3_placeOf_38 (by decide) ?_
    refine fx_iushr dX3_placeOf_40 ?_
    refine fx_bipush (nI 15) dX3_placeOf_41 (by decide) ?_
    refine fx_iand dX3_placeOf_43 ?_
    refine fx_iret dX3_placeOf_44 rfl ?_
    refine ⟨?_, rfl⟩
    have q9 := ml_iI_lt V.1 x
    rw [pk_ushrN (ml_iI_lt V.1 x) (nI 20) 20 (by decide), pk_andN (m := nI 15) (by omega) 4 (by decide)]
    rfl
  · skip
    refine fx_aloadn dX3_placeOf_0 rfl ?_
    refine fx_iloadn dX3_placeOf_1 rfl ?_
    refine fx_callVp dX3_placeOf_2 vX3_infoOf kkX3_46 rfl rfl (by assumption) (p_fo_infoOf H V _) rfl (by decide) (by decide) rfl (Nat.le_of_ble_eq_true rfl) ?_
    refine fx_istoren dX3_placeOf_5 (by decide) ?_
    refine fx_iloadn dX3_placeOf_6 rfl ?_
    refine fx_tswIn 38 45 dX3_placeOf_7 (by decide) (by decide) rfl (by decide) ?_
    refine fx_iloadn dX3_placeOf_45 rfl ?_
    refine fx_bipush (nI 16) dX3_placeOf_46 (by decide) ?_
    refine fx_iushr dX3_placeOf_48 ?_
    refine fx_bipush (nI 15) dX3_placeOf_49 (by decide) ?_
    refine fx_iand dX3_placeOf_51 ?_
    refine fx_iret dX3_placeOf_52 rfl ?_
    refine ⟨?_, rfl⟩
    have q9 := ml_iI_lt V.1 x
    rw [pk_ushrN (ml_iI_lt V.1 x) (nI 16) 16 (by decide), pk_andN (m := nI 15) (by omega) 4 (by decide)]
    rfl
  · skip
    refine fx_aloadn dX3_placeOf_0 rfl ?_
    refine fx_iloadn dX3_placeOf_1 rfl ?_
    refine fx_callVp dX3_placeOf_2 vX3_infoOf kkX3_46 rfl rfl (by assumption) (p_fo_infoOf H V _) rfl (by decide) (by decide) rfl (Nat.le_of_ble_eq_true rfl) ?_
    refine fx_istoren dX3_placeOf_5 (by decide) ?_
    refine fx_iloadn dX3_placeOf_6 rfl ?_
    refine fx_tswOut 53 dX3_placeOf_7 (by decide) (by decide) ?_
    refine fx_iloadn dX3_placeOf_53 rfl ?_
    refine fx_bipush (nI 10) dX3_placeOf_54 (by decide) ?_
    refine fx_iushr dX3_placeOf_56 ?_
    refine fx_bipush (nI 63) dX3_placeOf_57 (by decide) ?_
    refine fx_iand dX3_placeOf_59 ?_
    refine fx_iret dX3_placeOf_60 rfl ?_
    refine ⟨?_, rfl⟩
    have q9 := ml_iI_lt V.1 x
    rw [pk_ushrN (ml_iI_lt V.1 x) (nI 10) 10 (by decide), pk_andN (m := nI 63) (by omega) 6 (by decide)]
    rfl

theorem p_fo_scaled {g : fx_G} {S : Nat → Prop} {h : fx_H} {a nw : Nat} {b : Nat → Nat} {z : Int32} (H : fo S h a b nw z) (V : ml_v b nw) (x : Int32) : fx_P g mX3_scaled 0 0 [.ref a, .int x] h (.int (ml_sc z x)) := by
  obtain ⟨pw, ps, pl, pi, fw, fs, fl, fi, h1, h2, h3, h4, h5, h6, h7, h8, -⟩ := id H
  refine fx_Met.of rfl (Nat.le_of_ble_eq_true rfl) ?_
  refine fx_iloadn dX3_scaled_0 rfl ?_
  refine fx_i2l dX3_scaled_1 ?_
  refine fx_aloadn dX3_scaled_2 rfl ?_
  refine fx_get dX3_scaled_3 ffX3_21 (by assumption) rfl ?_
  refine fx_i2l dX3_scaled_6 ?_
  refine fx_lmul dX3_scaled_7 ?_
  refine fx_bipush (nI 20) dX3_scaled_8 (by decide) ?_
  refine fx_lshr dX3_scaled_10 ?_
  refine fx_l2i dX3_scaled_11 ?_
  refine fx_iret dX3_scaled_12 rfl ?_
  exact ⟨rfl, rfl⟩
theorem p_fo_measure {g : fx_G} {S : Nat → Prop} {h : fx_H} {a nw : Nat} {b : Nat → Nat} {z : Int32} (H : fo S h a b nw z) (V : ml_v b nw) (x : Int32) (q : Nat) (hq : q < 6) : fx_P g mX3_measure 2 44 [.ref a, .int x, .int (nI q)] h (.int (ml_ms b z x q)) := by
  obtain ⟨fs, h1⟩ := H.at
  refine fx_Met.of rfl (Nat.le_of_ble_eq_true rfl) ?_
  rcases (show q = 4 ∨ q = 5 ∨ q < 4 by omega) with rfl | rfl | hq
  · skip
    refine fx_iloadn dX3_measure_0 rfl ?_
    refine fx_iconst (nI 4) dX3_measure_1 (by decide) ?_
    refine fx_icmp_ne 11 dX3_measure_2 (by decide) (fun c2 => absurd (rfl) c2) (fun c2 => ?_)
    refine fx_aloadn dX3_measure_5 rfl ?_
    refine fx_iloadn dX3_measure_6 rfl ?_
    refine fx_callVp dX3_measure_7 vX3_tagOf kkX3_49 rfl rfl (by assumption) (p_fo_tagOf H V _) rfl (by decide) (by decide) rfl (Nat.le_of_ble_eq_true rfl) ?_
    refine fx_iret dX3_measure_10 rfl ?_
    exact ⟨rfl, rfl⟩
  · skip
    refine fx_iloadn dX3_measure_0 rfl ?_
    refine fx_iconst (nI 4) dX3_measure_1 (by decide) ?_
    refine fx_icmp_ne 11 dX3_measure_2 (by decide) (fun c2 => ?_) (fun c2 => absurd c2 (by decide))
    refine fx_iloadn dX3_measure_11 rfl ?_
    refine fx_iconst (nI 5) dX3_measure_12 (by decide) ?_
    refine fx_icmp_ne 34 dX3_measure_13 (by decide) (fun c13 => absurd (rfl) c13) (fun c13 => ?_)
    refine fx_aloadn dX3_measure_16 rfl ?_
    refine fx_iloadn dX3_measure_17 rfl ?_
    refine fx_callVp dX3_measure_18 vX3_tagOf kkX3_49 rfl rfl (by assumption) (p_fo_tagOf H V _) rfl (by decide) (by decide) rfl (Nat.le_of_ble_eq_true rfl) ?_
    refine fx_if_ne 28 dX3_measure_21 (by decide) (fun c21 => ?_) (fun c21 => ?_)
    · skip
      refine fx_aloadn dX3_measure_28 rfl ?_
      refine fx_iloadn dX3_measure_29 rfl ?_
      refine fx_callVp dX3_measure_30 vX3_restOf kkX3_52 rfl rfl (by assumption) (p_fo_restOf H V _) rfl (by decide) (by decide) rfl (Nat.le_of_ble_eq_true rfl) ?_
      refine fx_iret dX3_measure_33 rfl ?_
      refine ⟨?_, rfl⟩
      unfold ml_ms
      rw [if_neg (by decide), if_pos rfl, if_neg (fun e => c21 (by rw [e]; rfl))]
    · skip
      refine fx_iconst (nI 0) dX3_measure_24 (by decide) ?_
      refine fx_goto 33 dX3_measure_25 (by decide) ?_
      refine fx_iret dX3_measure_33 rfl ?_
      refine ⟨?_, rfl⟩
      unfold ml_ms
      rw [if_neg (by decide), if_pos rfl, if_pos ((nI_eq0 (by have := ml_tag_lt (b := b) x; omega)).mp c21)]
  · skip
    refine fx_iloadn dX3_measure_0 rfl ?_
    refine fx_iconst (nI 4) dX3_measure_1 (by decide) ?_
    refine fx_icmp_ne 11 dX3_measure_2 (by decide) (fun c2 => ?_) (fun c2 => absurd c2 (fun e => absurd ((nI_eq (by omega) (by decide)).mp e) (by omega)))
    refine fx_iloadn dX3_measure_11 rfl ?_
    refine fx_iconst (nI 5) dX3_measure_12 (by decide) ?_
    refine fx_icmp_ne 34 dX3_measure_13 (by decide) (fun c13 => ?_) (fun c13 => absurd c13 (fun e => absurd ((nI_eq (by omega) (by decide)).mp e) (by omega)))
    refine fx_aloadn dX3_measure_34 rfl ?_
    refine fx_aloadn dX3_measure_35 rfl ?_
    refine fx_iconst (nI 2) dX3_measure_36 (by decide) ?_
    refine fx_iloadn dX3_measure_37 rfl ?_
    refine fx_iadd dX3_measure_38 ?_
    rw [nI_add]
    refine fx_aloadn dX3_measure_39 rfl ?_
    refine fx_iloadn dX3_measure_40 rfl ?_
    refine fx_iloadn dX3_measure_41 rfl ?_
    refine fx_callVp dX3_measure_42 vX3_placeOf kkX3_55 rfl rfl (by assumption) (p_fo_placeOf H V _ q (by omega)) rfl (by decide) (by decide) rfl (Nat.le_of_ble_eq_true rfl) ?_
    refine fx_callVp dX3_measure_45 vX3_wordAt kkX3_40 rfl rfl (by assumption) (p_fo_wordAt H V (2 + q) (by omega) _) rfl (by decide) (by decide) rfl (Nat.le_of_ble_eq_true rfl) ?_
    refine fx_callVp dX3_measure_48 vX3_scaled kkX3_58 rfl rfl (by assumption) (p_fo_scaled H V _) rfl (by decide) (by decide) rfl (Nat.le_of_ble_eq_true rfl) ?_
    refine fx_iret dX3_measure_51 rfl ?_
    refine ⟨?_, rfl⟩
    unfold ml_ms
    have q9 := ml_pl_lt V.1 x q
    rw [if_neg (by omega), if_neg (by omega), ml_eI_n _ (by omega)]
theorem p_fo_scaledParameter {g : fx_G} {S : Nat → Prop} {h : fx_H} {a nw : Nat} {b : Nat → Nat} {z : Int32} (H : fo S h a b nw z) (V : ml_v b nw) (x : Int32) : fx_P g mX3_scaledParameter 1 23 [.ref a, .int x] h (.int (if x = nI 1 then nI (ml_eI b 9 (x - nI 1)) >>> (nI 4 &&& 31) else ml_sc z (nI (ml_eI b 9 (x - nI 1))))) := by
  obtain ⟨fs, h1⟩ := H.at
  refine fx_Met.of rfl (Nat.le_of_ble_eq_true rfl) ?_
  refine fx_aloadn dX3_scaledParameter_0 rfl ?_
  refine fx_bipush (nI 9) dX3_scaledParameter_1 (by decide) ?_
  refine fx_iloadn dX3_scaledParameter_3 rfl ?_
  refine fx_iconst (nI 1) dX3_scaledParameter_4 (by decide) ?_
  refine fx_isub dX3_scaledParameter_5 ?_
  refine fx_callVp dX3_scaledParameter_6 vX3_wordAt kkX3_40 rfl rfl (by assumption) (p_fo_wordAt H V 9 (by decide) _) rfl (by decide) (by decide) rfl (Nat.le_of_ble_eq_true rfl) ?_
  refine fx_istoren dX3_scaledParameter_9 (by decide) ?_
  refine fx_iloadn dX3_scaledParameter_10 rfl ?_
  refine fx_iconst (nI 1) dX3_scaledParameter_11 (by decide) ?_
  refine fx_icmp_ne 21 dX3_scaledParameter_12 (by decide) (fun c12 => ?_) (fun c12 => ?_)
  · skip
    refine fx_aloadn dX3_scaledParameter_21 rfl ?_
    refine fx_iloadn dX3_scaledParameter_22 rfl ?_
    refine fx_callVp dX3_scaledParameter_23 vX3_scaled kkX3_58 rfl rfl (by assumption) (p_fo_scaled H V _) rfl (by decide) (by decide) rfl (Nat.le_of_ble_eq_true rfl) ?_
    refine fx_iret dX3_scaledParameter_26 rfl ?_
    exact ⟨by rw [if_neg c12], rfl⟩
  · skip
    refine fx_iloadn dX3_scaledParameter_15 rfl ?_
    refine fx_iconst (nI 4) dX3_scaledParameter_16 (by decide) ?_
    refine fx_ishr dX3_scaledParameter_17 ?_
    refine fx_goto 26 dX3_scaledParameter_18 (by decide) ?_
    refine fx_iret dX3_scaledParameter_26 rfl ?_
    exact ⟨by rw [if_pos c12], rfl⟩
theorem p_fo_scaledKern {g : fx_G} {S : Nat → Prop} {h : fx_H} {a nw : Nat} {b : Nat → Nat} {z : Int32} (H : fo S h a b nw z) (V : ml_v b nw) (x : Int32) (hx : 128 ≤ ml_o b x) : fx_P g mX3_scaledKern 3 65 [.ref a, .int x] h (.int (ml_sc z (nI (ml_e b 7 (256 * (ml_o b x - 128) + ml_r b x))))) := by
  obtain ⟨fs, h1⟩ := H.at
  refine fx_Met.of rfl (Nat.le_of_ble_eq_true rfl) ?_
  refine fx_aloadn dX3_scaledKern_0 rfl ?_
  refine fx_aloadn dX3_scaledKern_1 rfl ?_
  refine fx_bipush (nI 7) dX3_scaledKern_2 (by decide) ?_
  refine fx_aloadn dX3_scaledKern_4 rfl ?_
  refine fx_iloadn dX3_scaledKern_5 rfl ?_
  refine fx_callVp dX3_scaledKern_6 vX3_kernPlaceOf kkX3_70 rfl rfl (by assumption) (p_fo_kernPlaceOf H V _ hx) rfl (by decide) (by decide) rfl (Nat.le_of_ble_eq_true rfl) ?_
  refine fx_callVp dX3_scaledKern_9 vX3_wordAt kkX3_40 rfl rfl (by assumption) (p_fo_wordAt H V 7 (by decide) _) rfl (by decide) (by decide) rfl (Nat.le_of_ble_eq_true rfl) ?_
  refine fx_callVp dX3_scaledKern_12 vX3_scaled kkX3_58 rfl rfl (by assumption) (p_fo_scaled H V _) rfl (by decide) (by decide) rfl (Nat.le_of_ble_eq_true rfl) ?_
  refine fx_iret dX3_scaledKern_15 rfl ?_
  refine ⟨?_, rfl⟩
  have q1 := ml_o_lt (b := b) x
  have q2 := ml_r_lt (b := b) x
  rw [ml_eI_n 7 (by omega)]
theorem p_fo_boundary {g : fx_G} {S : Nat → Prop} {h : fx_H} {a nw : Nat} {b : Nat → Nat} {z : Int32} (H : fo S h a b nw z) (V : ml_v b nw) : fx_P g mX3_boundary 2 44 [.ref a] h (.int (ml_bd b)) := by
  obtain ⟨fs, h1⟩ := H.at
  refine fx_Met.of rfl (Nat.le_of_ble_eq_true rfl) ?_
  refine fx_aloadn dX3_boundary_0 rfl ?_
  refine fx_iconst (nI 0) dX3_boundary_1 (by decide) ?_
  refine fx_callVp dX3_boundary_2 vX3_skipOf kkX3_61 rfl rfl (by assumption) (p_fo_skipOf H V _) rfl (by decide) (by decide) rfl (Nat.le_of_ble_eq_true rfl) ?_
  refine fx_sipush (nI 255) dX3_boundary_5 (by decide) ?_
  refine fx_icmp_ne 19 dX3_boundary_8 (by decide) (fun c8 => ?_) (fun c8 => ?_)
  · skip
    refine fx_iconst (-1) dX3_boundary_19 (by decide) ?_
    refine fx_iret dX3_boundary_20 rfl ?_
    refine ⟨?_, rfl⟩
    unfold ml_bd
    rw [if_neg (fun e => c8 (by rw [e]))]
  · skip
    refine fx_aloadn dX3_boundary_11 rfl ?_
    refine fx_iconst (nI 0) dX3_boundary_12 (by decide) ?_
    refine fx_callVp dX3_boundary_13 vX3_signOf kkX3_73 rfl rfl (by assumption) (p_fo_signOf H V _) rfl (by decide) (by decide) rfl (Nat.le_of_ble_eq_true rfl) ?_
    refine fx_goto 20 dX3_boundary_16 (by decide) ?_
    refine fx_iret dX3_boundary_20 rfl ?_
    refine ⟨?_, rfl⟩
    unfold ml_bd
    rw [if_pos ((nI_eq (by have := ml_s_lt V.1 (nI 0); omega) (by decide)).mp c8)]
theorem p_fo_nextStep {g : fx_G} {S : Nat → Prop} {h : fx_H} {a nw : Nat} {b : Nat → Nat} {z : Int32} (H : fo S h a b nw z) (V : ml_v b nw) (x : Int32) : fx_P g mX3_nextStep 2 44 [.ref a, .int x] h (.int (ml_nx b x)) := by
  obtain ⟨fs, h1⟩ := H.at
  refine fx_Met.of rfl (Nat.le_of_ble_eq_true rfl) ?_
  refine fx_aloadn dX3_nextStep_0 rfl ?_
  refine fx_iloadn dX3_nextStep_1 rfl ?_
  refine fx_callVp dX3_nextStep_2 vX3_skipOf kkX3_61 rfl rfl (by assumption) (p_fo_skipOf H V _) rfl (by decide) (by decide) rfl (Nat.le_of_ble_eq_true rfl) ?_
  refine fx_istoren dX3_nextStep_5 (by decide) ?_
  refine fx_iloadn dX3_nextStep_6 rfl ?_
  refine fx_sipush (nI 128) dX3_nextStep_7 (by decide) ?_
  refine fx_icmp_lt 17 dX3_nextStep_10 (by decide) (fun c10 => ?_) (fun c10 => ?_)
  · skip
    refine fx_iloadn dX3_nextStep_17 rfl ?_
    refine fx_iloadn dX3_nextStep_18 rfl ?_
    refine fx_iadd dX3_nextStep_19 ?_
    refine fx_iconst (nI 1) dX3_nextStep_20 (by decide) ?_
    refine fx_iadd dX3_nextStep_21 ?_
    refine fx_iret dX3_nextStep_22 rfl ?_
    refine ⟨?_, rfl⟩
    unfold ml_nx
    rw [if_neg (fun e => nI_nlt e (by have := ml_s_lt V.1 x; omega) c10)]
  · skip
    refine fx_iconst (-1) dX3_nextStep_13 (by decide) ?_
    refine fx_goto 22 dX3_nextStep_14 (by decide) ?_
    refine fx_iret dX3_nextStep_22 rfl ?_
    refine ⟨?_, rfl⟩
    unfold ml_nx
    rw [if_pos (Nat.le_of_not_lt (fun e => c10 (nI_lt e (by decide))))]
theorem p_fo_ps2 {g : fx_G} {S : Nat → Prop} {h : fx_H} {a nw : Nat} {b : Nat → Nat} {z : Int32} (H : fo S h a b nw z) (V : ml_v b nw) (x i : Int32) (lv : List (Nat × Value)) (hl : fx_le [(0, .ref a), (2, .int i)] lv) : fx_Y g mX3_programStart 3 65 (fun r h' => r = some (.int (ml_ju b i)) ∧ h' = h) (fun _ _ => False) 53 lv [] h 0 0 := by
  obtain ⟨fs, h1⟩ := H.at
  refine fx_sub _ hl ?_
  refine fx_aloadn dX3_programStart_53 rfl ?_
  refine fx_iloadn dX3_programStart_54 rfl ?_
  refine fx_callVp dX3_programStart_55 vX3_isJump kkX3_79 rfl rfl (by assumption) (p_fo_isJump H V _) rfl (by decide) (by decide) rfl (Nat.le_of_ble_eq_true rfl) ?_
  refine fx_if_ne 63 dX3_programStart_58 (by decide) (fun c58 => ?_) (fun c58 => ?_)
  · skip
    refine fx_aloadn dX3_programStart_63 rfl ?_
    refine fx_iloadn dX3_programStart_64 rfl ?_
    refine fx_callVp dX3_programStart_65 vX3_targetOf kkX3_83 rfl rfl (by assumption) (p_fo_targetOf H V _) rfl (by decide) (by decide) rfl (Nat.le_of_ble_eq_true rfl) ?_
    refine fx_istoren dX3_programStart_68 (by decide) ?_
    refine fx_aloadn dX3_programStart_69 rfl ?_
    refine fx_iloadn dX3_programStart_70 rfl ?_
    refine fx_callVp dX3_programStart_71 vX3_isJump kkX3_79 rfl rfl (by assumption) (p_fo_isJump H V _) rfl (by decide) (by decide) rfl (Nat.le_of_ble_eq_true rfl) ?_
    refine fx_if_eq 81 dX3_programStart_74 (by decide) (fun c74 => ?_) (fun c74 => ?_)
    · skip
      refine fx_iloadn dX3_programStart_81 rfl ?_
      refine fx_iret dX3_programStart_82 rfl ?_
      refine ⟨?_, rfl⟩
      unfold ml_ju
      rw [if_pos (bI_n0.mp c58), if_neg (bI_0.mp c74)]
    · skip
      refine fx_iconst (-1) dX3_programStart_77 (by decide) ?_
      refine fx_goto 82 dX3_programStart_78 (by decide) ?_
      refine fx_iret dX3_programStart_82 rfl ?_
      refine ⟨?_, rfl⟩
      unfold ml_ju
      rw [if_pos (bI_n0.mp c58), if_pos (bI_n0.mp c74)]
  · skip
    refine fx_iloadn dX3_programStart_61 rfl ?_
    refine fx_iret dX3_programStart_62 rfl ?_
    refine ⟨?_, rfl⟩
    unfold ml_ju
    rw [if_neg (bI_0.mp c58)]
theorem p_fo_programStart {g : fx_G} {S : Nat → Prop} {h : fx_H} {a nw : Nat} {b : Nat → Nat} {z : Int32} (H : fo S h a b nw z) (V : ml_v b nw) (x : Nat) (hx : x ≤ 256) : fx_P g mX3_programStart 3 65 [.ref a, .int (nI x)] h (.int (ml_ps b x)) := by
  obtain ⟨fs, h1⟩ := H.at
  refine fx_Met.of rfl (Nat.le_of_ble_eq_true rfl) ?_
  refine fx_iconst (-1) dX3_programStart_0 (by decide) ?_
  refine fx_istoren dX3_programStart_1 (by decide) ?_
  refine fx_iloadn dX3_programStart_2 rfl ?_
  refine fx_sipush (nI 256) dX3_programStart_3 (by decide) ?_
  refine fx_icmp_ne 38 dX3_programStart_6 (by decide) (fun c6 => ?_) (fun c6 => ?_)
  · skip
    refine fx_aloadn dX3_programStart_38 rfl ?_
    refine fx_iloadn dX3_programStart_39 rfl ?_
    refine fx_callVp dX3_programStart_40 vX3_tagOf kkX3_49 rfl rfl (by assumption) (p_fo_tagOf H V _) rfl (by decide) (by decide) rfl (Nat.le_of_ble_eq_true rfl) ?_
    refine fx_iconst (nI 1) dX3_programStart_43 (by decide) ?_
    refine fx_icmp_ne 53 dX3_programStart_44 (by decide) (fun c44 => ?_) (fun c44 => ?_)
    · skip
      have e1 : ml_pb b x = (-1) := by
        unfold ml_pb
        rw [if_neg (fun e => c6 (by rw [e])), if_neg (fun e => c44 (by rw [e]))]
      show fx_Y g mX3_programStart 3 65 (fun r h' => r = some (.int (ml_ju b (ml_pb b x))) ∧ h' = h) (fun _ _ => False) 53 _ [] h 0 0
      rw [e1]
      exact p_fo_ps2 H V (nI x) _ _ ⟨rfl, rfl, trivial⟩
    · skip
      refine fx_aloadn dX3_programStart_47 rfl ?_
      refine fx_iloadn dX3_programStart_48 rfl ?_
      refine fx_callVp dX3_programStart_49 vX3_restOf kkX3_52 rfl rfl (by assumption) (p_fo_restOf H V _) rfl (by decide) (by decide) rfl (Nat.le_of_ble_eq_true rfl) ?_
      refine fx_istoren dX3_programStart_52 (by decide) ?_
      have e1 : ml_pb b x = nI (ml_rest b (nI x)) := by
        unfold ml_pb
        rw [if_neg (fun e => c6 (by rw [e])), if_pos ((nI_eq (by have := ml_tag_lt (b := b) (nI x); omega) (by decide)).mp c44)]
      show fx_Y g mX3_programStart 3 65 (fun r h' => r = some (.int (ml_ju b (ml_pb b x))) ∧ h' = h) (fun _ _ => False) 53 _ [] h 0 0
      rw [e1]
      exact p_fo_ps2 H V (nI x) _ _ ⟨rfl, rfl, trivial⟩
  · skip
    refine fx_aloadn dX3_programStart_9 rfl ?_
    refine fx_bipush (nI 6) dX3_programStart_10 (by decide) ?_
    refine fx_callVp dX3_programStart_12 vX3_rowLength kkX3_76 rfl rfl (by assumption) (p_fo_rowLength H V 6 (by decide)) rfl (by decide) (by decide) rfl (Nat.le_of_ble_eq_true rfl) ?_
    refine fx_iconst (nI 1) dX3_programStart_15 (by decide) ?_
    refine fx_isub dX3_programStart_16 ?_
    refine fx_istoren dX3_programStart_17 (by decide) ?_
    refine fx_aloadn dX3_programStart_18 rfl ?_
    refine fx_iloadn dX3_programStart_19 rfl ?_
    refine fx_callVp dX3_programStart_20 vX3_skipOf kkX3_61 rfl rfl (by assumption) (p_fo_skipOf H V _) rfl (by decide) (by decide) rfl (Nat.le_of_ble_eq_true rfl) ?_
    refine fx_sipush (nI 255) dX3_programStart_23 (by decide) ?_
    refine fx_icmp_ne 33 dX3_programStart_26 (by decide) (fun c26 => ?_) (fun c26 => ?_)
    · skip
      refine fx_iconst (-1) dX3_programStart_33 (by decide) ?_
      refine fx_istoren dX3_programStart_34 (by decide) ?_
      refine fx_goto 53 dX3_programStart_35 (by decide) ?_
      have e1 : ml_pb b x = (-1) := by
        unfold ml_pb
        rw [if_pos ((nI_eq (by omega) (by decide)).mp c6), if_neg (fun e => c26 (by rw [e]))]
      show fx_Y g mX3_programStart 3 65 (fun r h' => r = some (.int (ml_ju b (ml_pb b x))) ∧ h' = h) (fun _ _ => False) 53 _ [] h 0 0
      rw [e1]
      exact p_fo_ps2 H V (nI x) _ _ ⟨rfl, rfl, trivial⟩
    · skip
      refine fx_iloadn dX3_programStart_29 rfl ?_
      refine fx_goto 34 dX3_programStart_30 (by decide) ?_
      refine fx_istoren dX3_programStart_34 (by decide) ?_
      refine fx_goto 53 dX3_programStart_35 (by decide) ?_
      have e1 : ml_pb b x = nI (ml_rl b 6) - nI 1 := by
        unfold ml_pb
        rw [if_pos ((nI_eq (by omega) (by decide)).mp c6), if_pos ((nI_eq (by have := ml_s_lt V.1 (nI (ml_rl b 6) - nI 1); omega) (by decide)).mp c26)]
      show fx_Y g mX3_programStart 3 65 (fun r h' => r = some (.int (ml_ju b (ml_pb b x))) ∧ h' = h) (fun _ _ => False) 53 _ [] h 0 0
      rw [e1]
      exact p_fo_ps2 H V (nI x) _ _ ⟨rfl, rfl, trivial⟩
theorem l_fo_stepFor {g : fx_G} {S : Nat → Prop} {h : fx_H} {a nw : Nat} {b : Nat → Nat} {z : Int32} (H : fo S h a b nw z) (V : ml_v b nw) (x y v : Int32) : ∀ (n k : Nat) (i : Int32), k + n = ml_rl b 6 → ml_seek b y n i = v → fx_Y g mX3_stepFor 4 88 (fun r h' => r = some (.int v) ∧ h' = h) (fun _ _ => False) 9 [(0, .ref a), (1, .int x), (2, .int y), (3, .int i), (4, .int (nI k))] [] h 0 0 := by
  obtain ⟨fs, h1⟩ := H.at
  intro n
  induction n using Nat.strongRecOn with
  | ind n ih =>
  intro k i hk hv
  refine fx_iload dX3_stepFor_9 rfl ?_
  refine fx_aloadn dX3_stepFor_11 rfl ?_
  refine fx_bipush (nI 6) dX3_stepFor_12 (by decide) ?_
  refine fx_callVp dX3_stepFor_14 vX3_rowLength kkX3_76 rfl rfl (by assumption) (p_fo_rowLength H V 6 (by decide)) rfl (by decide) (by decide) rfl (Nat.le_of_ble_eq_true rfl) ?_
  refine fx_icmp_ge 56 dX3_stepFor_17 (by decide) (fun c17 => ?_) (fun c17 => ?_)
  · skip
    refine fx_iconst (-1) dX3_stepFor_56 (by decide) ?_
    refine fx_iret dX3_stepFor_57 rfl ?_
    refine ⟨?_, rfl⟩
    rw [← hv]
    have : n = 0 := by
      have q1 := V.rl (r := 6) (by decide)
      by_cases q : n = 0
      · exact q
      · exact absurd c17 (nI_ge (show k < ml_rl b 6 by omega) (by omega))
    subst this
    rfl
  · skip
    refine fx_iloadn dX3_stepFor_20 rfl ?_
    refine fx_iconst (-1) dX3_stepFor_21 (by decide) ?_
    refine fx_icmp_eq 56 dX3_stepFor_22 (by decide) (fun c22 => ?_) (fun c22 => ?_)
    · skip
      refine fx_iconst (-1) dX3_stepFor_56 (by decide) ?_
      refine fx_iret dX3_stepFor_57 rfl ?_
      refine ⟨?_, rfl⟩
      rw [← hv]
      cases n with
      | zero => rfl
      | succ n => exact congrArg (fun x => some (Value.int x)) (if_pos c22).symm
    · skip
      refine fx_aloadn dX3_stepFor_25 rfl ?_
      refine fx_iloadn dX3_stepFor_26 rfl ?_
      refine fx_callVp dX3_stepFor_27 vX3_isJump kkX3_79 rfl rfl (by assumption) (p_fo_isJump H V _) rfl (by decide) (by decide) rfl (Nat.le_of_ble_eq_true rfl) ?_
      refine fx_if_ne 44 dX3_stepFor_30 (by decide) (fun c30 => ?_) (fun c30 => ?_)
      · skip
        refine fx_aloadn dX3_stepFor_44 rfl ?_
        refine fx_iloadn dX3_stepFor_45 rfl ?_
        refine fx_callVp dX3_stepFor_46 vX3_nextStep kkX3_89 rfl rfl (by assumption) (p_fo_nextStep H V _) rfl (by decide) (by decide) rfl (Nat.le_of_ble_eq_true rfl) ?_
        refine fx_istoren dX3_stepFor_49 (by decide) ?_
        refine fx_iinc (nI 1) dX3_stepFor_50 rfl (by decide) (by decide) ?_
        refine fx_goto 9 dX3_stepFor_53 (by decide) ?_
        cases n with
        | zero => exact absurd (nI_le (by omega) (by have := V.rl (r := 6) (by decide); omega)) c17
        | succ n =>
          simp only [nI_add]
          refine fx_to (ih n (by omega) (k + 1) _ (by omega) ?_) ⟨rfl, rfl, rfl, rfl, rfl, trivial⟩
          rw [← hv]
          show _ = ml_seek b y (n + 1) i
          conv => rhs; unfold ml_seek
          rw [if_neg c22, if_neg (fun e => e.1 (bI_n0.mp c30))]
      · skip
        refine fx_aloadn dX3_stepFor_33 rfl ?_
        refine fx_iloadn dX3_stepFor_34 rfl ?_
        refine fx_callVp dX3_stepFor_35 vX3_signOf kkX3_73 rfl rfl (by assumption) (p_fo_signOf H V _) rfl (by decide) (by decide) rfl (Nat.le_of_ble_eq_true rfl) ?_
        refine fx_iloadn dX3_stepFor_38 rfl ?_
        refine fx_icmp_ne 44 dX3_stepFor_39 (by decide) (fun c39 => ?_) (fun c39 => ?_)
        · skip
          refine fx_aloadn dX3_stepFor_44 rfl ?_
          refine fx_iloadn dX3_stepFor_45 rfl ?_
          refine fx_callVp dX3_stepFor_46 vX3_nextStep kkX3_89 rfl rfl (by assumption) (p_fo_nextStep H V _) rfl (by decide) (by decide) rfl (Nat.le_of_ble_eq_true rfl) ?_
          refine fx_istoren dX3_stepFor_49 (by decide) ?_
          refine fx_iinc (nI 1) dX3_stepFor_50 rfl (by decide) (by decide) ?_
          refine fx_goto 9 dX3_stepFor_53 (by decide) ?_
          cases n with
          | zero => exact absurd (nI_le (by omega) (by have := V.rl (r := 6) (by decide); omega)) c17
          | succ n =>
            simp only [nI_add]
            refine fx_to (ih n (by omega) (k + 1) _ (by omega) ?_) ⟨rfl, rfl, rfl, rfl, rfl, trivial⟩
            rw [← hv]
            show _ = ml_seek b y (n + 1) i
            conv => rhs; unfold ml_seek
            rw [if_neg c22, if_neg (fun e => c39 e.2)]
        · skip
          refine fx_iloadn dX3_stepFor_42 rfl ?_
          refine fx_iret dX3_stepFor_43 rfl ?_
          refine ⟨?_, rfl⟩
          rw [← hv]
          cases n with
          | zero => exact absurd (nI_le (by omega) (by have := V.rl (r := 6) (by decide); omega)) c17
          | succ n =>
            unfold ml_seek
            rw [if_neg c22, if_pos ⟨bI_0.mp c30, c39⟩]
theorem p_fo_stepFor {g : fx_G} {S : Nat → Prop} {h : fx_H} {a nw : Nat} {b : Nat → Nat} {z : Int32} (H : fo S h a b nw z) (V : ml_v b nw) (x : Nat) (hx : x ≤ 256) (y : Int32) : fx_P g mX3_stepFor 4 88 [.ref a, .int (nI x), .int y] h (.int (ml_seek b y (ml_rl b 6) (ml_ps b x))) := by
  obtain ⟨fs, h1⟩ := H.at
  refine fx_Met.of rfl (Nat.le_of_ble_eq_true rfl) ?_
  refine fx_aloadn dX3_stepFor_0 rfl ?_
  refine fx_iloadn dX3_stepFor_1 rfl ?_
  refine fx_callVp dX3_stepFor_2 vX3_programStart kkX3_86 rfl rfl (by assumption) (p_fo_programStart H V x hx) rfl (by decide) (by decide) rfl (Nat.le_of_ble_eq_true rfl) ?_
  refine fx_istoren dX3_stepFor_5 (by decide) ?_
  refine fx_iconst (nI 0) dX3_stepFor_6 (by decide) ?_
  refine fx_istore dX3_stepFor_7 (by decide) ?_
  exact fx_to (l_fo_stepFor H V (nI x) y _ (ml_rl b 6) 0 _ (by omega) rfl) ⟨rfl, rfl, rfl, rfl, rfl, trivial⟩
theorem l_fo_cc {g : fx_G} {S : Nat → Prop} {h : fx_H} {a nw : Nat} {b : Nat → Nat} {z : Int32} (H : fo S h a b nw z) (V : ml_v b nw) : ∀ (n c : Nat), c + n = 256 → fx_Y g mX3_characterCount 0 0 (fun r h' => r = some (.int (nI (ml_cc b 256))) ∧ h' = h) (fun _ _ => False) 4 [(0, .ref a), (1, .int (nI (ml_cc b c))), (2, .int (nI c))] [] h 0 0 := by
  obtain ⟨pw, ps, pl, pi, fw, fs, fl, fi, h1, h2, h3, h4, h5, h6, h7, h8, -⟩ := id H
  intro n
  induction n using Nat.strongRecOn with
  | ind n ih =>
  intro c hn
  refine fx_iloadn dX3_characterCount_4 rfl ?_
  refine fx_sipush (nI 256) dX3_characterCount_5 (by decide) ?_
  refine fx_icmp_ge 29 dX3_characterCount_8 (by decide) (fun c8 => ?_) (fun c8 => ?_)
  · skip
    refine fx_iloadn dX3_characterCount_29 rfl ?_
    refine fx_iret dX3_characterCount_30 rfl ?_
    refine ⟨?_, rfl⟩
    have : n = 0 := by
      by_cases q : n = 0
      · exact q
      · exact absurd c8 (nI_ge (show c < 256 by omega) (by decide))
    rw [show c = 256 by omega]
  · skip
    refine fx_aloadn dX3_characterCount_11 rfl ?_
    refine fx_get dX3_characterCount_12 ffX3_18 (by assumption) rfl ?_
    refine fx_iloadn dX3_characterCount_15 rfl ?_
    have hc : c < 256 := Nat.lt_of_not_le (fun q => c8 (nI_le q (by omega)))
    refine fx_iald dX3_characterCount_16 (by assumption) (vp_in_nI hc (by decide)) ?_
    rw [nI_clamp (by omega), h8 c hc]
    refine fx_if_eq 23 dX3_characterCount_17 (by decide) (fun c17 => ?_) (fun c17 => ?_)
    · skip
      refine fx_iinc (nI 1) dX3_characterCount_23 rfl (by decide) (by decide) ?_
      refine fx_goto 4 dX3_characterCount_26 (by decide) ?_
      simp only [nI_add]
      refine fx_sub [(0, .ref a), (1, .int (nI (ml_cc b (c + 1)))), (2, .int (nI (c + 1)))] ⟨rfl, by show _ = some (Value.int (nI (ml_cc b c + if ml_i b c = 0 then 0 else 1))); rw [if_pos ((nI_eq0 (ml_i_lt V.1 c)).mp c17)]; rfl, rfl, trivial⟩ (ih (n - 1) (by omega) (c + 1) (by omega))
    · skip
      refine fx_iinc (nI 1) dX3_characterCount_20 rfl (by decide) (by decide) ?_
      refine fx_iinc (nI 1) dX3_characterCount_23 rfl (by decide) (by decide) ?_
      refine fx_goto 4 dX3_characterCount_26 (by decide) ?_
      simp only [nI_add]
      refine fx_sub [(0, .ref a), (1, .int (nI (ml_cc b (c + 1)))), (2, .int (nI (c + 1)))] ⟨rfl, by show some (Value.int (nI (ml_cc b c + 1))) = some (Value.int (nI (ml_cc b c + if ml_i b c = 0 then 0 else 1))); rw [if_neg (fun e => c17 (by rw [e]; rfl))], rfl, trivial⟩ (ih (n - 1) (by omega) (c + 1) (by omega))
theorem p_fo_characterCount {g : fx_G} {S : Nat → Prop} {h : fx_H} {a nw : Nat} {b : Nat → Nat} {z : Int32} (H : fo S h a b nw z) (V : ml_v b nw) : fx_P g mX3_characterCount 0 0 [.ref a] h (.int (nI (ml_cc b 256))) := by
  obtain ⟨fs, h1⟩ := H.at
  refine fx_Met.of rfl (Nat.le_of_ble_eq_true rfl) ?_
  refine fx_iconst (nI 0) dX3_characterCount_0 (by decide) ?_
  refine fx_istoren dX3_characterCount_1 (by decide) ?_
  refine fx_iconst (nI 0) dX3_characterCount_2 (by decide) ?_
  refine fx_istoren dX3_characterCount_3 (by decide) ?_
  exact fx_to (l_fo_cc H V 256 0 rfl) ⟨rfl, rfl, rfl, trivial⟩
def ml_ty (b : Nat → Nat) (nw : Nat) (z : Int32) (q : Nat) : Int32 := if q = 2 then nI nw else if q = 3 then nI (ml_cc b 256) else if q = 4 then z else ml_bd b
theorem p_fo_tally {g : fx_G} {S : Nat → Prop} {h : fx_H} {a nw : Nat} {b : Nat → Nat} {z : Int32} (H : fo S h a b nw z) (V : ml_v b nw) (q : Nat) (h2q : 2 ≤ q) (hq : q ≤ 5) : fx_P g mX3_tally 3 64 [.ref a, .int (nI q)] h (.int (ml_ty b nw z q)) := by
  obtain ⟨pw, ps, pl, pi, fw, fs, fl, fi, h1, h2, h3, h4, h5, h6, h7, h8, -⟩ := id H
  refine fx_Met.of rfl (Nat.le_of_ble_eq_true rfl) ?_
  rcases (show q = 2 ∨ q = 3 ∨ q = 4 ∨ q = 5 by omega) with rfl | rfl | rfl | rfl
  · skip
    refine fx_iloadn dX3_tally_0 rfl ?_
    refine fx_tswIn 27 28 dX3_tally_1 (by decide) (by decide) rfl (by decide) ?_
    refine fx_aloadn dX3_tally_28 rfl ?_
    refine fx_get dX3_tally_29 ffX3_30 (by assumption) rfl ?_
    refine fx_alenI dX3_tally_32 (by assumption) (by decide) ?_
    refine fx_iret dX3_tally_33 rfl ?_
    exact ⟨rfl, rfl⟩
  · skip
    refine fx_iloadn dX3_tally_0 rfl ?_
    refine fx_tswIn 33 34 dX3_tally_1 (by decide) (by decide) rfl (by decide) ?_
    refine fx_aloadn dX3_tally_34 rfl ?_
    refine fx_callVp dX3_tally_35 vX3_characterCount kkX3_92 rfl rfl (by assumption) (p_fo_characterCount H V) rfl (by decide) (by decide) rfl (Nat.le_of_ble_eq_true rfl) ?_
    refine fx_iret dX3_tally_38 rfl ?_
    exact ⟨rfl, rfl⟩
  · skip
    refine fx_iloadn dX3_tally_0 rfl ?_
    refine fx_tswIn 38 39 dX3_tally_1 (by decide) (by decide) rfl (by decide) ?_
    refine fx_aloadn dX3_tally_39 rfl ?_
    refine fx_get dX3_tally_40 ffX3_21 (by assumption) rfl ?_
    refine fx_iret dX3_tally_43 rfl ?_
    exact ⟨rfl, rfl⟩
  · skip
    refine fx_iloadn dX3_tally_0 rfl ?_
    refine fx_tswOut 44 dX3_tally_1 (by decide) (by decide) ?_
    refine fx_aloadn dX3_tally_44 rfl ?_
    refine fx_callVp dX3_tally_45 vX3_boundary kkX3_95 rfl rfl (by assumption) (p_fo_boundary H V) rfl (by decide) (by decide) rfl (Nat.le_of_ble_eq_true rfl) ?_
    refine fx_iret dX3_tally_48 rfl ?_
    exact ⟨rfl, rfl⟩
end
section
/-! FontDeskModel: its reads of the file -/
/-- the reference at a: from its base on stand the bytes b, lim of them -/
def rd (h : fx_H) (a : Nat) (b : Nat → Nat) (lim : Nat) : Prop := ∃ (F : List Value) (pb ba : Nat) (f : Nat → Int32), h a = some (.inr (5, F)) ∧ F[1]? = some (.ref pb) ∧ F[7]? = some (.int (nI ba)) ∧ h pb = some (.inl (0, 40000, .inl f)) ∧ ba + lim ≤ 40000 ∧ ∀ i, i < lim → f (ba + i) = nI (b i)
theorem rd.at {h : fx_H} {a : Nat} {b : Nat → Nat} {lim : Nat} (D : rd h a b lim) : ∃ fs : List Value, h a = some (.inr (5, fs)) := by
  obtain ⟨F, pb, ba, f, h1, -⟩ := D
  exact ⟨_, h1⟩
/-- what holds as soon as the halves are small -/
def ml_w (b : Nat → Nat) : Prop := (∀ i, b i < 256) ∧ (∀ k, k < 12 → ml_H b k < 32768) ∧ ml_H b 2 ≤ ml_H b 3 + 1
theorem ml_v.w {b : Nat → Nat} {nw : Nat} (V : ml_v b nw) : ml_w b := ⟨V.1, V.2.2.2.1, V.2.2.2.2.2.2.1⟩
theorem ml_v.six {b : Nat → Nat} {nw : Nat} (V : ml_v b nw) : 6 ≤ nw := by
  have := V.2.1
  omega
theorem nI_chars {x y : Nat} (h : y ≤ x + 1) : nI x - nI y + nI 1 = nI (x + 1 - y) := by
  have e : nI x - nI y + nI 1 = nI (x + 1) - nI y := by
    rw [← nI_add]
    rw [Int32.sub_eq_add_neg, Int32.sub_eq_add_neg, Int32.add_assoc, Int32.add_comm (-nI y), Int32.add_assoc]
  rw [e, pk_sub h]
theorem ml_rl_lt {b : Nat → Nat} (V : ml_w b) {r : Nat} (hr : r < 10) : ml_rl b r < 32769 := by
  unfold ml_rl
  have h1 := V.2.1 1 (by decide)
  have h3 := V.2.1 3 (by decide)
  have h4 := V.2.1 (r + 2) (by omega)
  split
  · omega
  · split <;> omega
theorem ml_st_lt {b : Nat → Nat} (V : ml_w b) {r : Nat} (hr : r ≤ 10) : ml_st b r ≤ 6 + 32769 * r := by
  induction r with
  | zero => exact Nat.le_refl _
  | succ r ih =>
    have h1 := ih (by omega)
    have h2 := ml_rl_lt V (show r < 10 by omega)
    unfold ml_st
    omega
theorem ml_b0 {b : Nat → Nat} (hb : ∀ i, b i < 256) (n : Nat) : ml_W b n / 16777216 = b (4 * n) := by
  have h0 := hb (4 * n)
  have h1 := hb (4 * n + 1)
  have h2 := hb (4 * n + 2)
  have h3 := hb (4 * n + 3)
  unfold ml_W ml_H
  rw [show 2 * (2 * n) = 4 * n by omega, show 2 * (2 * n + 1) = 4 * n + 2 by omega, show 4 * n + 2 + 1 = 4 * n + 3 by omega]
  omega
theorem ml_b1 {b : Nat → Nat} (hb : ∀ i, b i < 256) (n : Nat) : ml_W b n / 65536 % 256 = b (4 * n + 1) := by
  have h0 := hb (4 * n)
  have h1 := hb (4 * n + 1)
  have h2 := hb (4 * n + 2)
  have h3 := hb (4 * n + 3)
  unfold ml_W ml_H
  rw [show 2 * (2 * n) = 4 * n by omega, show 2 * (2 * n + 1) = 4 * n + 2 by omega, show 4 * n + 2 + 1 = 4 * n + 3 by omega]
  omega
theorem ml_b2 {b : Nat → Nat} (hb : ∀ i, b i < 256) (n : Nat) : ml_W b n / 256 % 256 = b (4 * n + 2) := by
  have h0 := hb (4 * n)
  have h1 := hb (4 * n + 1)
  have h2 := hb (4 * n + 2)
  have h3 := hb (4 * n + 3)
  unfold ml_W ml_H
  rw [show 2 * (2 * n) = 4 * n by omega, show 2 * (2 * n + 1) = 4 * n + 2 by omega, show 4 * n + 2 + 1 = 4 * n + 3 by omega]
  omega
theorem ml_b3 {b : Nat → Nat} (hb : ∀ i, b i < 256) (n : Nat) : ml_W b n % 256 = b (4 * n + 3) := by
  have h0 := hb (4 * n)
  have h1 := hb (4 * n + 1)
  have h2 := hb (4 * n + 2)
  have h3 := hb (4 * n + 3)
  unfold ml_W ml_H
  rw [show 2 * (2 * n) = 4 * n by omega, show 2 * (2 * n + 1) = 4 * n + 2 by omega, show 4 * n + 2 + 1 = 4 * n + 3 by omega]
  omega
theorem ml_W_b {b : Nat → Nat} (n : Nat) : ml_W b n = 16777216 * b (4 * n) + 65536 * b (4 * n + 1) + 256 * b (4 * n + 2) + b (4 * n + 3) := by
  unfold ml_W ml_H
  rw [show 2 * (2 * n) = 4 * n by omega, show 2 * (2 * n + 1) = 4 * n + 2 by omega, show 4 * n + 2 + 1 = 4 * n + 3 by omega]
  omega

theorem p_rf_byteAt {g : fx_G} {h : fx_H} {a lim : Nat} {b : Nat → Nat} (D : rd h a b lim) (i : Nat) (hi : i < lim) : fx_P g mX6_byteAt 0 0 [.ref a, .int (nI i)] h (.int (nI (b i))) := by
  obtain ⟨F, pb, ba, f, h1, h2, h3, h4, h5, h6⟩ := D
  refine fx_Met.of rfl (Nat.le_of_ble_eq_true rfl) ?_
  refine fx_aloadn dX6_byteAt_0 rfl ?_
  refine fx_get dX6_byteAt_1 ffX6_8 (by assumption) (by assumption) ?_
  refine fx_aloadn dX6_byteAt_4 rfl ?_
  refine fx_get dX6_byteAt_5 ffX6_50 (by assumption) (by assumption) ?_
  refine fx_iloadn dX6_byteAt_8 rfl ?_
  refine fx_iadd dX6_byteAt_9 ?_
  rw [nI_add]
  refine fx_iald dX6_byteAt_10 (by assumption) (vp_in_nI (by omega) (by decide)) ?_
  refine fx_iret dX6_byteAt_11 rfl ?_
  exact ⟨by rw [nI_clamp (by omega), h6 i hi], rfl⟩
theorem p_rf_half {g : fx_G} {h : fx_H} {a lim : Nat} {b : Nat → Nat} (D : rd h a b lim) (k : Nat) (hk : 2 * k + 1 < lim) : fx_P g mX6_half 1 21 [.ref a, .int (nI k)] h (.int (nI (ml_H b k))) := by
  obtain ⟨fs, h1⟩ := D.at
  refine fx_Met.of rfl (Nat.le_of_ble_eq_true rfl) ?_
  refine fx_sipush (nI 256) dX6_half_0 (by decide) ?_
  refine fx_aloadn dX6_half_3 rfl ?_
  refine fx_iconst (nI 2) dX6_half_4 (by decide) ?_
  refine fx_iloadn dX6_half_5 rfl ?_
  refine fx_imul dX6_half_6 ?_
  rw [pk_mul]
  refine fx_callVp dX6_half_7 vX6_byteAt kkX6_53 rfl rfl (by assumption) (p_rf_byteAt D _ (by omega)) rfl (by decide) (by decide) rfl (Nat.le_of_ble_eq_true rfl) ?_
  refine fx_imul dX6_half_10 ?_
  refine fx_aloadn dX6_half_11 rfl ?_
  refine fx_iconst (nI 2) dX6_half_12 (by decide) ?_
  refine fx_iloadn dX6_half_13 rfl ?_
  refine fx_imul dX6_half_14 ?_
  refine fx_iconst (nI 1) dX6_half_15 (by decide) ?_
  refine fx_iadd dX6_half_16 ?_
  rw [pk_mul 2, nI_add]
  refine fx_callVp dX6_half_17 vX6_byteAt kkX6_53 rfl rfl (by assumption) (p_rf_byteAt D _ (by omega)) rfl (by decide) (by decide) rfl (Nat.le_of_ble_eq_true rfl) ?_
  refine fx_iadd dX6_half_20 ?_
  refine fx_iret dX6_half_21 rfl ?_
  exact ⟨by rw [pk_mul, nI_add]; rfl, rfl⟩
theorem p_rf_word {g : fx_G} {h : fx_H} {a lim : Nat} {b : Nat → Nat} (D : rd h a b lim) (hb : ∀ i, b i < 256) (k : Nat) (hk : 4 * k + 3 < lim) : fx_P g mX6_word 1 21 [.ref a, .int (nI k)] h (.int (nI (ml_W b k))) := by
  obtain ⟨fs, h1⟩ := D.at
  refine fx_Met.of rfl (Nat.le_of_ble_eq_true rfl) ?_
  refine fx_aloadn dX6_word_0 rfl ?_
  refine fx_iconst (nI 4) dX6_word_1 (by decide) ?_
  refine fx_iloadn dX6_word_2 rfl ?_
  refine fx_imul dX6_word_3 ?_
  rw [pk_mul]
  refine fx_callVp dX6_word_4 vX6_byteAt kkX6_53 rfl rfl (by assumption) (p_rf_byteAt D _ (by omega)) rfl (by decide) (by decide) rfl (Nat.le_of_ble_eq_true rfl) ?_
  refine fx_bipush (nI 24) dX6_word_7 (by decide) ?_
  refine fx_ishl dX6_word_9 ?_
  refine fx_aloadn dX6_word_10 rfl ?_
  refine fx_iconst (nI 4) dX6_word_11 (by decide) ?_
  refine fx_iloadn dX6_word_12 rfl ?_
  refine fx_imul dX6_word_13 ?_
  refine fx_iconst (nI 1) dX6_word_14 (by decide) ?_
  refine fx_iadd dX6_word_15 ?_
  rw [pk_mul, nI_add]
  refine fx_callVp dX6_word_16 vX6_byteAt kkX6_53 rfl rfl (by assumption) (p_rf_byteAt D _ (by omega)) rfl (by decide) (by decide) rfl (Nat.le_of_ble_eq_true rfl) ?_
  refine fx_bipush (nI 16) dX6_word_19 (by decide) ?_
  refine fx_ishl dX6_word_21 ?_
  refine fx_ior dX6_word_22 ?_
  refine fx_aloadn dX6_word_23 rfl ?_
  refine fx_iconst (nI 4) dX6_word_24 (by decide) ?_
  refine fx_iloadn dX6_word_25 rfl ?_
  refine fx_imul dX6_word_26 ?_
  refine fx_iconst (nI 2) dX6_word_27 (by decide) ?_
  refine fx_iadd dX6_word_28 ?_
  rw [pk_mul, nI_add]
  refine fx_callVp dX6_word_29 vX6_byteAt kkX6_53 rfl rfl (by assumption) (p_rf_byteAt D _ (by omega)) rfl (by decide) (by decide) rfl (Nat.le_of_ble_eq_true rfl) ?_
  refine fx_bipush (nI 8) dX6_word_32 (by decide) ?_
  refine fx_ishl dX6_word_34 ?_
  refine fx_ior dX6_word_35 ?_
  refine fx_aloadn dX6_word_36 rfl ?_
  refine fx_iconst (nI 4) dX6_word_37 (by decide) ?_
  refine fx_iloadn dX6_word_38 rfl ?_
  refine fx_imul dX6_word_39 ?_
  refine fx_iconst (nI 3) dX6_word_40 (by decide) ?_
  refine fx_iadd dX6_word_41 ?_
  rw [pk_mul, nI_add]
  refine fx_callVp dX6_word_42 vX6_byteAt kkX6_53 rfl rfl (by assumption) (p_rf_byteAt D _ (by omega)) rfl (by decide) (by decide) rfl (Nat.le_of_ble_eq_true rfl) ?_
  refine fx_ior dX6_word_45 ?_
  refine fx_iret dX6_word_46 rfl ?_
  refine ⟨?_, rfl⟩
  have q0 := hb (4 * k)
  have q1 := hb (4 * k + 1)
  have q2 := hb (4 * k + 2)
  have q3 := hb (4 * k + 3)
  rw [pk_shlN (nI 24 &&& 31) 24 (by decide) (by omega), pk_shlN (nI 16 &&& 31) 16 (by decide) (by omega), pk_shlN (nI 8 &&& 31) 8 (by decide) (by omega), nI_or (by omega) (by omega), show b (4 * k) * 2 ^ 24 + b (4 * k + 1) * 2 ^ 16 = (b (4 * k) * 2 ^ 8 + b (4 * k + 1)) * 2 ^ 16 by omega, nI_or (by omega) (by omega), show (b (4 * k) * 2 ^ 8 + b (4 * k + 1)) * 2 ^ 16 + b (4 * k + 2) * 2 ^ 8 = ((b (4 * k) * 2 ^ 8 + b (4 * k + 1)) * 2 ^ 8 + b (4 * k + 2)) * 2 ^ 8 by omega, nI_or (by omega) (by omega), ml_W_b]
  congr 3
  omega
theorem p_rf_characters {g : fx_G} {h : fx_H} {a lim : Nat} {b : Nat → Nat} (D : rd h a b lim) (V : ml_w b) (hl : 24 ≤ lim) : fx_P g mX6_characters 2 42 [.ref a] h (.int (nI (ml_rl b 1))) := by
  obtain ⟨fs, h1⟩ := D.at
  refine fx_Met.of rfl (Nat.le_of_ble_eq_true rfl) ?_
  refine fx_aloadn dX6_characters_0 rfl ?_
  refine fx_iconst (nI 3) dX6_characters_1 (by decide) ?_
  refine fx_callVp dX6_characters_2 vX6_half kkX6_57 rfl rfl (by assumption) (p_rf_half D 3 (by omega)) rfl (by decide) (by decide) rfl (Nat.le_of_ble_eq_true rfl) ?_
  refine fx_aloadn dX6_characters_5 rfl ?_
  refine fx_iconst (nI 2) dX6_characters_6 (by decide) ?_
  refine fx_callVp dX6_characters_7 vX6_half kkX6_57 rfl rfl (by assumption) (p_rf_half D 2 (by omega)) rfl (by decide) (by decide) rfl (Nat.le_of_ble_eq_true rfl) ?_
  refine fx_isub dX6_characters_10 ?_
  refine fx_iconst (nI 1) dX6_characters_11 (by decide) ?_
  refine fx_iadd dX6_characters_12 ?_
  refine fx_iret dX6_characters_13 rfl ?_
  exact ⟨by rw [nI_chars V.2.2]; rfl, rfl⟩
theorem l_rf_start {g : fx_G} {h : fx_H} {a lim : Nat} {b : Nat → Nat} (D : rd h a b lim) (V : ml_w b) (hl : 24 ≤ lim) (r : Nat) (hr : r ≤ 10) : ∀ n k : Nat, k + n = r → fx_Y g mX6_start 3 62 (fun q h' => q = some (.int (nI (ml_st b r))) ∧ h' = h) (fun _ _ => False) 5 [(0, .ref a), (1, .int (nI r)), (2, .int (nI (ml_st b k))), (3, .int (nI k))] [] h 0 0 := by
  obtain ⟨fs, h1⟩ := D.at
  intro n
  induction n using Nat.strongRecOn with
  | ind n ih =>
  intro k hn
  refine fx_iloadn dX6_start_5 rfl ?_
  refine fx_iloadn dX6_start_6 rfl ?_
  refine fx_icmp_ge 50 dX6_start_7 (by decide) (fun c7 => ?_) (fun c7 => ?_)
  · skip
    refine fx_iloadn dX6_start_50 rfl ?_
    refine fx_iret dX6_start_51 rfl ?_
    have : k = r := by
      by_cases q : k < r
      · exact absurd c7 (nI_ge q (by omega))
      · omega
    subst this
    exact ⟨rfl, rfl⟩
  · skip
    refine fx_iloadn dX6_start_10 rfl ?_
    refine fx_iloadn dX6_start_11 rfl ?_
    refine fx_if_ne 23 dX6_start_12 (by decide) (fun c12 => ?_) (fun c12 => ?_)
    · skip
      refine fx_iloadn dX6_start_23 rfl ?_
      refine fx_iconst (nI 1) dX6_start_24 (by decide) ?_
      refine fx_icmp_ne 35 dX6_start_25 (by decide) (fun c25 => ?_) (fun c25 => ?_)
      · skip
        refine fx_aloadn dX6_start_35 rfl ?_
        refine fx_iloadn dX6_start_36 rfl ?_
        refine fx_iconst (nI 2) dX6_start_37 (by decide) ?_
        refine fx_iadd dX6_start_38 ?_
        rw [nI_add]
        refine fx_callVp dX6_start_39 vX6_half kkX6_57 rfl rfl (by assumption) (p_rf_half D (k + 2) (by have : k < r := Nat.lt_of_not_le (fun q => c7 (nI_le q (by omega))); omega)) rfl (by decide) (by decide) rfl (Nat.le_of_ble_eq_true rfl) ?_
        refine fx_iadd dX6_start_42 ?_
        refine fx_istoren dX6_start_43 (by decide) ?_
        refine fx_iinc (nI 1) dX6_start_44 rfl (by decide) (by decide) ?_
        refine fx_goto 5 dX6_start_47 (by decide) ?_
        have hkr : k < r := Nat.lt_of_not_le (fun q => c7 (nI_le q (by omega)))
        have e0 : k ≠ 0 := fun e => c12 (by rw [e]; rfl)
        have e1 : k ≠ 1 := fun e => c25 (by rw [e])
        simp only [nI_add]
        refine fx_to (ih (n - 1) (by omega) _ (by omega)) ⟨rfl, rfl, by show some (Value.int (nI (ml_st b k + ml_H b (k + 2)))) = some (Value.int (nI (ml_st b k + ml_rl b k))); unfold ml_rl; rw [if_neg e0, if_neg e1], rfl, trivial⟩
      · skip
        refine fx_aloadn dX6_start_28 rfl ?_
        refine fx_callVp dX6_start_29 vX6_characters kkX6_60 rfl rfl (by assumption) (p_rf_characters D V hl) rfl (by decide) (by decide) rfl (Nat.le_of_ble_eq_true rfl) ?_
        refine fx_goto 42 dX6_start_32 (by decide) ?_
        refine fx_iadd dX6_start_42 ?_
        refine fx_istoren dX6_start_43 (by decide) ?_
        refine fx_iinc (nI 1) dX6_start_44 rfl (by decide) (by decide) ?_
        refine fx_goto 5 dX6_start_47 (by decide) ?_
        have hkr : k < r := Nat.lt_of_not_le (fun q => c7 (nI_le q (by omega)))
        have e : k = 1 := (nI_eq (by omega) (by decide)).mp c25
        subst e
        simp only [nI_add]
        refine fx_to (ih (n - 1) (by omega) _ (by omega)) ⟨rfl, rfl, rfl, rfl, trivial⟩
    · skip
      refine fx_aloadn dX6_start_15 rfl ?_
      refine fx_iconst (nI 1) dX6_start_16 (by decide) ?_
      refine fx_callVp dX6_start_17 vX6_half kkX6_57 rfl rfl (by assumption) (p_rf_half D 1 (by omega)) rfl (by decide) (by decide) rfl (Nat.le_of_ble_eq_true rfl) ?_
      refine fx_goto 42 dX6_start_20 (by decide) ?_
      refine fx_iadd dX6_start_42 ?_
      refine fx_istoren dX6_start_43 (by decide) ?_
      refine fx_iinc (nI 1) dX6_start_44 rfl (by decide) (by decide) ?_
      refine fx_goto 5 dX6_start_47 (by decide) ?_
      have hkr : k < r := Nat.lt_of_not_le (fun q => c7 (nI_le q (by omega)))
      have e : k = 0 := (nI_eq (by omega) (by decide)).mp c12
      subst e
      simp only [nI_add]
      refine fx_to (ih (n - 1) (by omega) _ (by omega)) ⟨rfl, rfl, rfl, rfl, trivial⟩
theorem p_rf_start {g : fx_G} {h : fx_H} {a lim : Nat} {b : Nat → Nat} (D : rd h a b lim) (V : ml_w b) (hl : 24 ≤ lim) (r : Nat) (hr : r ≤ 10) : fx_P g mX6_start 3 62 [.ref a, .int (nI r)] h (.int (nI (ml_st b r))) := by
  obtain ⟨fs, h1⟩ := D.at
  refine fx_Met.of rfl (Nat.le_of_ble_eq_true rfl) ?_
  refine fx_bipush (nI 6) dX6_start_0 (by decide) ?_
  refine fx_istoren dX6_start_2 (by decide) ?_
  refine fx_iconst (nI 0) dX6_start_3 (by decide) ?_
  refine fx_istoren dX6_start_4 (by decide) ?_
  exact fx_to (l_rf_start D V hl r hr r 0 (by omega)) ⟨rfl, rfl, rfl, rfl, trivial⟩
theorem p_rf_piece {g : fx_G} {h : fx_H} {a lim : Nat} {b : Nat → Nat} (D : rd h a b lim) (V : ml_w b) (hl : 24 ≤ lim) (r : Nat) (hr : r ≤ 10) (i k : Nat) (hk : 4 * (ml_st b r + i) + k < lim) : fx_P g mX6_piece 4 85 [.ref a, .int (nI r), .int (nI i), .int (nI k)] h (.int (nI (b (4 * (ml_st b r + i) + k)))) := by
  obtain ⟨fs, h1⟩ := D.at
  refine fx_Met.of rfl (Nat.le_of_ble_eq_true rfl) ?_
  refine fx_aloadn dX6_piece_0 rfl ?_
  refine fx_iconst (nI 4) dX6_piece_1 (by decide) ?_
  refine fx_aloadn dX6_piece_2 rfl ?_
  refine fx_iloadn dX6_piece_3 rfl ?_
  refine fx_callVp dX6_piece_4 vX6_start kkX6_64 rfl rfl (by assumption) (p_rf_start D V hl r hr) rfl (by decide) (by decide) rfl (Nat.le_of_ble_eq_true rfl) ?_
  refine fx_iloadn dX6_piece_7 rfl ?_
  refine fx_iadd dX6_piece_8 ?_
  refine fx_imul dX6_piece_9 ?_
  refine fx_iloadn dX6_piece_10 rfl ?_
  refine fx_iadd dX6_piece_11 ?_
  rw [nI_add, pk_mul, nI_add]
  refine fx_callVp dX6_piece_12 vX6_byteAt kkX6_53 rfl rfl (by assumption) (p_rf_byteAt D _ hk) rfl (by decide) (by decide) rfl (Nat.le_of_ble_eq_true rfl) ?_
  refine fx_iret dX6_piece_15 rfl ?_
  exact ⟨rfl, rfl⟩
theorem p_rf_info {g : fx_G} {h : fx_H} {a lim nw : Nat} {b : Nat → Nat} (D : rd h a b lim) (V : ml_v b nw) (hl : 4 * nw ≤ lim) (c k : Nat) (h2 : ml_H b 2 ≤ c) (h3 : c ≤ ml_H b 3) (hk : k < 4) : fx_P g mX6_info 5 108 [.ref a, .int (nI c), .int (nI k)] h (.int (nI (b (4 * (ml_st b 1 + (c - ml_H b 2)) + k)))) := by
  have e1 : ml_rl b 1 = ml_H b 3 + 1 - ml_H b 2 := rfl
  obtain ⟨fs, h1⟩ := D.at
  refine fx_Met.of rfl (Nat.le_of_ble_eq_true rfl) ?_
  refine fx_aloadn dX6_info_0 rfl ?_
  refine fx_iconst (nI 1) dX6_info_1 (by decide) ?_
  refine fx_iloadn dX6_info_2 rfl ?_
  refine fx_aloadn dX6_info_3 rfl ?_
  refine fx_iconst (nI 2) dX6_info_4 (by decide) ?_
  refine fx_callVp dX6_info_5 vX6_half kkX6_57 rfl rfl (by assumption) (p_rf_half D 2 (by have := V.six; omega)) rfl (by decide) (by decide) rfl (Nat.le_of_ble_eq_true rfl) ?_
  refine fx_isub dX6_info_8 ?_
  rw [pk_sub h2]
  refine fx_iloadn dX6_info_9 rfl ?_
  refine fx_callVp dX6_info_10 vX6_piece kkX6_67 rfl rfl (by assumption) (p_rf_piece D V.w (by have := V.six; omega) 1 (by decide) (c - ml_H b 2) k (by have := V.row (r := 1) (by decide); omega)) rfl (by decide) (by decide) rfl (Nat.le_of_ble_eq_true rfl) ?_
  refine fx_iret dX6_info_13 rfl ?_
  exact ⟨rfl, rfl⟩
theorem ml_i_in {b : Nat → Nat} {nw c : Nat} (V : ml_v b nw) (h2 : ml_H b 2 ≤ c) (h3 : c ≤ ml_H b 3) : ml_i b c = if b (4 * (ml_st b 1 + (c - ml_H b 2))) = 0 then 0 else ml_W b (ml_st b 1 + (c - ml_H b 2)) := by
  have e1 : ml_rl b 1 = ml_H b 3 + 1 - ml_H b 2 := rfl
  have e2 : ml_e b 1 (c - ml_H b 2) = ml_W b (ml_st b 1 + (c - ml_H b 2)) := if_pos (by omega)
  have e3 := ml_b0 V.1 (ml_st b 1 + (c - ml_H b 2))
  unfold ml_i
  rw [e2]
  split
  · rename_i q
    rw [if_neg (by omega)]
  · rename_i q
    rw [if_pos (by omega)]
theorem ml_i_out {b : Nat → Nat} {c : Nat} (h : c < ml_H b 2 ∨ ml_H b 3 < c) : ml_i b c = 0 := by
  have e1 : ml_rl b 1 = ml_H b 3 + 1 - ml_H b 2 := rfl
  unfold ml_i
  rw [if_neg]
  intro q
  have e2 : ml_e b 1 (c - ml_H b 2) = 0 := if_neg (by omega)
  rw [e2] at q
  omega
theorem ml_i_ran {b : Nat → Nat} {c : Nat} (h : ml_i b c ≠ 0) : ml_H b 2 ≤ c ∧ c ≤ ml_H b 3 := by
  by_cases h2 : ml_H b 2 ≤ c
  · by_cases h3 : c ≤ ml_H b 3
    · exact ⟨h2, h3⟩
    · exact absurd (ml_i_out (Or.inr (by omega))) h
  · exact absurd (ml_i_out (Or.inl (by omega))) h
theorem ml_i_W {b : Nat → Nat} {nw c : Nat} (V : ml_v b nw) (h : ml_i b c ≠ 0) : ml_i b c = ml_W b (ml_st b 1 + (c - ml_H b 2)) := by
  have h1 := ml_i_ran h
  have h2 := ml_i_in V h1.1 h1.2
  rw [h2] at h ⊢
  split
  · rename_i q
    rw [if_pos q] at h
    exact absurd rfl h
  · rfl

theorem i_neg {x : Int32} {n : Nat} (hx : x < 0) (hn : n < 2 ^ 31) : x < nI n := by
  have h1 := nI_toInt hn
  have h2 := Int32.lt_iff_toInt_lt.mp hx
  refine Int32.lt_iff_toInt_lt.mpr ?_
  rw [h1]
  have h3 : (0 : Int32).toInt = 0 := rfl
  omega
theorem p_rf_isThere {g : fx_G} {h : fx_H} {a lim nw : Nat} {b : Nat → Nat} (D : rd h a b lim) (V : ml_v b nw) (hl : 4 * nw ≤ lim) (x : Int32) : fx_P g mX6_isThere 6 130 [.ref a, .int x] h (.int (bI (ml_iI b x ≠ 0))) := by
  obtain ⟨fs, h1⟩ := D.at
  refine fx_Met.of rfl (Nat.le_of_ble_eq_true rfl) ?_
  have hs := V.six
  have w2 := V.w.2.1 2 (by decide)
  have w3 := V.w.2.1 3 (by decide)
  by_cases hx : x < 0
  · skip
    refine fx_iloadn dX6_isThere_0 rfl ?_
    refine fx_aloadn dX6_isThere_1 rfl ?_
    refine fx_iconst (nI 2) dX6_isThere_2 (by decide) ?_
    refine fx_callVp dX6_isThere_3 vX6_half kkX6_57 rfl rfl (by assumption) (p_rf_half D 2 (by omega)) rfl (by decide) (by decide) rfl (Nat.le_of_ble_eq_true rfl) ?_
    refine fx_icmp_lt 57 dX6_isThere_6 (by decide) (fun c6 => ?_) (fun c6 => absurd (i_neg hx (by omega)) c6)
    refine fx_iconst (nI 0) dX6_isThere_57 (by decide) ?_
    refine fx_zret dX6_isThere_58 rfl rfl ?_
    exact ⟨by rw [bI_f (fun q => q (ml_iI_m hx))], rfl⟩
  · obtain ⟨j, hj, rfl⟩ := nI_of hx
    refine fx_iloadn dX6_isThere_0 rfl ?_
    refine fx_aloadn dX6_isThere_1 rfl ?_
    refine fx_iconst (nI 2) dX6_isThere_2 (by decide) ?_
    refine fx_callVp dX6_isThere_3 vX6_half kkX6_57 rfl rfl (by assumption) (p_rf_half D 2 (by omega)) rfl (by decide) (by decide) rfl (Nat.le_of_ble_eq_true rfl) ?_
    refine fx_icmp_lt 57 dX6_isThere_6 (by decide) (fun c6 => ?_) (fun c6 => ?_)
    · skip
      refine fx_iconst (nI 0) dX6_isThere_57 (by decide) ?_
      refine fx_zret dX6_isThere_58 rfl rfl ?_
      exact ⟨by rw [bI_f (fun q => q (by rw [ml_iI_n hj]; exact ml_i_out (Or.inl (Nat.lt_of_not_le (fun e => nI_nlt e (by omega) c6)))))], rfl⟩
    · skip
      refine fx_iloadn dX6_isThere_9 rfl ?_
      refine fx_aloadn dX6_isThere_10 rfl ?_
      refine fx_iconst (nI 3) dX6_isThere_11 (by decide) ?_
      refine fx_callVp dX6_isThere_12 vX6_half kkX6_57 rfl rfl (by assumption) (p_rf_half D 3 (by omega)) rfl (by decide) (by decide) rfl (Nat.le_of_ble_eq_true rfl) ?_
      refine fx_icmp_gt 57 dX6_isThere_15 (by decide) (fun c15 => ?_) (fun c15 => ?_)
      · skip
        refine fx_iconst (nI 0) dX6_isThere_57 (by decide) ?_
        refine fx_zret dX6_isThere_58 rfl rfl ?_
        exact ⟨by rw [bI_f (fun q => q (by rw [ml_iI_n hj]; exact ml_i_out (Or.inr (Nat.lt_of_not_le (fun e => nI_nlt e (by omega) c15)))))], rfl⟩
      · skip
        have h2 : ml_H b 2 ≤ j := Nat.le_of_not_lt (fun e => c6 (nI_lt e (by omega)))
        have h3 : j ≤ ml_H b 3 := Nat.le_of_not_lt (fun e => c15 (nI_lt e hj))
        refine fx_aloadn dX6_isThere_18 rfl ?_
        refine fx_iloadn dX6_isThere_19 rfl ?_
        refine fx_aloadn dX6_isThere_20 rfl ?_
        refine fx_iconst (nI 2) dX6_isThere_21 (by decide) ?_
        refine fx_callVp dX6_isThere_22 vX6_half kkX6_57 rfl rfl (by assumption) (p_rf_half D 2 (by omega)) rfl (by decide) (by decide) rfl (Nat.le_of_ble_eq_true rfl) ?_
        refine fx_icmp_lt 37 dX6_isThere_25 (by decide) (fun c25 => absurd c25 (c6)) (fun c25 => ?_)
        refine fx_iloadn dX6_isThere_28 rfl ?_
        refine fx_aloadn dX6_isThere_29 rfl ?_
        refine fx_iconst (nI 3) dX6_isThere_30 (by decide) ?_
        refine fx_callVp dX6_isThere_31 vX6_half kkX6_57 rfl rfl (by assumption) (p_rf_half D 3 (by omega)) rfl (by decide) (by decide) rfl (Nat.le_of_ble_eq_true rfl) ?_
        refine fx_icmp_le 45 dX6_isThere_34 (by decide) (fun c34 => ?_) (fun c34 => absurd (nI_le h3 (by omega)) c34)
        refine fx_iloadn dX6_isThere_45 rfl ?_
        refine fx_iconst (nI 0) dX6_isThere_46 (by decide) ?_
        refine fx_callVp dX6_isThere_47 vX6_info kkX6_71 rfl rfl (by assumption) (p_rf_info D V hl j 0 h2 h3 (by decide)) rfl (by decide) (by decide) rfl (Nat.le_of_ble_eq_true rfl) ?_
        refine fx_if_le 57 dX6_isThere_50 (by decide) (fun c50 => ?_) (fun c50 => ?_)
        · skip
          refine fx_iconst (nI 0) dX6_isThere_57 (by decide) ?_
          refine fx_zret dX6_isThere_58 rfl rfl ?_
          have q1 := V.1 (4 * (ml_st b 1 + (j - ml_H b 2)))
          have e : ml_iI b (nI j) = 0 := by
            rw [ml_iI_n hj, ml_i_in V h2 h3]
            exact if_pos (Nat.eq_zero_of_not_pos (fun e => nI_nle (n := b (4 * (ml_st b 1 + (j - ml_H b 2)))) e (by omega) c50))
          exact ⟨by rw [bI_f (fun q => q e)], rfl⟩
        · skip
          refine fx_iconst (nI 1) dX6_isThere_53 (by decide) ?_
          refine fx_goto 58 dX6_isThere_54 (by decide) ?_
          refine fx_zret dX6_isThere_58 rfl rfl ?_
          refine ⟨?_, rfl⟩
          refine congrArg (fun x => some (Value.int x)) (bI_t (fun q => ?_)).symm
          rw [ml_iI_n hj, ml_i_in V h2 h3] at q
          have q1 := ml_b0 V.1 (ml_st b 1 + (j - ml_H b 2))
          by_cases q2 : b (4 * (ml_st b 1 + (j - ml_H b 2))) = 0
          · exact c50 (by show nI (b (4 * (ml_st b 1 + (j - ml_H b 2)))) ≤ 0; rw [q2]; decide)
          · rw [if_neg q2] at q
            omega
theorem p_rf_step {g : fx_G} {h : fx_H} {a lim nw : Nat} {b : Nat → Nat} (D : rd h a b lim) (V : ml_v b nw) (hl : 4 * nw ≤ lim) (i k : Nat) (hi : i < ml_rl b 6) (hk : k < 4) : fx_P g mX6_step 5 108 [.ref a, .int (nI i), .int (nI k)] h (.int (nI (b (4 * (ml_st b 6 + i) + k)))) := by
  obtain ⟨fs, h1⟩ := D.at
  refine fx_Met.of rfl (Nat.le_of_ble_eq_true rfl) ?_
  refine fx_aloadn dX6_step_0 rfl ?_
  refine fx_bipush (nI 6) dX6_step_1 (by decide) ?_
  refine fx_iloadn dX6_step_3 rfl ?_
  refine fx_iloadn dX6_step_4 rfl ?_
  refine fx_callVp dX6_step_5 vX6_piece kkX6_67 rfl rfl (by assumption) (p_rf_piece D V.w (by have := V.six; omega) 6 (by decide) i k (by have := V.row (r := 6) (by decide); omega)) rfl (by decide) (by decide) rfl (Nat.le_of_ble_eq_true rfl) ?_
  refine fx_iret dX6_step_8 rfl ?_
  exact ⟨rfl, rfl⟩
theorem ml_s_b {b : Nat → Nat} {nw : Nat} (V : ml_v b nw) {i : Nat} (hi : i < ml_rl b 6) : b (4 * (ml_st b 6 + i)) = ml_s b (nI i) := by
  have h1 := V.rl (r := 6) (by decide)
  unfold ml_s
  rw [ml_eI_n 6 (by omega), show ml_e b 6 i = ml_W b (ml_st b 6 + i) from if_pos hi, ml_b0 V.1]
theorem p_rf_step0 {g : fx_G} {h : fx_H} {a lim nw : Nat} {b : Nat → Nat} (D : rd h a b lim) (V : ml_v b nw) (hl : 4 * nw ≤ lim) (i : Nat) (hi : i < ml_rl b 6) : fx_P g mX6_step 5 108 [.ref a, .int (nI i), .int (nI 0)] h (.int (nI (ml_s b (nI i)))) := by
  rw [← ml_s_b V hi]
  exact p_rf_step D V hl i 0 hi (by decide)
theorem ml_n_b {b : Nat → Nat} {nw : Nat} (V : ml_v b nw) {i : Nat} (hi : i < ml_rl b 6) : b (4 * (ml_st b 6 + i) + 1) = ml_n b (nI i) := by
  have h1 := V.rl (r := 6) (by decide)
  unfold ml_n
  rw [ml_eI_n 6 (by omega), show ml_e b 6 i = ml_W b (ml_st b 6 + i) from if_pos hi, ml_b1 V.1]
theorem p_rf_step1 {g : fx_G} {h : fx_H} {a lim nw : Nat} {b : Nat → Nat} (D : rd h a b lim) (V : ml_v b nw) (hl : 4 * nw ≤ lim) (i : Nat) (hi : i < ml_rl b 6) : fx_P g mX6_step 5 108 [.ref a, .int (nI i), .int (nI 1)] h (.int (nI (ml_n b (nI i)))) := by
  rw [← ml_n_b V hi]
  exact p_rf_step D V hl i 1 hi (by decide)
theorem ml_o_b {b : Nat → Nat} {nw : Nat} (V : ml_v b nw) {i : Nat} (hi : i < ml_rl b 6) : b (4 * (ml_st b 6 + i) + 2) = ml_o b (nI i) := by
  have h1 := V.rl (r := 6) (by decide)
  unfold ml_o
  rw [ml_eI_n 6 (by omega), show ml_e b 6 i = ml_W b (ml_st b 6 + i) from if_pos hi, ml_b2 V.1]
theorem p_rf_step2 {g : fx_G} {h : fx_H} {a lim nw : Nat} {b : Nat → Nat} (D : rd h a b lim) (V : ml_v b nw) (hl : 4 * nw ≤ lim) (i : Nat) (hi : i < ml_rl b 6) : fx_P g mX6_step 5 108 [.ref a, .int (nI i), .int (nI 2)] h (.int (nI (ml_o b (nI i)))) := by
  rw [← ml_o_b V hi]
  exact p_rf_step D V hl i 2 hi (by decide)
theorem ml_r_b {b : Nat → Nat} {nw : Nat} (V : ml_v b nw) {i : Nat} (hi : i < ml_rl b 6) : b (4 * (ml_st b 6 + i) + 3) = ml_r b (nI i) := by
  have h1 := V.rl (r := 6) (by decide)
  unfold ml_r
  rw [ml_eI_n 6 (by omega), show ml_e b 6 i = ml_W b (ml_st b 6 + i) from if_pos hi, ml_b3 V.1]
theorem p_rf_step3 {g : fx_G} {h : fx_H} {a lim nw : Nat} {b : Nat → Nat} (D : rd h a b lim) (V : ml_v b nw) (hl : 4 * nw ≤ lim) (i : Nat) (hi : i < ml_rl b 6) : fx_P g mX6_step 5 108 [.ref a, .int (nI i), .int (nI 3)] h (.int (nI (ml_r b (nI i)))) := by
  rw [← ml_r_b V hi]
  exact p_rf_step D V hl i 3 hi (by decide)
theorem p_rf_info0 {g : fx_G} {h : fx_H} {a lim nw : Nat} {b : Nat → Nat} (D : rd h a b lim) (V : ml_v b nw) (hl : 4 * nw ≤ lim) (c : Nat) (hc : ml_i b c ≠ 0) : fx_P g mX6_info 5 108 [.ref a, .int (nI c), .int (nI 0)] h (.int (nI (ml_i b c / 16777216))) := by
  have h1 := ml_i_ran hc
  rw [ml_i_W V hc, ml_b0 V.1]
  exact p_rf_info D V hl c 0 h1.1 h1.2 (by decide)
theorem p_rf_info1 {g : fx_G} {h : fx_H} {a lim nw : Nat} {b : Nat → Nat} (D : rd h a b lim) (V : ml_v b nw) (hl : 4 * nw ≤ lim) (c : Nat) (hc : ml_i b c ≠ 0) : fx_P g mX6_info 5 108 [.ref a, .int (nI c), .int (nI 1)] h (.int (nI (ml_i b c / 65536 % 256))) := by
  have h1 := ml_i_ran hc
  rw [ml_i_W V hc, ml_b1 V.1]
  exact p_rf_info D V hl c 1 h1.1 h1.2 (by decide)
theorem p_rf_info2 {g : fx_G} {h : fx_H} {a lim nw : Nat} {b : Nat → Nat} (D : rd h a b lim) (V : ml_v b nw) (hl : 4 * nw ≤ lim) (c : Nat) (hc : ml_i b c ≠ 0) : fx_P g mX6_info 5 108 [.ref a, .int (nI c), .int (nI 2)] h (.int (nI (ml_i b c / 256 % 256))) := by
  have h1 := ml_i_ran hc
  rw [ml_i_W V hc, ml_b2 V.1]
  exact p_rf_info D V hl c 2 h1.1 h1.2 (by decide)
theorem p_rf_info3 {g : fx_G} {h : fx_H} {a lim nw : Nat} {b : Nat → Nat} (D : rd h a b lim) (V : ml_v b nw) (hl : 4 * nw ≤ lim) (c : Nat) (hc : ml_i b c ≠ 0) : fx_P g mX6_info 5 108 [.ref a, .int (nI c), .int (nI 3)] h (.int (nI (ml_i b c % 256))) := by
  have h1 := ml_i_ran hc
  rw [ml_i_W V hc, ml_b3 V.1]
  exact p_rf_info D V hl c 3 h1.1 h1.2 (by decide)
theorem p_rf_boundary {g : fx_G} {h : fx_H} {a lim nw : Nat} {b : Nat → Nat} (D : rd h a b lim) (V : ml_v b nw) (hl : 4 * nw ≤ lim) : fx_P g mX6_boundary 6 130 [.ref a] h (.int (ml_bd b)) := by
  obtain ⟨fs, h1⟩ := D.at
  refine fx_Met.of rfl (Nat.le_of_ble_eq_true rfl) ?_
  refine fx_aloadn dX6_boundary_0 rfl ?_
  refine fx_bipush (nI 8) dX6_boundary_1 (by decide) ?_
  refine fx_callVp dX6_boundary_3 vX6_half kkX6_57 rfl rfl (by assumption) (p_rf_half D 8 (by have := V.six; omega)) rfl (by decide) (by decide) rfl (Nat.le_of_ble_eq_true rfl) ?_
  refine fx_if_le 30 dX6_boundary_6 (by decide) (fun c6 => ?_) (fun c6 => ?_)
  · skip
    refine fx_iconst (-1) dX6_boundary_30 (by decide) ?_
    refine fx_iret dX6_boundary_31 rfl ?_
    refine ⟨?_, rfl⟩
    have e : ml_rl b 6 = 0 := Nat.eq_zero_of_not_pos (fun e => nI_nle e (by have := V.rl (r := 6) (by decide); omega) c6)
    have e2 : ml_s b (nI 0) = 0 := by
      unfold ml_s
      rw [ml_eI_n 6 (by decide), show ml_e b 6 0 = 0 from if_neg (by omega)]
    unfold ml_bd
    rw [e2, if_neg (by decide)]
  · skip
    have hp : 0 < ml_rl b 6 := Nat.pos_of_ne_zero (fun e => c6 (by show nI (ml_rl b 6) ≤ 0; rw [e]; decide))
    refine fx_aloadn dX6_boundary_9 rfl ?_
    refine fx_iconst (nI 0) dX6_boundary_10 (by decide) ?_
    refine fx_iconst (nI 0) dX6_boundary_11 (by decide) ?_
    refine fx_callVp dX6_boundary_12 vX6_step kkX6_88 rfl rfl (by assumption) (p_rf_step0 D V hl 0 hp) rfl (by decide) (by decide) rfl (Nat.le_of_ble_eq_true rfl) ?_
    refine fx_sipush (nI 255) dX6_boundary_15 (by decide) ?_
    refine fx_icmp_ne 30 dX6_boundary_18 (by decide) (fun c18 => ?_) (fun c18 => ?_)
    · skip
      refine fx_iconst (-1) dX6_boundary_30 (by decide) ?_
      refine fx_iret dX6_boundary_31 rfl ?_
      exact ⟨by unfold ml_bd; rw [if_neg (fun e => c18 (by rw [e]))], rfl⟩
    · skip
      refine fx_aloadn dX6_boundary_21 rfl ?_
      refine fx_iconst (nI 0) dX6_boundary_22 (by decide) ?_
      refine fx_iconst (nI 1) dX6_boundary_23 (by decide) ?_
      refine fx_callVp dX6_boundary_24 vX6_step kkX6_88 rfl rfl (by assumption) (p_rf_step1 D V hl 0 hp) rfl (by decide) (by decide) rfl (Nat.le_of_ble_eq_true rfl) ?_
      refine fx_goto 31 dX6_boundary_27 (by decide) ?_
      refine fx_iret dX6_boundary_31 rfl ?_
      exact ⟨by unfold ml_bd; rw [if_pos ((nI_eq (by have := ml_s_lt V.1 (nI 0); omega) (by decide)).mp c18)], rfl⟩
end
section
/-! FontDesk$FileCheck: the faults, as the class finds them -/
theorem fx_yes {p : Prop} {h : fx_H} (hp : p) : some (Value.int (nI 1)) = some (.int (bI p)) ∧ h = h := ⟨by rw [bI_t hp], rfl⟩
theorem fx_no {p : Prop} {h : fx_H} (hp : ¬ p) : some (Value.int (nI 0)) = some (.int (bI p)) ∧ h = h := ⟨by rw [bI_f hp], rfl⟩
def ml_pls (b : Nat → Nat) (c : Nat) : Prop := ∀ q, q < 4 → ml_pl b (nI c) q < ml_rl b (2 + q)
def ml_ce (b : Nat → Nat) (c : Nat) : Nat → Nat → Prop
  | 0, _ => False
  | n + 1, x => if ml_tag b (nI x) = 2 then (if ml_rest b (nI x) = c then False else ml_ce b c n (ml_rest b (nI x))) else True
def ml_tgC (b : Nat → Nat) (c : Nat) : Prop := (ml_tag b (nI c) = 1 → ml_rest b (nI c) < ml_rl b 6) ∧ (ml_tag b (nI c) = 2 → ml_i b (ml_rest b (nI c)) ≠ 0 ∧ ml_ce b c 256 c) ∧ (ml_tag b (nI c) = 3 → ml_rest b (nI c) < ml_rl b 8)
def ml_f3C (b : Nat → Nat) : Prop := ∀ c, c < 256 → ml_i b c ≠ 0 → ml_pls b c ∧ ml_tgC b c
def ml_fr (w : Nat) : Prop := ¬ nI w < (-16777216) ∧ nI w < nI 16777216
def ml_frs (b : Nat → Nat) (r k0 : Nat) : Prop := ∀ k, k0 ≤ k → k < ml_rl b r → ml_fr (ml_e b r k)
def ml_f4 (b : Nat → Nat) : Prop := (∀ r, 2 ≤ r → r < 6 → ml_e b r 0 = 0 ∧ ml_frs b r 1) ∧ ml_frs b 7 0 ∧ ml_frs b 9 1
def ml_lig (o : Nat) : Prop := o < 4 ∨ (4 < o ∧ o < 8) ∨ o = 11
def ml_deed (b : Nat → Nat) (i : Nat) : Prop := (ml_i b (ml_n b (nI i)) ≠ 0 ∨ nI (ml_n b (nI i)) = ml_bd b) ∧ (ml_s b (nI i) = 128 ∨ i + ml_s b (nI i) + 1 < ml_rl b 6) ∧ (if 128 ≤ ml_o b (nI i) then 256 * (ml_o b (nI i) - 128) + ml_r b (nI i) < ml_rl b 7 else ml_i b (ml_r b (nI i)) ≠ 0 ∧ ml_lig (ml_o b (nI i)))
def ml_stp (b : Nat → Nat) (i : Nat) : Prop := if 128 < ml_s b (nI i) then 256 * ml_o b (nI i) + ml_r b (nI i) < ml_rl b 6 else ml_deed b i
def ml_f5 (b : Nat → Nat) : Prop := ∀ i, i < ml_rl b 6 → ml_stp b i
def ml_pt (b : Nat → Nat) (x : Nat) : Prop := x = 0 ∨ ml_i b x ≠ 0
def ml_pc (b : Nat → Nat) (i : Nat) : Prop := ml_pt b (ml_e b 8 i / 16777216) ∧ ml_pt b (ml_e b 8 i / 65536 % 256) ∧ ml_pt b (ml_e b 8 i / 256 % 256) ∧ ml_i b (ml_e b 8 i % 256) ≠ 0
def ml_f6 (b : Nat → Nat) : Prop := ∀ i, i < ml_rl b 8 → ml_pc b i

theorem p_fc_isLigature  {g : fx_G} {h : fx_H} (x : Nat) (hx : x < 256) : fx_P g mX2_isLigature 0 0 [.int (nI x)] h (.int (bI (ml_lig x))) := by
  refine fx_Met.of rfl (Nat.le_of_ble_eq_true rfl) ?_
  refine fx_iloadn dX2_isLigature_0 rfl ?_
  refine fx_iconst (nI 3) dX2_isLigature_1 (by decide) ?_
  refine fx_icn_le 22 dX2_isLigature_2 (by decide) (by omega) (by omega) (fun c2 => ?_) (fun c2 => ?_)
  · skip
    refine fx_iconst (nI 1) dX2_isLigature_22 (by decide) ?_
    refine fx_goto 27 dX2_isLigature_23 (by decide) ?_
    refine fx_zret dX2_isLigature_27 rfl rfl ?_
    exact fx_yes (by unfold ml_lig; omega)
  · skip
    refine fx_iloadn dX2_isLigature_5 rfl ?_
    refine fx_iconst (nI 5) dX2_isLigature_6 (by decide) ?_
    refine fx_icn_lt 16 dX2_isLigature_7 (by decide) (by omega) (by omega) (fun c7 => ?_) (fun c7 => ?_)
    · skip
      refine fx_iloadn dX2_isLigature_16 rfl ?_
      refine fx_bipush (nI 11) dX2_isLigature_17 (by decide) ?_
      refine fx_icn_ne 26 dX2_isLigature_19 (by decide) (by omega) (by omega) (fun c19 => ?_) (fun c19 => ?_)
      · skip
        refine fx_iconst (nI 0) dX2_isLigature_26 (by decide) ?_
        refine fx_zret dX2_isLigature_27 rfl rfl ?_
        exact fx_no (by unfold ml_lig; omega)
      · skip
        refine fx_iconst (nI 1) dX2_isLigature_22 (by decide) ?_
        refine fx_goto 27 dX2_isLigature_23 (by decide) ?_
        refine fx_zret dX2_isLigature_27 rfl rfl ?_
        exact fx_yes (by unfold ml_lig; omega)
    · skip
      refine fx_iloadn dX2_isLigature_10 rfl ?_
      refine fx_bipush (nI 7) dX2_isLigature_11 (by decide) ?_
      refine fx_icn_le 22 dX2_isLigature_13 (by decide) (by omega) (by omega) (fun c13 => ?_) (fun c13 => ?_)
      · skip
        refine fx_iconst (nI 1) dX2_isLigature_22 (by decide) ?_
        refine fx_goto 27 dX2_isLigature_23 (by decide) ?_
        refine fx_zret dX2_isLigature_27 rfl rfl ?_
        exact fx_yes (by unfold ml_lig; omega)
      · skip
        refine fx_iloadn dX2_isLigature_16 rfl ?_
        refine fx_bipush (nI 11) dX2_isLigature_17 (by decide) ?_
        refine fx_icn_ne 26 dX2_isLigature_19 (by decide) (by omega) (by omega) (fun c19 => ?_) (fun c19 => ?_)
        · skip
          refine fx_iconst (nI 0) dX2_isLigature_26 (by decide) ?_
          refine fx_zret dX2_isLigature_27 rfl rfl ?_
          exact fx_no (by unfold ml_lig; omega)
        · skip
          refine fx_iconst (nI 1) dX2_isLigature_22 (by decide) ?_
          refine fx_goto 27 dX2_isLigature_23 (by decide) ?_
          refine fx_zret dX2_isLigature_27 rfl rfl ?_
          exact fx_yes (by unfold ml_lig; omega)
theorem p_fc_partFits {g : fx_G} {S : Nat → Prop} {h : fx_H} {a nw : Nat} {b : Nat → Nat} {z : Int32} (H : fo S h a b nw z) (V : ml_v b nw) (x : Nat) (hx : x < 256) : fx_P g mX2_partFits 2 42 [.ref a, .int (nI x)] h (.int (bI (ml_pt b x))) := by
  obtain ⟨fs, h1⟩ := H.at
  refine fx_Met.of rfl (Nat.le_of_ble_eq_true rfl) ?_
  refine fx_iloadn dX2_partFits_0 rfl ?_
  refine fx_ifn_eq 12 dX2_partFits_1 (by decide) (by omega) (fun c1 => ?_) (fun c1 => ?_)
  · skip
    refine fx_iconst (nI 1) dX2_partFits_12 (by decide) ?_
    refine fx_goto 17 dX2_partFits_13 (by decide) ?_
    refine fx_zret dX2_partFits_17 rfl rfl ?_
    exact fx_yes (Or.inl c1)
  · skip
    refine fx_aloadn dX2_partFits_4 rfl ?_
    refine fx_iloadn dX2_partFits_5 rfl ?_
    refine fx_callVp dX2_partFits_6 vX3_hasCharacter kkX2_39 rfl rfl (by assumption) (p_fo_hasCharacter H V _) rfl (by decide) (by decide) rfl (Nat.le_of_ble_eq_true rfl) ?_
    refine fx_if_eqB 16 dX2_partFits_9 (by decide) (fun c9 => ?_) (fun c9 => ?_)
    · skip
      refine fx_iconst (nI 0) dX2_partFits_16 (by decide) ?_
      refine fx_zret dX2_partFits_17 rfl rfl ?_
      exact fx_no (fun q => q.elim c1 (fun e => c9 (by rw [ml_iI_n (by omega)]; exact e)))
    · skip
      refine fx_iconst (nI 1) dX2_partFits_12 (by decide) ?_
      refine fx_goto 17 dX2_partFits_13 (by decide) ?_
      refine fx_zret dX2_partFits_17 rfl rfl ?_
      exact fx_yes (Or.inr (by rw [← ml_iI_n (b := b) (show x < 2 ^ 31 by omega)]; exact c9))
theorem p_fc_jumpFits {g : fx_G} {S : Nat → Prop} {h : fx_H} {a nw : Nat} {b : Nat → Nat} {z : Int32} (H : fo S h a b nw z) (V : ml_v b nw) (x : Int32) : fx_P g mX2_jumpFits 3 65 [.ref a, .int x] h (.int (bI (256 * ml_o b x + ml_r b x < ml_rl b 6))) := by
  obtain ⟨fs, h1⟩ := H.at
  refine fx_Met.of rfl (Nat.le_of_ble_eq_true rfl) ?_
  have q1 := ml_o_lt (b := b) x
  have q2 := ml_r_lt (b := b) x
  have q3 := V.rl (r := 6) (by decide)
  refine fx_aloadn dX2_jumpFits_0 rfl ?_
  refine fx_iloadn dX2_jumpFits_1 rfl ?_
  refine fx_callVp dX2_jumpFits_2 vX3_targetOf kkX2_84 rfl rfl (by assumption) (p_fo_targetOf H V _) rfl (by decide) (by decide) rfl (Nat.le_of_ble_eq_true rfl) ?_
  refine fx_aloadn dX2_jumpFits_5 rfl ?_
  refine fx_bipush (nI 6) dX2_jumpFits_6 (by decide) ?_
  refine fx_callVp dX2_jumpFits_8 vX3_rowLength kkX2_54 rfl rfl (by assumption) (p_fo_rowLength H V 6 (by decide)) rfl (by decide) (by decide) rfl (Nat.le_of_ble_eq_true rfl) ?_
  refine fx_icn_ge 18 dX2_jumpFits_11 (by decide) (by omega) (by omega) (fun c11 => ?_) (fun c11 => ?_)
  · skip
    refine fx_iconst (nI 0) dX2_jumpFits_18 (by decide) ?_
    refine fx_zret dX2_jumpFits_19 rfl rfl ?_
    exact fx_no (by omega)
  · skip
    refine fx_iconst (nI 1) dX2_jumpFits_14 (by decide) ?_
    refine fx_goto 19 dX2_jumpFits_15 (by decide) ?_
    refine fx_zret dX2_jumpFits_19 rfl rfl ?_
    exact fx_yes (by omega)
theorem p_fc_deedFits {g : fx_G} {S : Nat → Prop} {h : fx_H} {a nw : Nat} {b : Nat → Nat} {z : Int32} (H : fo S h a b nw z) (V : ml_v b nw) (i : Nat) (hi : i < ml_rl b 6) (hs : ml_s b (nI i) ≤ 128) : fx_P g mX2_deedFits 3 66 [.ref a, .int (nI i)] h (.int (bI (ml_deed b i))) := by
  obtain ⟨fs, h1⟩ := H.at
  refine fx_Met.of rfl (Nat.le_of_ble_eq_true rfl) ?_
  have q1 := ml_n_lt (b := b) (nI i)
  have q2 := ml_o_lt (b := b) (nI i)
  have q3 := V.rl (r := 6) (by decide)
  have q4 := V.rl (r := 7) (by decide)
  have q5 := ml_r_lt (b := b) (nI i)
  have j24 : ∀ lv : List (Nat × Value), fx_le [(0, .ref a), (1, .int (nI i))] lv → (ml_i b (ml_n b (nI i)) ≠ 0 ∨ nI (ml_n b (nI i)) = ml_bd b) → fx_Y g mX2_deedFits 3 66 (fun r h' => r = some (.int (bI (ml_deed b i))) ∧ h' = h) (fun _ _ => False) 24 lv [] h 0 0 := by
    intro lv hlv hsg
    refine fx_sub _ hlv ?_
    by_cases hnx : ml_s b (nI i) = 128 ∨ i + ml_s b (nI i) + 1 < ml_rl b 6
    · have hlt : ml_nx b (nI i) < nI (ml_rl b 6) := by
        unfold ml_nx
        by_cases e : ml_s b (nI i) = 128
        · rw [if_pos (by omega)]
          exact i_neg (by decide) (by omega)
        · rw [if_neg (by omega), nI_add, nI_add]
          exact nI_lt (by omega) (by omega)
      refine fx_aloadn dX2_deedFits_24 rfl ?_
      refine fx_iloadn dX2_deedFits_25 rfl ?_
      refine fx_callVp dX2_deedFits_26 vX3_nextStep kkX2_93 rfl rfl (by assumption) (p_fo_nextStep H V _) rfl (by decide) (by decide) rfl (Nat.le_of_ble_eq_true rfl) ?_
      refine fx_aloadn dX2_deedFits_29 rfl ?_
      refine fx_bipush (nI 6) dX2_deedFits_30 (by decide) ?_
      refine fx_callVp dX2_deedFits_32 vX3_rowLength kkX2_54 rfl rfl (by assumption) (p_fo_rowLength H V 6 (by decide)) rfl (by decide) (by decide) rfl (Nat.le_of_ble_eq_true rfl) ?_
      refine fx_icmp_lt 40 dX2_deedFits_35 (by decide) (fun c35 => ?_) (fun c35 => absurd (hlt) c35)
      refine fx_aloadn dX2_deedFits_40 rfl ?_
      refine fx_iloadn dX2_deedFits_41 rfl ?_
      refine fx_callVp dX2_deedFits_42 vX3_isKern kkX2_96 rfl rfl (by assumption) (p_fo_isKern H V _) rfl (by decide) (by decide) rfl (Nat.le_of_ble_eq_true rfl) ?_
      refine fx_if_eqB 68 dX2_deedFits_45 (by decide) (fun c45 => ?_) (fun c45 => ?_)
      · skip
        refine fx_aloadn dX2_deedFits_68 rfl ?_
        refine fx_aloadn dX2_deedFits_69 rfl ?_
        refine fx_iloadn dX2_deedFits_70 rfl ?_
        refine fx_callVp dX2_deedFits_71 vX3_remainderOf kkX2_102 rfl rfl (by assumption) (p_fo_remainderOf H V _) rfl (by decide) (by decide) rfl (Nat.le_of_ble_eq_true rfl) ?_
        refine fx_callVp dX2_deedFits_74 vX3_hasCharacter kkX2_39 rfl rfl (by assumption) (p_fo_hasCharacter H V _) rfl (by decide) (by decide) rfl (Nat.le_of_ble_eq_true rfl) ?_
        refine fx_if_eqB 95 dX2_deedFits_77 (by decide) (fun c77 => ?_) (fun c77 => ?_)
        · skip
          refine fx_iconst (nI 0) dX2_deedFits_95 (by decide) ?_
          refine fx_zret dX2_deedFits_96 rfl rfl ?_
          refine fx_no (fun q => ?_)
          have := q.2.2
          rw [if_neg c45] at this
          exact c77 (by rw [ml_iI_n (by omega)]; exact this.1)
        · skip
          refine fx_aloadn dX2_deedFits_80 rfl ?_
          refine fx_iloadn dX2_deedFits_81 rfl ?_
          refine fx_callVp dX2_deedFits_82 vX3_deedOf kkX2_105 rfl rfl (by assumption) (p_fo_deedOf H V _) rfl (by decide) (by decide) rfl (Nat.le_of_ble_eq_true rfl) ?_
          refine fx_callSp dX2_deedFits_85 vX2_isLigature kkX2_108 (p_fc_isLigature _ q2) rfl (by decide) (by decide) rfl (Nat.le_of_ble_eq_true rfl) ?_
          refine fx_if_eqB 95 dX2_deedFits_88 (by decide) (fun c88 => ?_) (fun c88 => ?_)
          · skip
            refine fx_iconst (nI 0) dX2_deedFits_95 (by decide) ?_
            refine fx_zret dX2_deedFits_96 rfl rfl ?_
            refine fx_no (fun q => ?_)
            have := q.2.2
            rw [if_neg c45] at this
            exact c88 this.2
          · skip
            refine fx_iconst (nI 1) dX2_deedFits_91 (by decide) ?_
            refine fx_goto 96 dX2_deedFits_92 (by decide) ?_
            refine fx_zret dX2_deedFits_96 rfl rfl ?_
            exact fx_yes ⟨hsg, hnx, by rw [if_neg c45]; exact ⟨by rw [← ml_iI_n (b := b) (show ml_r b (nI i) < 2 ^ 31 by omega)]; exact c77, c88⟩⟩
      · skip
        refine fx_aloadn dX2_deedFits_48 rfl ?_
        refine fx_iloadn dX2_deedFits_49 rfl ?_
        refine fx_callVp dX2_deedFits_50 vX3_kernPlaceOf kkX2_99 rfl rfl (by assumption) (p_fo_kernPlaceOf H V _ c45) rfl (by decide) (by decide) rfl (Nat.le_of_ble_eq_true rfl) ?_
        refine fx_aloadn dX2_deedFits_53 rfl ?_
        refine fx_bipush (nI 7) dX2_deedFits_54 (by decide) ?_
        refine fx_callVp dX2_deedFits_56 vX3_rowLength kkX2_54 rfl rfl (by assumption) (p_fo_rowLength H V 7 (by decide)) rfl (by decide) (by decide) rfl (Nat.le_of_ble_eq_true rfl) ?_
        refine fx_icn_ge 66 dX2_deedFits_59 (by decide) (by omega) (by omega) (fun c59 => ?_) (fun c59 => ?_)
        · skip
          refine fx_iconst (nI 0) dX2_deedFits_66 (by decide) ?_
          refine fx_zret dX2_deedFits_67 rfl rfl ?_
          refine fx_no (fun q => ?_)
          have := q.2.2
          rw [if_pos c45] at this
          omega
        · skip
          refine fx_iconst (nI 1) dX2_deedFits_62 (by decide) ?_
          refine fx_goto 67 dX2_deedFits_63 (by decide) ?_
          refine fx_zret dX2_deedFits_67 rfl rfl ?_
          exact fx_yes ⟨hsg, hnx, by rw [if_pos c45]; exact c59⟩
    · have hnlt : ¬ ml_nx b (nI i) < nI (ml_rl b 6) := by
        unfold ml_nx
        rw [if_neg (by omega), nI_add, nI_add]
        exact nI_nlt (by omega) (by omega)
      refine fx_aloadn dX2_deedFits_24 rfl ?_
      refine fx_iloadn dX2_deedFits_25 rfl ?_
      refine fx_callVp dX2_deedFits_26 vX3_nextStep kkX2_93 rfl rfl (by assumption) (p_fo_nextStep H V _) rfl (by decide) (by decide) rfl (Nat.le_of_ble_eq_true rfl) ?_
      refine fx_aloadn dX2_deedFits_29 rfl ?_
      refine fx_bipush (nI 6) dX2_deedFits_30 (by decide) ?_
      refine fx_callVp dX2_deedFits_32 vX3_rowLength kkX2_54 rfl rfl (by assumption) (p_fo_rowLength H V 6 (by decide)) rfl (by decide) (by decide) rfl (Nat.le_of_ble_eq_true rfl) ?_
      refine fx_icmp_lt 40 dX2_deedFits_35 (by decide) (fun c35 => absurd c35 (hnlt)) (fun c35 => ?_)
      refine fx_iconst (nI 0) dX2_deedFits_38 (by decide) ?_
      refine fx_zret dX2_deedFits_39 rfl rfl ?_
      exact fx_no (fun q => hnx q.2.1)
  refine fx_aloadn dX2_deedFits_0 rfl ?_
  refine fx_iloadn dX2_deedFits_1 rfl ?_
  refine fx_callVp dX2_deedFits_2 vX3_signOf kkX2_87 rfl rfl (by assumption) (p_fo_signOf H V _) rfl (by decide) (by decide) rfl (Nat.le_of_ble_eq_true rfl) ?_
  refine fx_istoren dX2_deedFits_5 (by decide) ?_
  refine fx_aloadn dX2_deedFits_6 rfl ?_
  refine fx_iloadn dX2_deedFits_7 rfl ?_
  refine fx_callVp dX2_deedFits_8 vX3_hasCharacter kkX2_39 rfl rfl (by assumption) (p_fo_hasCharacter H V _) rfl (by decide) (by decide) rfl (Nat.le_of_ble_eq_true rfl) ?_
  refine fx_if_neB 24 dX2_deedFits_11 (by decide) (fun c11 => ?_) (fun c11 => ?_)
  · skip
    exact j24 _ ⟨rfl, rfl, trivial⟩ (Or.inl (by rw [← ml_iI_n (b := b) (show ml_n b (nI i) < 2 ^ 31 by omega)]; exact c11))
  · skip
    refine fx_iloadn dX2_deedFits_14 rfl ?_
    refine fx_aloadn dX2_deedFits_15 rfl ?_
    refine fx_callVp dX2_deedFits_16 vX3_boundary kkX2_90 rfl rfl (by assumption) (p_fo_boundary H V) rfl (by decide) (by decide) rfl (Nat.le_of_ble_eq_true rfl) ?_
    refine fx_icmp_eq 24 dX2_deedFits_19 (by decide) (fun c19 => ?_) (fun c19 => ?_)
    · skip
      exact j24 _ ⟨rfl, rfl, trivial⟩ (Or.inr c19)
    · skip
      refine fx_iconst (nI 0) dX2_deedFits_22 (by decide) ?_
      refine fx_zret dX2_deedFits_23 rfl rfl ?_
      exact fx_no (fun q => q.1.elim (fun e => c11 (by rw [ml_iI_n (by omega)]; exact e)) c19)
theorem l_fc_stepsFit {g : fx_G} {S : Nat → Prop} {h : fx_H} {a nw : Nat} {b : Nat → Nat} {z : Int32} (H : fo S h a b nw z) (V : ml_v b nw) : ∀ n k : Nat, k + n = ml_rl b 6 → (∀ j, j < k → ml_stp b j) → fx_Y g mX2_stepsFit 4 88 (fun r h' => r = some (.int (bI (ml_f5 b))) ∧ h' = h) (fun _ _ => False) 2 [(0, .ref a), (1, .int (nI k))] [] h 0 0 := by
  obtain ⟨fs, h1⟩ := H.at
  have q3 := V.rl (r := 6) (by decide)
  intro n
  induction n using Nat.strongRecOn with
  | ind n ih =>
  intro k hk hp
  refine fx_iloadn dX2_stepsFit_2 rfl ?_
  refine fx_aloadn dX2_stepsFit_3 rfl ?_
  refine fx_bipush (nI 6) dX2_stepsFit_4 (by decide) ?_
  refine fx_callVp dX2_stepsFit_6 vX3_rowLength kkX2_54 rfl rfl (by assumption) (p_fo_rowLength H V 6 (by decide)) rfl (by decide) (by decide) rfl (Nat.le_of_ble_eq_true rfl) ?_
  refine fx_icn_ge 47 dX2_stepsFit_9 (by decide) (by omega) (by omega) (fun c9 => ?_) (fun c9 => ?_)
  · skip
    refine fx_iconst (nI 1) dX2_stepsFit_47 (by decide) ?_
    refine fx_zret dX2_stepsFit_48 rfl rfl ?_
    exact fx_yes (fun j hj => hp j (by omega))
  · skip
    refine fx_aloadn dX2_stepsFit_12 rfl ?_
    refine fx_iloadn dX2_stepsFit_13 rfl ?_
    refine fx_callVp dX2_stepsFit_14 vX3_isJump kkX2_75 rfl rfl (by assumption) (p_fo_isJump H V _) rfl (by decide) (by decide) rfl (Nat.le_of_ble_eq_true rfl) ?_
    refine fx_if_eqB 31 dX2_stepsFit_17 (by decide) (fun c17 => ?_) (fun c17 => ?_)
    · skip
      refine fx_aloadn dX2_stepsFit_31 rfl ?_
      refine fx_iloadn dX2_stepsFit_32 rfl ?_
      refine fx_callSp dX2_stepsFit_33 vX2_deedFits kkX2_81 (p_fc_deedFits H V k c9 (by omega)) rfl (by decide) (by decide) rfl (Nat.le_of_ble_eq_true rfl) ?_
      refine fx_if_neB 41 dX2_stepsFit_36 (by decide) (fun c36 => ?_) (fun c36 => ?_)
      · skip
        refine fx_iinc (nI 1) dX2_stepsFit_41 rfl (by decide) (by decide) ?_
        refine fx_goto 2 dX2_stepsFit_44 (by decide) ?_
        simp only [nI_add]
        refine fx_to (ih (n - 1) (by omega) (k + 1) (by omega) (fun j hj => ?_)) ⟨rfl, rfl, trivial⟩
        by_cases e : j < k
        · exact hp j e
        · rw [show j = k by omega]
          unfold ml_stp
          rw [if_neg c17]
          exact c36
      · skip
        refine fx_iconst (nI 0) dX2_stepsFit_39 (by decide) ?_
        refine fx_zret dX2_stepsFit_40 rfl rfl ?_
        refine fx_no (fun q => ?_)
        have q9 := q k (by omega)
        unfold ml_stp at q9
        rw [if_neg c17] at q9
        exact c36 q9
    · skip
      refine fx_aloadn dX2_stepsFit_20 rfl ?_
      refine fx_iloadn dX2_stepsFit_21 rfl ?_
      refine fx_callSp dX2_stepsFit_22 vX2_jumpFits kkX2_78 (p_fc_jumpFits H V _) rfl (by decide) (by decide) rfl (Nat.le_of_ble_eq_true rfl) ?_
      refine fx_if_eqB 39 dX2_stepsFit_25 (by decide) (fun c25 => ?_) (fun c25 => ?_)
      · skip
        refine fx_iconst (nI 0) dX2_stepsFit_39 (by decide) ?_
        refine fx_zret dX2_stepsFit_40 rfl rfl ?_
        refine fx_no (fun q => ?_)
        have q9 := q k (by omega)
        unfold ml_stp at q9
        rw [if_pos c17] at q9
        exact c25 q9
      · skip
        refine fx_goto 41 dX2_stepsFit_28 (by decide) ?_
        refine fx_iinc (nI 1) dX2_stepsFit_41 rfl (by decide) (by decide) ?_
        refine fx_goto 2 dX2_stepsFit_44 (by decide) ?_
        simp only [nI_add]
        refine fx_to (ih (n - 1) (by omega) (k + 1) (by omega) (fun j hj => ?_)) ⟨rfl, rfl, trivial⟩
        by_cases e : j < k
        · exact hp j e
        · rw [show j = k by omega]
          unfold ml_stp
          rw [if_pos c17]
          exact c25
theorem p_fc_stepsFit {g : fx_G} {S : Nat → Prop} {h : fx_H} {a nw : Nat} {b : Nat → Nat} {z : Int32} (H : fo S h a b nw z) (V : ml_v b nw) : fx_P g mX2_stepsFit 4 88 [.ref a] h (.int (bI (ml_f5 b))) := by
  obtain ⟨fs, h1⟩ := H.at
  refine fx_Met.of rfl (Nat.le_of_ble_eq_true rfl) ?_
  refine fx_iconst (nI 0) dX2_stepsFit_0 (by decide) ?_
  refine fx_istoren dX2_stepsFit_1 (by decide) ?_
  exact fx_to (l_fc_stepsFit H V (ml_rl b 6) 0 (by omega) (fun j hj => by omega)) ⟨rfl, rfl, trivial⟩
theorem l_fc_piecesFit {g : fx_G} {S : Nat → Prop} {h : fx_H} {a nw : Nat} {b : Nat → Nat} {z : Int32} (H : fo S h a b nw z) (V : ml_v b nw) : ∀ n k : Nat, k + n = ml_rl b 8 → (∀ j, j < k → ml_pc b j) → fx_Y g mX2_piecesFit 3 63 (fun r h' => r = some (.int (bI (ml_f6 b))) ∧ h' = h) (fun _ _ => False) 2 [(0, .ref a), (1, .int (nI k))] [] h 0 0 := by
  obtain ⟨fs, h1⟩ := H.at
  have q3 := V.rl (r := 8) (by decide)
  intro n
  induction n using Nat.strongRecOn with
  | ind n ih =>
  intro k hk hp
  refine fx_iloadn dX2_piecesFit_2 rfl ?_
  refine fx_aloadn dX2_piecesFit_3 rfl ?_
  refine fx_bipush (nI 8) dX2_piecesFit_4 (by decide) ?_
  refine fx_callVp dX2_piecesFit_6 vX3_rowLength kkX2_54 rfl rfl (by assumption) (p_fo_rowLength H V 8 (by decide)) rfl (by decide) (by decide) rfl (Nat.le_of_ble_eq_true rfl) ?_
  refine fx_icn_ge 81 dX2_piecesFit_9 (by decide) (by omega) (by omega) (fun c9 => ?_) (fun c9 => ?_)
  · skip
    refine fx_iconst (nI 1) dX2_piecesFit_81 (by decide) ?_
    refine fx_zret dX2_piecesFit_82 rfl rfl ?_
    exact fx_yes (fun j hj => hp j (by omega))
  · skip
    refine fx_aloadn dX2_piecesFit_12 rfl ?_
    refine fx_bipush (nI 8) dX2_piecesFit_13 (by decide) ?_
    refine fx_iloadn dX2_piecesFit_15 rfl ?_
    refine fx_callVp dX2_piecesFit_16 vX3_wordAt kkX2_66 rfl rfl (by assumption) (p_fo_wordAt H V 8 (by decide) _) rfl (by decide) (by decide) rfl (Nat.le_of_ble_eq_true rfl) ?_
    rw [ml_eI_n 8 (by omega)]
    have q4 := ml_e_lt V.1 8 k
    refine fx_istoren dX2_piecesFit_19 (by decide) ?_
    refine fx_aloadn dX2_piecesFit_20 rfl ?_
    refine fx_iloadn dX2_piecesFit_21 rfl ?_
    refine fx_bipush (nI 24) dX2_piecesFit_22 (by decide) ?_
    refine fx_iushr dX2_piecesFit_24 ?_
    rw [pk_ushrN (q4) (nI 24) 24 (by decide)]
    refine fx_callSp dX2_piecesFit_25 vX2_partFits kkX2_111 (p_fc_partFits H V _ (by omega)) rfl (by decide) (by decide) rfl (Nat.le_of_ble_eq_true rfl) ?_
    refine fx_if_eqB 73 dX2_piecesFit_28 (by decide) (fun c28 => ?_) (fun c28 => ?_)
    · skip
      refine fx_iconst (nI 0) dX2_piecesFit_73 (by decide) ?_
      refine fx_zret dX2_piecesFit_74 rfl rfl ?_
      refine fx_no (fun q => ?_)
      have q9 := q k (by omega)
      exact c28 q9.1
    · skip
      refine fx_aloadn dX2_piecesFit_31 rfl ?_
      refine fx_iloadn dX2_piecesFit_32 rfl ?_
      refine fx_bipush (nI 16) dX2_piecesFit_33 (by decide) ?_
      refine fx_iushr dX2_piecesFit_35 ?_
      refine fx_sipush (nI 255) dX2_piecesFit_36 (by decide) ?_
      refine fx_iand dX2_piecesFit_39 ?_
      rw [pk_ushrN (q4) (nI 16) 16 (by decide), pk_andN (m := nI 255) (by omega) 8 (by decide)]
      refine fx_callSp dX2_piecesFit_40 vX2_partFits kkX2_111 (p_fc_partFits H V _ (by omega)) rfl (by decide) (by decide) rfl (Nat.le_of_ble_eq_true rfl) ?_
      refine fx_if_eqB 73 dX2_piecesFit_43 (by decide) (fun c43 => ?_) (fun c43 => ?_)
      · skip
        refine fx_iconst (nI 0) dX2_piecesFit_73 (by decide) ?_
        refine fx_zret dX2_piecesFit_74 rfl rfl ?_
        refine fx_no (fun q => ?_)
        have q9 := q k (by omega)
        exact c43 q9.2.1
      · skip
        refine fx_aloadn dX2_piecesFit_46 rfl ?_
        refine fx_iloadn dX2_piecesFit_47 rfl ?_
        refine fx_bipush (nI 8) dX2_piecesFit_48 (by decide) ?_
        refine fx_iushr dX2_piecesFit_50 ?_
        refine fx_sipush (nI 255) dX2_piecesFit_51 (by decide) ?_
        refine fx_iand dX2_piecesFit_54 ?_
        rw [pk_ushrN (q4) (nI 8) 8 (by decide), pk_andN (m := nI 255) (by omega) 8 (by decide)]
        refine fx_callSp dX2_piecesFit_55 vX2_partFits kkX2_111 (p_fc_partFits H V _ (by omega)) rfl (by decide) (by decide) rfl (Nat.le_of_ble_eq_true rfl) ?_
        refine fx_if_eqB 73 dX2_piecesFit_58 (by decide) (fun c58 => ?_) (fun c58 => ?_)
        · skip
          refine fx_iconst (nI 0) dX2_piecesFit_73 (by decide) ?_
          refine fx_zret dX2_piecesFit_74 rfl rfl ?_
          refine fx_no (fun q => ?_)
          have q9 := q k (by omega)
          exact c58 q9.2.2.1
        · skip
          refine fx_aloadn dX2_piecesFit_61 rfl ?_
          refine fx_iloadn dX2_piecesFit_62 rfl ?_
          refine fx_sipush (nI 255) dX2_piecesFit_63 (by decide) ?_
          refine fx_iand dX2_piecesFit_66 ?_
          rw [pk_andN (m := nI 255) (q4) 8 (by decide)]
          refine fx_callVp dX2_piecesFit_67 vX3_hasCharacter kkX2_39 rfl rfl (by assumption) (p_fo_hasCharacter H V _) rfl (by decide) (by decide) rfl (Nat.le_of_ble_eq_true rfl) ?_
          refine fx_if_neB 75 dX2_piecesFit_70 (by decide) (fun c70 => ?_) (fun c70 => ?_)
          · skip
            refine fx_iinc (nI 1) dX2_piecesFit_75 rfl (by decide) (by decide) ?_
            refine fx_goto 2 dX2_piecesFit_78 (by decide) ?_
            simp only [nI_add]
            refine fx_to (ih (n - 1) (by omega) (k + 1) (by omega) (fun j hj => ?_)) ⟨rfl, rfl, trivial⟩
            by_cases e : j < k
            · exact hp j e
            · rw [show j = k by omega]
              exact ⟨c28, c43, c58, by rw [← ml_iI_n (b := b) (show ml_e b 8 k % 256 < 2 ^ 31 by omega)]; exact c70⟩
          · skip
            refine fx_iconst (nI 0) dX2_piecesFit_73 (by decide) ?_
            refine fx_zret dX2_piecesFit_74 rfl rfl ?_
            refine fx_no (fun q => ?_)
            have q9 := q k (by omega)
            exact c70 (by rw [ml_iI_n (by omega)]; exact q9.2.2.2)
theorem p_fc_piecesFit {g : fx_G} {S : Nat → Prop} {h : fx_H} {a nw : Nat} {b : Nat → Nat} {z : Int32} (H : fo S h a b nw z) (V : ml_v b nw) : fx_P g mX2_piecesFit 3 63 [.ref a] h (.int (bI (ml_f6 b))) := by
  obtain ⟨fs, h1⟩ := H.at
  refine fx_Met.of rfl (Nat.le_of_ble_eq_true rfl) ?_
  refine fx_iconst (nI 0) dX2_piecesFit_0 (by decide) ?_
  refine fx_istoren dX2_piecesFit_1 (by decide) ?_
  exact fx_to (l_fc_piecesFit H V (ml_rl b 8) 0 (by omega) (fun j hj => by omega)) ⟨rfl, rfl, trivial⟩
theorem l_fc_areFractions {g : fx_G} {S : Nat → Prop} {h : fx_H} {a nw : Nat} {b : Nat → Nat} {z : Int32} (H : fo S h a b nw z) (V : ml_v b nw) (r k0 : Nat) (hr : r < 10) : ∀ n k : Nat, k0 ≤ k → (k + n = ml_rl b r ∨ (n = 0 ∧ ml_rl b r ≤ k ∧ k < 2)) → (∀ j, k0 ≤ j → j < k → j < ml_rl b r → ml_fr (ml_e b r j)) → fx_Y g mX2_areFractions 1 23 (fun q h' => q = some (.int (bI (ml_frs b r k0))) ∧ h' = h) (fun _ _ => False) 2 [(0, .ref a), (1, .int (nI r)), (3, .int (nI k))] [] h 0 0 := by
  obtain ⟨fs, h1⟩ := H.at
  have q3 := V.rl (r := r) hr
  intro n
  induction n using Nat.strongRecOn with
  | ind n ih =>
  intro k hk0 hk hp
  refine fx_iloadn dX2_areFractions_2 rfl ?_
  refine fx_aloadn dX2_areFractions_3 rfl ?_
  refine fx_iloadn dX2_areFractions_4 rfl ?_
  refine fx_callVp dX2_areFractions_5 vX3_rowLength kkX2_54 rfl rfl (by assumption) (p_fo_rowLength H V r hr) rfl (by decide) (by decide) rfl (Nat.le_of_ble_eq_true rfl) ?_
  refine fx_icn_ge 41 dX2_areFractions_8 (by decide) (by omega) (by omega) (fun c8 => ?_) (fun c8 => ?_)
  · skip
    refine fx_iconst (nI 1) dX2_areFractions_41 (by decide) ?_
    refine fx_zret dX2_areFractions_42 rfl rfl ?_
    exact fx_yes (fun j h0 hj => hp j h0 (by omega) hj)
  · skip
    refine fx_aloadn dX2_areFractions_11 rfl ?_
    refine fx_iloadn dX2_areFractions_12 rfl ?_
    refine fx_iloadn dX2_areFractions_13 rfl ?_
    refine fx_callVp dX2_areFractions_14 vX3_wordAt kkX2_66 rfl rfl (by assumption) (p_fo_wordAt H V r hr _) rfl (by decide) (by decide) rfl (Nat.le_of_ble_eq_true rfl) ?_
    rw [ml_eI_n r (by omega)]
    refine fx_istore dX2_areFractions_17 (by decide) ?_
    refine fx_iload dX2_areFractions_19 rfl ?_
    refine fx_ldc dX2_areFractions_21 qqX2_73 ?_
    refine fx_icmp_lt 33 dX2_areFractions_23 (by decide) (fun c23 => ?_) (fun c23 => ?_)
    · skip
      refine fx_iconst (nI 0) dX2_areFractions_33 (by decide) ?_
      refine fx_zret dX2_areFractions_34 rfl rfl ?_
      refine fx_no (fun q => ?_)
      have q9 := q k (by omega) (by omega)
      exact q9.1 c23
    · skip
      refine fx_iload dX2_areFractions_26 rfl ?_
      refine fx_ldc dX2_areFractions_28 qqX2_74 ?_
      refine fx_icmp_lt 35 dX2_areFractions_30 (by decide) (fun c30 => ?_) (fun c30 => ?_)
      · skip
        refine fx_iinc (nI 1) dX2_areFractions_35 rfl (by decide) (by decide) ?_
        refine fx_goto 2 dX2_areFractions_38 (by decide) ?_
        simp only [nI_add]
        refine fx_to (ih (n - 1) (by omega) (k + 1) (by omega) (by omega) (fun j h0 hj hj2 => ?_)) ⟨rfl, rfl, rfl, trivial⟩
        by_cases e : j < k
        · exact hp j h0 e hj2
        · rw [show j = k by omega]
          exact ⟨c23, c30⟩
      · skip
        refine fx_iconst (nI 0) dX2_areFractions_33 (by decide) ?_
        refine fx_zret dX2_areFractions_34 rfl rfl ?_
        refine fx_no (fun q => ?_)
        have q9 := q k (by omega) (by omega)
        exact c30 q9.2
theorem p_fc_areFractions {g : fx_G} {S : Nat → Prop} {h : fx_H} {a nw : Nat} {b : Nat → Nat} {z : Int32} (H : fo S h a b nw z) (V : ml_v b nw) (r k0 : Nat) (hr : r < 10) (hk0 : k0 < 2) : fx_P g mX2_areFractions 1 23 [.ref a, .int (nI r), .int (nI k0)] h (.int (bI (ml_frs b r k0))) := by
  obtain ⟨fs, h1⟩ := H.at
  refine fx_Met.of rfl (Nat.le_of_ble_eq_true rfl) ?_
  refine fx_iloadn dX2_areFractions_0 rfl ?_
  refine fx_istoren dX2_areFractions_1 (by decide) ?_
  by_cases e : k0 ≤ ml_rl b r
  · exact fx_to (l_fc_areFractions H V r k0 hr (ml_rl b r - k0) k0 (Nat.le_refl _) (by omega) (fun j h0 hj => by omega)) ⟨rfl, rfl, rfl, trivial⟩
  · exact fx_to (l_fc_areFractions H V r k0 hr 0 k0 (Nat.le_refl _) (by omega) (fun j h0 hj => by omega)) ⟨rfl, rfl, rfl, trivial⟩
theorem l_fc_fractionsFit {g : fx_G} {S : Nat → Prop} {h : fx_H} {a nw : Nat} {b : Nat → Nat} {z : Int32} (H : fo S h a b nw z) (V : ml_v b nw) : ∀ n k : Nat, 2 ≤ k → k + n = 6 → (∀ j, 2 ≤ j → j < k → ml_e b j 0 = 0 ∧ ml_frs b j 1) → fx_Y g mX2_fractionsFit 2 47 (fun q h' => q = some (.int (bI (ml_f4 b))) ∧ h' = h) (fun _ _ => False) 2 [(0, .ref a), (1, .int (nI k))] [] h 0 0 := by
  obtain ⟨fs, h1⟩ := H.at
  intro n
  induction n using Nat.strongRecOn with
  | ind n ih =>
  intro k hk2 hk hp
  refine fx_iloadn dX2_fractionsFit_2 rfl ?_
  refine fx_iconst (nI 5) dX2_fractionsFit_3 (by decide) ?_
  refine fx_icn_gt 33 dX2_fractionsFit_4 (by decide) (by omega) (by omega) (fun c4 => ?_) (fun c4 => ?_)
  · skip
    refine fx_aloadn dX2_fractionsFit_33 rfl ?_
    refine fx_bipush (nI 7) dX2_fractionsFit_34 (by decide) ?_
    refine fx_iconst (nI 0) dX2_fractionsFit_36 (by decide) ?_
    refine fx_callSp dX2_fractionsFit_37 vX2_areFractions kkX2_69 (p_fc_areFractions H V 7 0 (by decide) (by decide)) rfl (by decide) (by decide) rfl (Nat.le_of_ble_eq_true rfl) ?_
    refine fx_if_eqB 57 dX2_fractionsFit_40 (by decide) (fun c40 => ?_) (fun c40 => ?_)
    · skip
      refine fx_iconst (nI 0) dX2_fractionsFit_57 (by decide) ?_
      refine fx_zret dX2_fractionsFit_58 rfl rfl ?_
      exact fx_no (fun q => c40 q.2.1)
    · skip
      refine fx_aloadn dX2_fractionsFit_43 rfl ?_
      refine fx_bipush (nI 9) dX2_fractionsFit_44 (by decide) ?_
      refine fx_iconst (nI 1) dX2_fractionsFit_46 (by decide) ?_
      refine fx_callSp dX2_fractionsFit_47 vX2_areFractions kkX2_69 (p_fc_areFractions H V 9 1 (by decide) (by decide)) rfl (by decide) (by decide) rfl (Nat.le_of_ble_eq_true rfl) ?_
      refine fx_if_eqB 57 dX2_fractionsFit_50 (by decide) (fun c50 => ?_) (fun c50 => ?_)
      · skip
        refine fx_iconst (nI 0) dX2_fractionsFit_57 (by decide) ?_
        refine fx_zret dX2_fractionsFit_58 rfl rfl ?_
        exact fx_no (fun q => c50 q.2.2)
      · skip
        refine fx_iconst (nI 1) dX2_fractionsFit_53 (by decide) ?_
        refine fx_goto 58 dX2_fractionsFit_54 (by decide) ?_
        refine fx_zret dX2_fractionsFit_58 rfl rfl ?_
        exact fx_yes ⟨fun r h2 hr => hp r h2 (by omega), c40, c50⟩
  · skip
    refine fx_aloadn dX2_fractionsFit_7 rfl ?_
    refine fx_iloadn dX2_fractionsFit_8 rfl ?_
    refine fx_iconst (nI 0) dX2_fractionsFit_9 (by decide) ?_
    refine fx_callVp dX2_fractionsFit_10 vX3_wordAt kkX2_66 rfl rfl (by assumption) (p_fo_wordAt H V k (by omega) _) rfl (by decide) (by decide) rfl (Nat.le_of_ble_eq_true rfl) ?_
    refine fx_if_ne 25 dX2_fractionsFit_13 (by decide) (fun c13 => ?_) (fun c13 => ?_)
    · skip
      refine fx_iconst (nI 0) dX2_fractionsFit_25 (by decide) ?_
      refine fx_zret dX2_fractionsFit_26 rfl rfl ?_
      refine fx_no (fun q => ?_)
      exact c13 (by rw [ml_eI_n k (by decide), (q.1 k (by omega) (by omega)).1]; rfl)
    · skip
      refine fx_aloadn dX2_fractionsFit_16 rfl ?_
      refine fx_iloadn dX2_fractionsFit_17 rfl ?_
      refine fx_iconst (nI 1) dX2_fractionsFit_18 (by decide) ?_
      refine fx_callSp dX2_fractionsFit_19 vX2_areFractions kkX2_69 (p_fc_areFractions H V k 1 (by omega) (by decide)) rfl (by decide) (by decide) rfl (Nat.le_of_ble_eq_true rfl) ?_
      refine fx_if_neB 27 dX2_fractionsFit_22 (by decide) (fun c22 => ?_) (fun c22 => ?_)
      · skip
        refine fx_iinc (nI 1) dX2_fractionsFit_27 rfl (by decide) (by decide) ?_
        refine fx_goto 2 dX2_fractionsFit_30 (by decide) ?_
        simp only [nI_add]
        refine fx_to (ih (n - 1) (by omega) (k + 1) (by omega) (by omega) (fun j h2 hj => ?_)) ⟨rfl, rfl, trivial⟩
        by_cases e : j < k
        · exact hp j h2 e
        · rw [show j = k by omega]
          refine ⟨?_, c22⟩
          rw [ml_eI_n k (by decide)] at c13
          exact (nI_eq0 (ml_e_lt V.1 k 0)).mp c13
      · skip
        refine fx_iconst (nI 0) dX2_fractionsFit_25 (by decide) ?_
        refine fx_zret dX2_fractionsFit_26 rfl rfl ?_
        exact fx_no (fun q => c22 (q.1 k (by omega) (by omega)).2)
theorem p_fc_fractionsFit {g : fx_G} {S : Nat → Prop} {h : fx_H} {a nw : Nat} {b : Nat → Nat} {z : Int32} (H : fo S h a b nw z) (V : ml_v b nw) : fx_P g mX2_fractionsFit 2 47 [.ref a] h (.int (bI (ml_f4 b))) := by
  obtain ⟨fs, h1⟩ := H.at
  refine fx_Met.of rfl (Nat.le_of_ble_eq_true rfl) ?_
  refine fx_iconst (nI 2) dX2_fractionsFit_0 (by decide) ?_
  refine fx_istoren dX2_fractionsFit_1 (by decide) ?_
  exact fx_to (l_fc_fractionsFit H V 4 2 (by decide) rfl (fun j h0 hj => by omega)) ⟨rfl, rfl, trivial⟩
theorem l_fc_placesFit {g : fx_G} {S : Nat → Prop} {h : fx_H} {a nw : Nat} {b : Nat → Nat} {z : Int32} (H : fo S h a b nw z) (V : ml_v b nw) (c : Nat) : ∀ n k : Nat, k + n = 4 → (∀ j, j < k → ml_pl b (nI c) j < ml_rl b (2 + j)) → fx_Y g mX2_placesFit 2 44 (fun q h' => q = some (.int (bI (ml_pls b c))) ∧ h' = h) (fun _ _ => False) 2 [(0, .ref a), (1, .int (nI c)), (2, .int (nI k))] [] h 0 0 := by
  obtain ⟨fs, h1⟩ := H.at
  intro n
  induction n using Nat.strongRecOn with
  | ind n ih =>
  intro k hk hp
  refine fx_iloadn dX2_placesFit_2 rfl ?_
  refine fx_iconst (nI 4) dX2_placesFit_3 (by decide) ?_
  refine fx_icn_ge 31 dX2_placesFit_4 (by decide) (by omega) (by omega) (fun c4 => ?_) (fun c4 => ?_)
  · skip
    refine fx_iconst (nI 1) dX2_placesFit_31 (by decide) ?_
    refine fx_zret dX2_placesFit_32 rfl rfl ?_
    exact fx_yes (fun j hj => hp j (by omega))
  · skip
    refine fx_aloadn dX2_placesFit_7 rfl ?_
    refine fx_iloadn dX2_placesFit_8 rfl ?_
    refine fx_iloadn dX2_placesFit_9 rfl ?_
    refine fx_callVp dX2_placesFit_10 vX3_placeOf kkX2_50 rfl rfl (by assumption) (p_fo_placeOf H V _ k c4) rfl (by decide) (by decide) rfl (Nat.le_of_ble_eq_true rfl) ?_
    refine fx_aloadn dX2_placesFit_13 rfl ?_
    refine fx_iconst (nI 2) dX2_placesFit_14 (by decide) ?_
    refine fx_iloadn dX2_placesFit_15 rfl ?_
    refine fx_iadd dX2_placesFit_16 ?_
    rw [nI_add]
    have q4 := ml_pl_lt V.1 (nI c) k
    have q5 := V.rl (r := 2 + k) (by omega)
    refine fx_callVp dX2_placesFit_17 vX3_rowLength kkX2_54 rfl rfl (by assumption) (p_fo_rowLength H V (2 + k) (by omega)) rfl (by decide) (by decide) rfl (Nat.le_of_ble_eq_true rfl) ?_
    refine fx_icn_lt 25 dX2_placesFit_20 (by decide) (by omega) (by omega) (fun c20 => ?_) (fun c20 => ?_)
    · skip
      refine fx_iinc (nI 1) dX2_placesFit_25 rfl (by decide) (by decide) ?_
      refine fx_goto 2 dX2_placesFit_28 (by decide) ?_
      simp only [nI_add]
      refine fx_to (ih (n - 1) (by omega) (k + 1) (by omega) (fun j hj => ?_)) ⟨rfl, rfl, rfl, trivial⟩
      by_cases e : j < k
      · exact hp j e
      · rw [show j = k by omega]
        exact c20
    · skip
      refine fx_iconst (nI 0) dX2_placesFit_23 (by decide) ?_
      refine fx_zret dX2_placesFit_24 rfl rfl ?_
      exact fx_no (fun q => by have := q k c4; omega)
theorem p_fc_placesFit {g : fx_G} {S : Nat → Prop} {h : fx_H} {a nw : Nat} {b : Nat → Nat} {z : Int32} (H : fo S h a b nw z) (V : ml_v b nw) (c : Nat) : fx_P g mX2_placesFit 2 44 [.ref a, .int (nI c)] h (.int (bI (ml_pls b c))) := by
  obtain ⟨fs, h1⟩ := H.at
  refine fx_Met.of rfl (Nat.le_of_ble_eq_true rfl) ?_
  refine fx_iconst (nI 0) dX2_placesFit_0 (by decide) ?_
  refine fx_istoren dX2_placesFit_1 (by decide) ?_
  exact fx_to (l_fc_placesFit H V c 4 0 rfl (fun j hj => by omega)) ⟨rfl, rfl, rfl, trivial⟩
theorem l_fc_chainEnds {g : fx_G} {S : Nat → Prop} {h : fx_H} {a nw : Nat} {b : Nat → Nat} {z : Int32} (H : fo S h a b nw z) (V : ml_v b nw) (c : Nat) (hc : c < 256) (P : Prop) : ∀ n k x : Nat, k + n = 256 → x < 256 → ml_ce b c n x = P → fx_Y g mX2_chainEnds 2 42 (fun q h' => q = some (.int (bI P)) ∧ h' = h) (fun _ _ => False) 4 [(0, .ref a), (1, .int (nI c)), (2, .int (nI x)), (3, .int (nI k))] [] h 0 0 := by
  obtain ⟨fs, h1⟩ := H.at
  intro n
  induction n using Nat.strongRecOn with
  | ind n ih =>
  intro k x hk hx hv
  refine fx_iloadn dX2_chainEnds_4 rfl ?_
  refine fx_sipush (nI 256) dX2_chainEnds_5 (by decide) ?_
  refine fx_icn_ge 41 dX2_chainEnds_8 (by decide) (by omega) (by omega) (fun c8 => ?_) (fun c8 => ?_)
  · skip
    refine fx_iconst (nI 0) dX2_chainEnds_41 (by decide) ?_
    refine fx_zret dX2_chainEnds_42 rfl rfl ?_
    have : n = 0 := by omega
    subst this
    exact fx_no (by rw [← hv]; exact id)
  · skip
    refine fx_aloadn dX2_chainEnds_11 rfl ?_
    refine fx_iloadn dX2_chainEnds_12 rfl ?_
    refine fx_callVp dX2_chainEnds_13 vX3_tagOf kkX2_60 rfl rfl (by assumption) (p_fo_tagOf H V _) rfl (by decide) (by decide) rfl (Nat.le_of_ble_eq_true rfl) ?_
    have q4 := ml_tag_lt (b := b) (nI x)
    have q5 := ml_rest_lt (b := b) (nI x)
    refine fx_iconst (nI 2) dX2_chainEnds_16 (by decide) ?_
    refine fx_icn_eq 22 dX2_chainEnds_17 (by decide) (by omega) (by omega) (fun c17 => ?_) (fun c17 => ?_)
    · skip
      refine fx_aloadn dX2_chainEnds_22 rfl ?_
      refine fx_iloadn dX2_chainEnds_23 rfl ?_
      refine fx_callVp dX2_chainEnds_24 vX3_restOf kkX2_57 rfl rfl (by assumption) (p_fo_restOf H V _) rfl (by decide) (by decide) rfl (Nat.le_of_ble_eq_true rfl) ?_
      refine fx_istoren dX2_chainEnds_27 (by decide) ?_
      refine fx_iloadn dX2_chainEnds_28 rfl ?_
      refine fx_iloadn dX2_chainEnds_29 rfl ?_
      refine fx_icn_ne 35 dX2_chainEnds_30 (by decide) (by omega) (by omega) (fun c30 => ?_) (fun c30 => ?_)
      · skip
        refine fx_iinc (nI 1) dX2_chainEnds_35 rfl (by decide) (by decide) ?_
        refine fx_goto 4 dX2_chainEnds_38 (by decide) ?_
        cases n with
        | zero => omega
        | succ n =>
          simp only [nI_add]
          refine fx_to (ih n (by omega) (k + 1) _ (by omega) (by omega) ?_) ⟨rfl, rfl, rfl, rfl, trivial⟩
          rw [← hv]
          show _ = ml_ce b c (n + 1) x
          conv => rhs; unfold ml_ce
          rw [if_pos c17, if_neg c30]
      · skip
        refine fx_iconst (nI 0) dX2_chainEnds_33 (by decide) ?_
        refine fx_zret dX2_chainEnds_34 rfl rfl ?_
        cases n with
        | zero => omega
        | succ n =>
          exact fx_no (by rw [← hv]; unfold ml_ce; rw [if_pos c17, if_pos c30]; exact id)
    · skip
      refine fx_iconst (nI 1) dX2_chainEnds_20 (by decide) ?_
      refine fx_zret dX2_chainEnds_21 rfl rfl ?_
      cases n with
      | zero => omega
      | succ n =>
        exact fx_yes (by rw [← hv]; unfold ml_ce; rw [if_neg c17]; trivial)
theorem p_fc_chainEnds {g : fx_G} {S : Nat → Prop} {h : fx_H} {a nw : Nat} {b : Nat → Nat} {z : Int32} (H : fo S h a b nw z) (V : ml_v b nw) (c : Nat) (hc : c < 256) : fx_P g mX2_chainEnds 2 42 [.ref a, .int (nI c)] h (.int (bI (ml_ce b c 256 c))) := by
  obtain ⟨fs, h1⟩ := H.at
  refine fx_Met.of rfl (Nat.le_of_ble_eq_true rfl) ?_
  refine fx_iloadn dX2_chainEnds_0 rfl ?_
  refine fx_istoren dX2_chainEnds_1 (by decide) ?_
  refine fx_iconst (nI 0) dX2_chainEnds_2 (by decide) ?_
  refine fx_istoren dX2_chainEnds_3 (by decide) ?_
  exact fx_to (l_fc_chainEnds H V c hc _ 256 0 c rfl hc rfl) ⟨rfl, rfl, rfl, rfl, trivial⟩
theorem p_fc_tagFits {g : fx_G} {S : Nat → Prop} {h : fx_H} {a nw : Nat} {b : Nat → Nat} {z : Int32} (H : fo S h a b nw z) (V : ml_v b nw) (c : Nat) (hc : c < 256) : fx_P g mX2_tagFits 3 65 [.ref a, .int (nI c)] h (.int (bI (ml_tgC b c))) := by
  obtain ⟨fs, h1⟩ := H.at
  refine fx_Met.of rfl (Nat.le_of_ble_eq_true rfl) ?_
  have q1 := ml_tag_lt (b := b) (nI c)
  have q2 := ml_rest_lt (b := b) (nI c)
  have q3 := V.rl (r := 6) (by decide)
  have q4 := V.rl (r := 8) (by decide)
  rcases (show ml_tag b (nI c) = 0 ∨ ml_tag b (nI c) = 1 ∨ ml_tag b (nI c) = 2 ∨ ml_tag b (nI c) = 3 by omega) with ht | ht | ht | ht
  · skip
    refine fx_aloadn dX2_tagFits_0 rfl ?_
    refine fx_iloadn dX2_tagFits_1 rfl ?_
    refine fx_callVp dX2_tagFits_2 vX3_restOf kkX2_57 rfl rfl (by assumption) (p_fo_restOf H V _) rfl (by decide) (by decide) rfl (Nat.le_of_ble_eq_true rfl) ?_
    refine fx_istoren dX2_tagFits_5 (by decide) ?_
    refine fx_aloadn dX2_tagFits_6 rfl ?_
    refine fx_iloadn dX2_tagFits_7 rfl ?_
    refine fx_callVp dX2_tagFits_8 vX3_tagOf kkX2_60 rfl rfl (by assumption) (p_fo_tagOf H V _) rfl (by decide) (by decide) rfl (Nat.le_of_ble_eq_true rfl) ?_
    rw [ht]
    refine fx_tswOut 90 dX2_tagFits_11 (by decide) (by decide) ?_
    refine fx_iconst (nI 1) dX2_tagFits_90 (by decide) ?_
    refine fx_zret dX2_tagFits_91 rfl rfl ?_
    exact fx_yes ⟨fun e => by omega, fun e => by omega, fun e => by omega⟩
  · skip
    refine fx_aloadn dX2_tagFits_0 rfl ?_
    refine fx_iloadn dX2_tagFits_1 rfl ?_
    refine fx_callVp dX2_tagFits_2 vX3_restOf kkX2_57 rfl rfl (by assumption) (p_fo_restOf H V _) rfl (by decide) (by decide) rfl (Nat.le_of_ble_eq_true rfl) ?_
    refine fx_istoren dX2_tagFits_5 (by decide) ?_
    refine fx_aloadn dX2_tagFits_6 rfl ?_
    refine fx_iloadn dX2_tagFits_7 rfl ?_
    refine fx_callVp dX2_tagFits_8 vX3_tagOf kkX2_60 rfl rfl (by assumption) (p_fo_tagOf H V _) rfl (by decide) (by decide) rfl (Nat.le_of_ble_eq_true rfl) ?_
    rw [ht]
    refine fx_tswIn 25 36 dX2_tagFits_11 (by decide) (by decide) rfl (by decide) ?_
    refine fx_iloadn dX2_tagFits_36 rfl ?_
    refine fx_aloadn dX2_tagFits_37 rfl ?_
    refine fx_bipush (nI 6) dX2_tagFits_38 (by decide) ?_
    refine fx_callVp dX2_tagFits_40 vX3_rowLength kkX2_54 rfl rfl (by assumption) (p_fo_rowLength H V 6 (by decide)) rfl (by decide) (by decide) rfl (Nat.le_of_ble_eq_true rfl) ?_
    refine fx_icn_ge 50 dX2_tagFits_43 (by decide) (by omega) (by omega) (fun c43 => ?_) (fun c43 => ?_)
    · skip
      refine fx_iconst (nI 0) dX2_tagFits_50 (by decide) ?_
      refine fx_zret dX2_tagFits_51 rfl rfl ?_
      exact fx_no (fun q => by have := q.1 ht; omega)
    · skip
      refine fx_iconst (nI 1) dX2_tagFits_46 (by decide) ?_
      refine fx_goto 51 dX2_tagFits_47 (by decide) ?_
      refine fx_zret dX2_tagFits_51 rfl rfl ?_
      exact fx_yes ⟨fun e => c43, fun e => by omega, fun e => by omega⟩
  · skip
    refine fx_aloadn dX2_tagFits_0 rfl ?_
    refine fx_iloadn dX2_tagFits_1 rfl ?_
    refine fx_callVp dX2_tagFits_2 vX3_restOf kkX2_57 rfl rfl (by assumption) (p_fo_restOf H V _) rfl (by decide) (by decide) rfl (Nat.le_of_ble_eq_true rfl) ?_
    refine fx_istoren dX2_tagFits_5 (by decide) ?_
    refine fx_aloadn dX2_tagFits_6 rfl ?_
    refine fx_iloadn dX2_tagFits_7 rfl ?_
    refine fx_callVp dX2_tagFits_8 vX3_tagOf kkX2_60 rfl rfl (by assumption) (p_fo_tagOf H V _) rfl (by decide) (by decide) rfl (Nat.le_of_ble_eq_true rfl) ?_
    rw [ht]
    refine fx_tswIn 41 52 dX2_tagFits_11 (by decide) (by decide) rfl (by decide) ?_
    refine fx_aloadn dX2_tagFits_52 rfl ?_
    refine fx_iloadn dX2_tagFits_53 rfl ?_
    refine fx_callVp dX2_tagFits_54 vX3_hasCharacter kkX2_39 rfl rfl (by assumption) (p_fo_hasCharacter H V _) rfl (by decide) (by decide) rfl (Nat.le_of_ble_eq_true rfl) ?_
    refine fx_if_eqB 72 dX2_tagFits_57 (by decide) (fun c57 => ?_) (fun c57 => ?_)
    · skip
      refine fx_iconst (nI 0) dX2_tagFits_72 (by decide) ?_
      refine fx_zret dX2_tagFits_73 rfl rfl ?_
      exact fx_no (fun q => c57 (by rw [ml_iI_n (by omega)]; exact (q.2.1 ht).1))
    · skip
      refine fx_aloadn dX2_tagFits_60 rfl ?_
      refine fx_iloadn dX2_tagFits_61 rfl ?_
      refine fx_callSp dX2_tagFits_62 vX2_chainEnds kkX2_63 (p_fc_chainEnds H V c hc) rfl (by decide) (by decide) rfl (Nat.le_of_ble_eq_true rfl) ?_
      refine fx_if_eqB 72 dX2_tagFits_65 (by decide) (fun c65 => ?_) (fun c65 => ?_)
      · skip
        refine fx_iconst (nI 0) dX2_tagFits_72 (by decide) ?_
        refine fx_zret dX2_tagFits_73 rfl rfl ?_
        exact fx_no (fun q => c65 (q.2.1 ht).2)
      · skip
        refine fx_iconst (nI 1) dX2_tagFits_68 (by decide) ?_
        refine fx_goto 73 dX2_tagFits_69 (by decide) ?_
        refine fx_zret dX2_tagFits_73 rfl rfl ?_
        exact fx_yes ⟨fun e => by omega, fun e => ⟨by rw [← ml_iI_n (b := b) (show ml_rest b (nI c) < 2 ^ 31 by omega)]; exact c57, c65⟩, fun e => by omega⟩
  · skip
    refine fx_aloadn dX2_tagFits_0 rfl ?_
    refine fx_iloadn dX2_tagFits_1 rfl ?_
    refine fx_callVp dX2_tagFits_2 vX3_restOf kkX2_57 rfl rfl (by assumption) (p_fo_restOf H V _) rfl (by decide) (by decide) rfl (Nat.le_of_ble_eq_true rfl) ?_
    refine fx_istoren dX2_tagFits_5 (by decide) ?_
    refine fx_aloadn dX2_tagFits_6 rfl ?_
    refine fx_iloadn dX2_tagFits_7 rfl ?_
    refine fx_callVp dX2_tagFits_8 vX3_tagOf kkX2_60 rfl rfl (by assumption) (p_fo_tagOf H V _) rfl (by decide) (by decide) rfl (Nat.le_of_ble_eq_true rfl) ?_
    rw [ht]
    refine fx_tswIn 63 74 dX2_tagFits_11 (by decide) (by decide) rfl (by decide) ?_
    refine fx_iloadn dX2_tagFits_74 rfl ?_
    refine fx_aloadn dX2_tagFits_75 rfl ?_
    refine fx_bipush (nI 8) dX2_tagFits_76 (by decide) ?_
    refine fx_callVp dX2_tagFits_78 vX3_rowLength kkX2_54 rfl rfl (by assumption) (p_fo_rowLength H V 8 (by decide)) rfl (by decide) (by decide) rfl (Nat.le_of_ble_eq_true rfl) ?_
    refine fx_icn_ge 88 dX2_tagFits_81 (by decide) (by omega) (by omega) (fun c81 => ?_) (fun c81 => ?_)
    · skip
      refine fx_iconst (nI 0) dX2_tagFits_88 (by decide) ?_
      refine fx_zret dX2_tagFits_89 rfl rfl ?_
      exact fx_no (fun q => by have := q.2.2 ht; omega)
    · skip
      refine fx_iconst (nI 1) dX2_tagFits_84 (by decide) ?_
      refine fx_goto 89 dX2_tagFits_85 (by decide) ?_
      refine fx_zret dX2_tagFits_89 rfl rfl ?_
      exact fx_yes ⟨fun e => by omega, fun e => by omega, fun e => c81⟩

theorem l_fc_infosFit {g : fx_G} {S : Nat → Prop} {h : fx_H} {a nw : Nat} {b : Nat → Nat} {z : Int32} (H : fo S h a b nw z) (V : ml_v b nw) : ∀ n k : Nat, k + n = 256 → (∀ j, j < k → ml_i b j ≠ 0 → ml_pls b j ∧ ml_tgC b j) → fx_Y g mX2_infosFit 4 87 (fun q h' => q = some (.int (bI (ml_f3C b))) ∧ h' = h) (fun _ _ => False) 2 [(0, .ref a), (1, .int (nI k))] [] h 0 0 := by
  obtain ⟨fs, h1⟩ := H.at
  intro n
  induction n using Nat.strongRecOn with
  | ind n ih =>
  intro k hk hp
  refine fx_iloadn dX2_infosFit_2 rfl ?_
  refine fx_sipush (nI 256) dX2_infosFit_3 (by decide) ?_
  refine fx_icn_ge 41 dX2_infosFit_6 (by decide) (by omega) (by omega) (fun c6 => ?_) (fun c6 => ?_)
  · skip
    refine fx_iconst (nI 1) dX2_infosFit_41 (by decide) ?_
    refine fx_zret dX2_infosFit_42 rfl rfl ?_
    exact fx_yes (fun j hj => hp j (by omega))
  · skip
    refine fx_aloadn dX2_infosFit_9 rfl ?_
    refine fx_iloadn dX2_infosFit_10 rfl ?_
    refine fx_callVp dX2_infosFit_11 vX3_hasCharacter kkX2_39 rfl rfl (by assumption) (p_fo_hasCharacter H V _) rfl (by decide) (by decide) rfl (Nat.le_of_ble_eq_true rfl) ?_
    refine fx_if_eqB 35 dX2_infosFit_14 (by decide) (fun c14 => ?_) (fun c14 => ?_)
    · skip
      refine fx_iinc (nI 1) dX2_infosFit_35 rfl (by decide) (by decide) ?_
      refine fx_goto 2 dX2_infosFit_38 (by decide) ?_
      simp only [nI_add]
      refine fx_to (ih (n - 1) (by omega) (k + 1) (by omega) (fun j hj => ?_)) ⟨rfl, rfl, trivial⟩
      by_cases e : j < k
      · exact hp j e
      · rw [show j = k by omega]
        exact fun e => absurd (by rw [ml_iI_n (by omega)]; exact e) c14
    · skip
      refine fx_aloadn dX2_infosFit_17 rfl ?_
      refine fx_iloadn dX2_infosFit_18 rfl ?_
      refine fx_callSp dX2_infosFit_19 vX2_placesFit kkX2_43 (p_fc_placesFit H V k) rfl (by decide) (by decide) rfl (Nat.le_of_ble_eq_true rfl) ?_
      refine fx_if_eqB 33 dX2_infosFit_22 (by decide) (fun c22 => ?_) (fun c22 => ?_)
      · skip
        refine fx_iconst (nI 0) dX2_infosFit_33 (by decide) ?_
        refine fx_zret dX2_infosFit_34 rfl rfl ?_
        exact fx_no (fun q => c22 (q k c6 (by rw [← ml_iI_n (b := b) (show k < 2 ^ 31 by omega)]; exact c14)).1)
      · skip
        refine fx_aloadn dX2_infosFit_25 rfl ?_
        refine fx_iloadn dX2_infosFit_26 rfl ?_
        refine fx_callSp dX2_infosFit_27 vX2_tagFits kkX2_47 (p_fc_tagFits H V k c6) rfl (by decide) (by decide) rfl (Nat.le_of_ble_eq_true rfl) ?_
        refine fx_if_neB 35 dX2_infosFit_30 (by decide) (fun c30 => ?_) (fun c30 => ?_)
        · skip
          refine fx_iinc (nI 1) dX2_infosFit_35 rfl (by decide) (by decide) ?_
          refine fx_goto 2 dX2_infosFit_38 (by decide) ?_
          simp only [nI_add]
          refine fx_to (ih (n - 1) (by omega) (k + 1) (by omega) (fun j hj => ?_)) ⟨rfl, rfl, trivial⟩
          by_cases e : j < k
          · exact hp j e
          · rw [show j = k by omega]
            exact fun _ => ⟨c22, c30⟩
        · skip
          refine fx_iconst (nI 0) dX2_infosFit_33 (by decide) ?_
          refine fx_zret dX2_infosFit_34 rfl rfl ?_
          exact fx_no (fun q => c30 (q k c6 (by rw [← ml_iI_n (b := b) (show k < 2 ^ 31 by omega)]; exact c14)).2)
theorem p_fc_infosFit {g : fx_G} {S : Nat → Prop} {h : fx_H} {a nw : Nat} {b : Nat → Nat} {z : Int32} (H : fo S h a b nw z) (V : ml_v b nw) : fx_P g mX2_infosFit 4 87 [.ref a] h (.int (bI (ml_f3C b))) := by
  obtain ⟨fs, h1⟩ := H.at
  refine fx_Met.of rfl (Nat.le_of_ble_eq_true rfl) ?_
  refine fx_iconst (nI 0) dX2_infosFit_0 (by decide) ?_
  refine fx_istoren dX2_infosFit_1 (by decide) ?_
  exact fx_to (l_fc_infosFit H V 256 0 rfl (fun j hj => by omega)) ⟨rfl, rfl, trivial⟩
/-- faults 2 to 6 of a file whose halves fit, as the class finds them; 0 without -/
noncomputable def ml_ftC (b : Nat → Nat) : Nat := @ite _ (nI (ml_e b 0 1) < nI 1048576) (Classical.propDecidable _) 2 (@ite _ (ml_f3C b) (Classical.propDecidable _) (@ite _ (ml_f4 b) (Classical.propDecidable _) (@ite _ (ml_f5 b) (Classical.propDecidable _) (@ite _ (ml_f6 b) (Classical.propDecidable _) 0 6) 5) 4) 3)
theorem p_fc_faultOf {g : fx_G} {S : Nat → Prop} {h : fx_H} {a nw : Nat} {b : Nat → Nat} {z : Int32} (H : fo S h a b nw z) (V : ml_v b nw) : fx_P g mX2_faultOf 5 109 [.ref a] h (.int (nI (ml_ftC b))) := by
  obtain ⟨fs, h1⟩ := H.at
  refine fx_Met.of rfl (Nat.le_of_ble_eq_true rfl) ?_
  refine fx_aloadn dX2_faultOf_0 rfl ?_
  refine fx_ifnonnullR 6 dX2_faultOf_1 (by decide) ?_
  refine fx_aloadn dX2_faultOf_6 rfl ?_
  refine fx_callVp dX2_faultOf_7 vX3_designSize kkX2_18 rfl rfl (by assumption) (p_fo_designSize H V) rfl (by decide) (by decide) rfl (Nat.le_of_ble_eq_true rfl) ?_
  refine fx_ldc dX2_faultOf_10 qqX2_25 ?_
  refine fx_icmp_ge 17 dX2_faultOf_12 (by decide) (fun c12 => ?_) (fun c12 => ?_)
  · skip
    refine fx_aloadn dX2_faultOf_17 rfl ?_
    refine fx_callSp dX2_faultOf_18 vX2_infosFit kkX2_26 (p_fc_infosFit H V) rfl (by decide) (by decide) rfl (Nat.le_of_ble_eq_true rfl) ?_
    refine fx_if_neB 26 dX2_faultOf_21 (by decide) (fun c21 => ?_) (fun c21 => ?_)
    · skip
      refine fx_aloadn dX2_faultOf_26 rfl ?_
      refine fx_callSp dX2_faultOf_27 vX2_fractionsFit kkX2_30 (p_fc_fractionsFit H V) rfl (by decide) (by decide) rfl (Nat.le_of_ble_eq_true rfl) ?_
      refine fx_if_neB 35 dX2_faultOf_30 (by decide) (fun c30 => ?_) (fun c30 => ?_)
      · skip
        refine fx_aloadn dX2_faultOf_35 rfl ?_
        refine fx_callSp dX2_faultOf_36 vX2_stepsFit kkX2_33 (p_fc_stepsFit H V) rfl (by decide) (by decide) rfl (Nat.le_of_ble_eq_true rfl) ?_
        refine fx_if_neB 44 dX2_faultOf_39 (by decide) (fun c39 => ?_) (fun c39 => ?_)
        · skip
          refine fx_aloadn dX2_faultOf_44 rfl ?_
          refine fx_callSp dX2_faultOf_45 vX2_piecesFit kkX2_36 (p_fc_piecesFit H V) rfl (by decide) (by decide) rfl (Nat.le_of_ble_eq_true rfl) ?_
          refine fx_if_eqB 55 dX2_faultOf_48 (by decide) (fun c48 => ?_) (fun c48 => ?_)
          · skip
            refine fx_bipush (nI 6) dX2_faultOf_55 (by decide) ?_
            refine fx_iret dX2_faultOf_57 rfl ?_
            refine ⟨?_, rfl⟩
            unfold ml_ftC
            rw [if_neg (Int32.not_lt.mpr c12), if_pos c21, if_pos c30, if_pos c39, if_neg c48]
          · skip
            refine fx_iconst (nI 0) dX2_faultOf_51 (by decide) ?_
            refine fx_goto 57 dX2_faultOf_52 (by decide) ?_
            refine fx_iret dX2_faultOf_57 rfl ?_
            refine ⟨?_, rfl⟩
            unfold ml_ftC
            rw [if_neg (Int32.not_lt.mpr c12), if_pos c21, if_pos c30, if_pos c39, if_pos c48]
        · skip
          refine fx_iconst (nI 5) dX2_faultOf_42 (by decide) ?_
          refine fx_iret dX2_faultOf_43 rfl ?_
          refine ⟨?_, rfl⟩
          unfold ml_ftC
          rw [if_neg (Int32.not_lt.mpr c12), if_pos c21, if_pos c30, if_neg c39]
      · skip
        refine fx_iconst (nI 4) dX2_faultOf_33 (by decide) ?_
        refine fx_iret dX2_faultOf_34 rfl ?_
        refine ⟨?_, rfl⟩
        unfold ml_ftC
        rw [if_neg (Int32.not_lt.mpr c12), if_pos c21, if_neg c30]
    · skip
      refine fx_iconst (nI 3) dX2_faultOf_24 (by decide) ?_
      refine fx_iret dX2_faultOf_25 rfl ?_
      refine ⟨?_, rfl⟩
      unfold ml_ftC
      rw [if_neg (Int32.not_lt.mpr c12), if_neg c21]
  · skip
    refine fx_iconst (nI 2) dX2_faultOf_15 (by decide) ?_
    refine fx_iret dX2_faultOf_16 rfl ?_
    refine ⟨?_, rfl⟩
    unfold ml_ftC
    rw [if_pos (Int32.not_le.mp c12)]
theorem p_fc_faultN {g : fx_G} {h : fx_H} : fx_P g mX2_faultOf 5 109 [.null] h (.int (nI 1)) := by
  refine fx_Met.of rfl (Nat.le_of_ble_eq_true rfl) ?_
  refine fx_aloadnN dX2_faultOf_0 rfl ?_
  refine fx_ifnonnullN dX2_faultOf_1 ?_
  refine fx_iconst (nI 1) dX2_faultOf_4 (by decide) ?_
  refine fx_iret dX2_faultOf_5 rfl ?_
  exact ⟨rfl, rfl⟩
end
section
/-! halvesFit: fault 1, as the class finds it -/
theorem dr.at {h : fx_H} {a p n len : Nat} {B : Nat → Nat} (H : dr h a p n len B) : ∃ fs : List Value, h a = some (.inr (0, fs)) := ⟨_, H.1⟩
theorem dr.len {h : fx_H} {a p n len : Nat} {B : Nat → Nat} (H : dr h a p n len B) : len ≤ 131072 := Nat.le_trans H.2.1 H.2.2.1
theorem p_dr_half {g : fx_G} {h : fx_H} {a p n len : Nat} {B : Nat → Nat} (H : dr h a p n len B) (k : Nat) (hk : k < 2 ^ 29) : fx_P g mX0_halfAt 1 21 [.ref a, .int (nI k)] h (.int (nI (ml_H (by_ B len) k))) := p_dr_halfAt H k hk
theorem p_dr_word {g : fx_G} {h : fx_H} {a p n len : Nat} {B : Nat → Nat} (H : dr h a p n len B) (k : Nat) (hk : k < 2 ^ 27) : fx_P g mX0_wordAt 2 42 [.ref a, .int (nI k)] h (.int (nI (ml_W (by_ B len) k))) := p_dr_wordAt H k hk
def ml_lst (k : Nat) : Nat := if k = 1 then 2 else if 4 ≤ k ∧ k ≤ 7 then 1 else 0
theorem nI_charsN {x y : Nat} (h : x + 1 < y) (hy : y < 2 ^ 30) : nI x - nI y + nI 1 < 0 := by
  have e : nI x - nI y + nI 1 = nI (x + 1) - nI y := by
    rw [← nI_add]
    rw [Int32.sub_eq_add_neg, Int32.sub_eq_add_neg, Int32.add_assoc, Int32.add_comm (-nI y), Int32.add_assoc]
  rw [e]
  exact pk_sneg hy h

theorem l_dr_hf2 {g : fx_G} {h : fx_H} {a p n len : Nat} {B : Nat → Nat} (H : dr h a p n len B) (hw : ml_w (by_ B len)) (hall : ml_st (by_ B len) 10 = ml_H (by_ B len) 0 → ml_f1 (by_ B len) len) : ∀ n k : Nat, 4 ≤ k → k + n = 12 → fx_Y g mX2_halvesFit 2 42 (fun q h' => q = some (.int (bI (ml_f1 (by_ B len) len))) ∧ h' = h) (fun _ _ => False) 142 [(0, .ref a), (2, .int (nI (ml_st (by_ B len) (k - 2)))), (3, .int (nI k))] [] h 0 0 := by
  obtain ⟨fs, h1⟩ := H.at
  have hb := H.by_lt
  have hh : ∀ k, ml_H (by_ B len) k < 65536 := ml_H_lt hb
  have h10 := ml_st_lt hw (r := 10) (by decide)
  have hh0 := hh 0
  intro n
  induction n using Nat.strongRecOn with
  | ind n ih =>
  intro k hk4 hk
  have hk10 := ml_st_lt hw (r := k - 2) (by omega)
  refine fx_iloadn dX2_halvesFit_142 rfl ?_
  refine fx_bipush (nI 12) dX2_halvesFit_143 (by decide) ?_
  refine fx_icn_ge 162 dX2_halvesFit_145 (by decide) (by omega) (by omega) (fun c145 => ?_) (fun c145 => ?_)
  · skip
    have e10 : k - 2 = 10 := by omega
    rw [e10]
    refine fx_iloadn dX2_halvesFit_162 rfl ?_
    refine fx_aloadn dX2_halvesFit_163 rfl ?_
    refine fx_iconst (nI 0) dX2_halvesFit_164 (by decide) ?_
    refine fx_callVp dX2_halvesFit_165 vX0_halfAt kkX2_13 rfl rfl (by assumption) (p_dr_half H 0 (by decide)) rfl (by decide) (by decide) rfl (Nat.le_of_ble_eq_true rfl) ?_
    refine fx_icn_ne 175 dX2_halvesFit_168 (by decide) (by omega) (by omega) (fun c168 => ?_) (fun c168 => ?_)
    · skip
      refine fx_iconst (nI 0) dX2_halvesFit_175 (by decide) ?_
      refine fx_zret dX2_halvesFit_176 rfl rfl ?_
      exact fx_no (fun q => by have := q.2.2.2.2.2.2.2.2; omega)
    · skip
      refine fx_iconst (nI 1) dX2_halvesFit_171 (by decide) ?_
      refine fx_goto 176 dX2_halvesFit_172 (by decide) ?_
      refine fx_zret dX2_halvesFit_176 rfl rfl ?_
      refine fx_yes (hall ?_)
      omega
  · skip
    refine fx_iloadn dX2_halvesFit_148 rfl ?_
    refine fx_aloadn dX2_halvesFit_149 rfl ?_
    refine fx_iloadn dX2_halvesFit_150 rfl ?_
    refine fx_callVp dX2_halvesFit_151 vX0_halfAt kkX2_13 rfl rfl (by assumption) (p_dr_half H _ (by omega)) rfl (by decide) (by decide) rfl (Nat.le_of_ble_eq_true rfl) ?_
    refine fx_iadd dX2_halvesFit_154 ?_
    refine fx_istoren dX2_halvesFit_155 (by decide) ?_
    refine fx_iinc (nI 1) dX2_halvesFit_156 rfl (by decide) (by decide) ?_
    refine fx_goto 142 dX2_halvesFit_159 (by decide) ?_
    simp only [nI_add]
    refine fx_to (ih (n - 1) (by omega) (k + 1) (by omega) (by omega)) ⟨rfl, ?_, rfl, trivial⟩
    rw [show k + 1 - 2 = k - 2 + 1 by omega]
    have e9 : ml_rl (by_ B len) (k - 2) = ml_H (by_ B len) k := by
      unfold ml_rl
      rw [if_neg (by omega), if_neg (by omega), show k - 2 + 2 = k by omega]
    show some (Value.int (nI (ml_st (by_ B len) (k - 2) + ml_H (by_ B len) k))) = some (Value.int (nI (ml_st (by_ B len) (k - 2) + ml_rl (by_ B len) (k - 2))))
    rw [e9]
theorem l_dr_hf1 {g : fx_G} {h : fx_H} {a p n len : Nat} {B : Nat → Nat} (H : dr h a p n len B) (h24 : 24 ≤ len) (hnb : len = 4 * ml_H (by_ B len) 0) (h12 : ∀ k, k < 12 → ml_lst k ≤ ml_H (by_ B len) k ∧ ml_H (by_ B len) k < 32768) (lv : List (Nat × Value)) (hlv : fx_le [(0, .ref a)] lv) : fx_Y g mX2_halvesFit 2 42 (fun q h' => q = some (.int (bI (ml_f1 (by_ B len) len))) ∧ h' = h) (fun _ _ => False) 86 lv [] h 0 0 := by
  obtain ⟨fs, h1⟩ := H.at
  have hb := H.by_lt
  have hh : ∀ k, ml_H (by_ B len) k < 65536 := ml_H_lt hb
  have w1 := (h12 1 (by decide)).2
  have w2 := (h12 2 (by decide)).2
  have w3 := (h12 3 (by decide)).2
  have w10 := (h12 10 (by decide)).2
  refine fx_sub _ hlv ?_
  by_cases hc : ml_H (by_ B len) 2 ≤ ml_H (by_ B len) 3 + 1
  · have hrl : ml_rl (by_ B len) 1 = ml_H (by_ B len) 3 + 1 - ml_H (by_ B len) 2 := rfl
    have e9 : ml_st (by_ B len) 2 = 6 + ml_H (by_ B len) 1 + (ml_H (by_ B len) 3 + 1 - ml_H (by_ B len) 2) := rfl
    refine fx_aloadn dX2_halvesFit_86 rfl ?_
    refine fx_iconst (nI 3) dX2_halvesFit_87 (by decide) ?_
    refine fx_callVp dX2_halvesFit_88 vX0_halfAt kkX2_13 rfl rfl (by assumption) (p_dr_half H 3 (by decide)) rfl (by decide) (by decide) rfl (Nat.le_of_ble_eq_true rfl) ?_
    refine fx_aloadn dX2_halvesFit_91 rfl ?_
    refine fx_iconst (nI 2) dX2_halvesFit_92 (by decide) ?_
    refine fx_callVp dX2_halvesFit_93 vX0_halfAt kkX2_13 rfl rfl (by assumption) (p_dr_half H 2 (by decide)) rfl (by decide) (by decide) rfl (Nat.le_of_ble_eq_true rfl) ?_
    refine fx_isub dX2_halvesFit_96 ?_
    refine fx_iconst (nI 1) dX2_halvesFit_97 (by decide) ?_
    refine fx_iadd dX2_halvesFit_98 ?_
    rw [nI_chars hc]
    refine fx_istoren dX2_halvesFit_99 (by decide) ?_
    refine fx_iloadn dX2_halvesFit_100 rfl ?_
    refine fx_if_lt 127 dX2_halvesFit_101 (by decide) (fun c101 => absurd c101 (nI_pos (by omega))) (fun c101 => ?_)
    refine fx_aloadn dX2_halvesFit_104 rfl ?_
    refine fx_iconst (nI 3) dX2_halvesFit_105 (by decide) ?_
    refine fx_callVp dX2_halvesFit_106 vX0_halfAt kkX2_13 rfl rfl (by assumption) (p_dr_half H 3 (by decide)) rfl (by decide) (by decide) rfl (Nat.le_of_ble_eq_true rfl) ?_
    refine fx_sipush (nI 255) dX2_halvesFit_109 (by decide) ?_
    refine fx_icn_gt 127 dX2_halvesFit_112 (by decide) (by omega) (by omega) (fun c112 => ?_) (fun c112 => ?_)
    · skip
      refine fx_iconst (nI 0) dX2_halvesFit_127 (by decide) ?_
      refine fx_zret dX2_halvesFit_128 rfl rfl ?_
      exact fx_no (fun q => by have := q.2.2.2.2.2.2.1; omega)
    · skip
      refine fx_aloadn dX2_halvesFit_115 rfl ?_
      refine fx_bipush (nI 10) dX2_halvesFit_116 (by decide) ?_
      refine fx_callVp dX2_halvesFit_118 vX0_halfAt kkX2_13 rfl rfl (by assumption) (p_dr_half H 10 (by decide)) rfl (by decide) (by decide) rfl (Nat.le_of_ble_eq_true rfl) ?_
      refine fx_sipush (nI 256) dX2_halvesFit_121 (by decide) ?_
      refine fx_icn_le 129 dX2_halvesFit_124 (by decide) (by omega) (by omega) (fun c124 => ?_) (fun c124 => ?_)
      · skip
        refine fx_bipush (nI 6) dX2_halvesFit_129 (by decide) ?_
        refine fx_aloadn dX2_halvesFit_131 rfl ?_
        refine fx_iconst (nI 1) dX2_halvesFit_132 (by decide) ?_
        refine fx_callVp dX2_halvesFit_133 vX0_halfAt kkX2_13 rfl rfl (by assumption) (p_dr_half H 1 (by decide)) rfl (by decide) (by decide) rfl (Nat.le_of_ble_eq_true rfl) ?_
        refine fx_iadd dX2_halvesFit_136 ?_
        refine fx_iloadn dX2_halvesFit_137 rfl ?_
        refine fx_iadd dX2_halvesFit_138 ?_
        refine fx_istoren dX2_halvesFit_139 (by decide) ?_
        refine fx_iconst (nI 4) dX2_halvesFit_140 (by decide) ?_
        refine fx_istoren dX2_halvesFit_141 (by decide) ?_
        simp only [nI_add]
        refine fx_to (l_dr_hf2 H ⟨hb, fun k hk => (h12 k hk).2, hc⟩ (fun e => ⟨h24, hnb, fun k hk => (h12 k hk).2, (h12 1 (by decide)).1, fun k h4 h8 => ?_, hc, by omega, by omega, e⟩) 8 4 (by decide) rfl) ⟨rfl, rfl, rfl, trivial⟩
        have := (h12 k (by omega)).1
        unfold ml_lst at this
        rw [if_neg (by omega), if_pos (by omega)] at this
        exact this
      · skip
        refine fx_iconst (nI 0) dX2_halvesFit_127 (by decide) ?_
        refine fx_zret dX2_halvesFit_128 rfl rfl ?_
        exact fx_no (fun q => by have := q.2.2.2.2.2.2.2.1; omega)
  · skip
    refine fx_aloadn dX2_halvesFit_86 rfl ?_
    refine fx_iconst (nI 3) dX2_halvesFit_87 (by decide) ?_
    refine fx_callVp dX2_halvesFit_88 vX0_halfAt kkX2_13 rfl rfl (by assumption) (p_dr_half H 3 (by decide)) rfl (by decide) (by decide) rfl (Nat.le_of_ble_eq_true rfl) ?_
    refine fx_aloadn dX2_halvesFit_91 rfl ?_
    refine fx_iconst (nI 2) dX2_halvesFit_92 (by decide) ?_
    refine fx_callVp dX2_halvesFit_93 vX0_halfAt kkX2_13 rfl rfl (by assumption) (p_dr_half H 2 (by decide)) rfl (by decide) (by decide) rfl (Nat.le_of_ble_eq_true rfl) ?_
    refine fx_isub dX2_halvesFit_96 ?_
    refine fx_iconst (nI 1) dX2_halvesFit_97 (by decide) ?_
    refine fx_iadd dX2_halvesFit_98 ?_
    refine fx_istoren dX2_halvesFit_99 (by decide) ?_
    refine fx_iloadn dX2_halvesFit_100 rfl ?_
    refine fx_if_lt 127 dX2_halvesFit_101 (by decide) (fun c101 => ?_) (fun c101 => absurd (nI_charsN (by omega) (by omega)) c101)
    refine fx_iconst (nI 0) dX2_halvesFit_127 (by decide) ?_
    refine fx_zret dX2_halvesFit_128 rfl rfl ?_
    exact fx_no (fun q => hc q.2.2.2.2.2.1)
theorem l_dr_hf0 {g : fx_G} {h : fx_H} {a p n len : Nat} {B : Nat → Nat} (H : dr h a p n len B) (h24 : 24 ≤ len) (hnb : len = 4 * ml_H (by_ B len) 0) : ∀ n k : Nat, k + n = 12 → (∀ j, j < k → ml_lst j ≤ ml_H (by_ B len) j ∧ ml_H (by_ B len) j < 32768) → fx_Y g mX2_halvesFit 2 42 (fun q h' => q = some (.int (bI (ml_f1 (by_ B len) len))) ∧ h' = h) (fun _ _ => False) 27 [(0, .ref a), (1, .int (nI k))] [] h 0 0 := by
  obtain ⟨fs, h1⟩ := H.at
  have hb := H.by_lt
  have hh : ∀ k, ml_H (by_ B len) k < 65536 := ml_H_lt hb
  intro n
  induction n using Nat.strongRecOn with
  | ind n ih =>
  intro k hk hp
  refine fx_iloadn dX2_halvesFit_27 rfl ?_
  refine fx_bipush (nI 12) dX2_halvesFit_28 (by decide) ?_
  refine fx_icn_ge 86 dX2_halvesFit_30 (by decide) (by omega) (by omega) (fun c30 => ?_) (fun c30 => ?_)
  · skip
    exact l_dr_hf1 H h24 hnb (fun j hj => hp j (by omega)) _ ⟨rfl, trivial⟩
  · skip
    have j58 : ∀ lv : List (Nat × Value), fx_le [(0, .ref a), (1, .int (nI k))] lv → fx_Y g mX2_halvesFit 2 42 (fun q h' => q = some (.int (bI (ml_f1 (by_ B len) len))) ∧ h' = h) (fun _ _ => False) 58 lv [.int (nI (ml_lst k))] h 0 0 := by
      intro lv hlv
      refine fx_sub _ hlv ?_
      have q9 := hh k
      have q8 : ml_lst k < 3 := by
        unfold ml_lst
        split
        · decide
        · split <;> decide
      refine fx_istoren dX2_halvesFit_58 (by decide) ?_
      refine fx_aloadn dX2_halvesFit_59 rfl ?_
      refine fx_iloadn dX2_halvesFit_60 rfl ?_
      refine fx_callVp dX2_halvesFit_61 vX0_halfAt kkX2_13 rfl rfl (by assumption) (p_dr_half H k (by omega)) rfl (by decide) (by decide) rfl (Nat.le_of_ble_eq_true rfl) ?_
      refine fx_iloadn dX2_halvesFit_64 rfl ?_
      refine fx_icn_lt 78 dX2_halvesFit_65 (by decide) (by omega) (by omega) (fun c65 => ?_) (fun c65 => ?_)
      · skip
        refine fx_iconst (nI 0) dX2_halvesFit_78 (by decide) ?_
        refine fx_zret dX2_halvesFit_79 rfl rfl ?_
        refine fx_no (fun q => ?_)
        unfold ml_lst at c65
        by_cases e1 : k = 1
        · subst e1
          rw [if_pos rfl] at c65
          have := q.2.2.2.1
          omega
        · rw [if_neg e1] at c65
          by_cases e2 : 4 ≤ k ∧ k ≤ 7
          · rw [if_pos e2] at c65
            have := q.2.2.2.2.1 k e2.1 (by omega)
            omega
          · rw [if_neg e2] at c65
            omega
      · skip
        refine fx_aloadn dX2_halvesFit_68 rfl ?_
        refine fx_iloadn dX2_halvesFit_69 rfl ?_
        refine fx_callVp dX2_halvesFit_70 vX0_halfAt kkX2_13 rfl rfl (by assumption) (p_dr_half H k (by omega)) rfl (by decide) (by decide) rfl (Nat.le_of_ble_eq_true rfl) ?_
        refine fx_ldc dX2_halvesFit_73 qqX2_17 ?_
        refine fx_icn_lt 80 dX2_halvesFit_75 (by decide) (by omega) (by omega) (fun c75 => ?_) (fun c75 => ?_)
        · skip
          refine fx_iinc (nI 1) dX2_halvesFit_80 rfl (by decide) (by decide) ?_
          refine fx_goto 27 dX2_halvesFit_83 (by decide) ?_
          simp only [nI_add]
          refine fx_to (ih (n - 1) (by omega) (k + 1) (by omega) (fun j hj => ?_)) ⟨rfl, rfl, trivial⟩
          by_cases e : j < k
          · exact hp j e
          · rw [show j = k by omega]
            exact ⟨c65, c75⟩
        · skip
          refine fx_iconst (nI 0) dX2_halvesFit_78 (by decide) ?_
          refine fx_zret dX2_halvesFit_79 rfl rfl ?_
          exact fx_no (fun q => by have := q.2.2.1 k (by omega); omega)
    refine fx_iloadn dX2_halvesFit_33 rfl ?_
    refine fx_iconst (nI 1) dX2_halvesFit_34 (by decide) ?_
    refine fx_icn_ne 42 dX2_halvesFit_35 (by decide) (by omega) (by omega) (fun c35 => ?_) (fun c35 => ?_)
    · skip
      refine fx_iloadn dX2_halvesFit_42 rfl ?_
      refine fx_iconst (nI 4) dX2_halvesFit_43 (by decide) ?_
      refine fx_icn_lt 57 dX2_halvesFit_44 (by decide) (by omega) (by omega) (fun c44 => ?_) (fun c44 => ?_)
      · skip
        refine fx_iconst (nI 0) dX2_halvesFit_57 (by decide) ?_
        have e : ml_lst k = 0 := by
          unfold ml_lst
          rw [if_neg c35, if_neg (by omega)]
        exact fx_st0 (by rw [e]) (j58 _ ⟨rfl, rfl, trivial⟩)
      · skip
        refine fx_iloadn dX2_halvesFit_47 rfl ?_
        refine fx_bipush (nI 7) dX2_halvesFit_48 (by decide) ?_
        refine fx_icn_gt 57 dX2_halvesFit_50 (by decide) (by omega) (by omega) (fun c50 => ?_) (fun c50 => ?_)
        · skip
          refine fx_iconst (nI 0) dX2_halvesFit_57 (by decide) ?_
          have e : ml_lst k = 0 := by
            unfold ml_lst
            rw [if_neg c35, if_neg (by omega)]
          exact fx_st0 (by rw [e]) (j58 _ ⟨rfl, rfl, trivial⟩)
        · skip
          refine fx_iconst (nI 1) dX2_halvesFit_53 (by decide) ?_
          refine fx_goto 58 dX2_halvesFit_54 (by decide) ?_
          have e : ml_lst k = 1 := by
            unfold ml_lst
            rw [if_neg c35, if_pos ⟨c44, c50⟩]
          exact fx_st0 (by rw [e]) (j58 _ ⟨rfl, rfl, trivial⟩)
    · skip
      refine fx_iconst (nI 2) dX2_halvesFit_38 (by decide) ?_
      refine fx_goto 58 dX2_halvesFit_39 (by decide) ?_
      have e : ml_lst k = 2 := by
        unfold ml_lst
        rw [if_pos c35]
      exact fx_st0 (by rw [e]) (j58 _ ⟨rfl, rfl, trivial⟩)
theorem p_fc_halvesFit {g : fx_G} {h : fx_H} {a p n len : Nat} {B : Nat → Nat} (H : dr h a p n len B) : fx_P g mX2_halvesFit 2 42 [.ref a] h (.int (bI (ml_f1 (by_ B len) len))) := by
  obtain ⟨fs, h1⟩ := H.at
  have hb := H.by_lt
  have hh : ∀ k, ml_H (by_ B len) k < 65536 := ml_H_lt hb
  have hlen := H.len
  have hh0 := hh 0
  refine fx_Met.of rfl (Nat.le_of_ble_eq_true rfl) ?_
  refine fx_aloadn dX2_halvesFit_0 rfl ?_
  refine fx_callVp dX2_halvesFit_1 vX0_size kkX2_7 rfl rfl (by assumption) (p_dr_size H) rfl (by decide) (by decide) rfl (Nat.le_of_ble_eq_true rfl) ?_
  refine fx_bipush (nI 24) dX2_halvesFit_4 (by decide) ?_
  refine fx_icn_lt 23 dX2_halvesFit_6 (by decide) (by omega) (by omega) (fun c6 => ?_) (fun c6 => ?_)
  · skip
    refine fx_iconst (nI 0) dX2_halvesFit_23 (by decide) ?_
    refine fx_zret dX2_halvesFit_24 rfl rfl ?_
    exact fx_no (fun q => by have := q.1; omega)
  · skip
    refine fx_aloadn dX2_halvesFit_9 rfl ?_
    refine fx_callVp dX2_halvesFit_10 vX0_size kkX2_7 rfl rfl (by assumption) (p_dr_size H) rfl (by decide) (by decide) rfl (Nat.le_of_ble_eq_true rfl) ?_
    refine fx_iconst (nI 4) dX2_halvesFit_13 (by decide) ?_
    refine fx_aloadn dX2_halvesFit_14 rfl ?_
    refine fx_iconst (nI 0) dX2_halvesFit_15 (by decide) ?_
    refine fx_callVp dX2_halvesFit_16 vX0_halfAt kkX2_13 rfl rfl (by assumption) (p_dr_half H 0 (by decide)) rfl (by decide) (by decide) rfl (Nat.le_of_ble_eq_true rfl) ?_
    refine fx_imul dX2_halvesFit_19 ?_
    rw [pk_mul]
    refine fx_icn_eq 25 dX2_halvesFit_20 (by decide) (by omega) (by omega) (fun c20 => ?_) (fun c20 => ?_)
    · skip
      refine fx_iconst (nI 0) dX2_halvesFit_25 (by decide) ?_
      refine fx_istoren dX2_halvesFit_26 (by decide) ?_
      exact fx_to (l_dr_hf0 H c6 c20 12 0 rfl (fun j hj => by omega)) ⟨rfl, rfl, trivial⟩
    · skip
      refine fx_iconst (nI 0) dX2_halvesFit_23 (by decide) ?_
      refine fx_zret dX2_halvesFit_24 rfl rfl ?_
      exact fx_no (fun q => c20 q.2.1)
end
section
section FXV
variable {g : fx_G} {M : fx_M} {d lo : Nat} {K : Option Value → fx_H → Prop} {KX : String → fx_H → Prop} {pc : Nat} {lv : List (Nat × Value)} {st : List Value} {h : fx_H} {cu su : Nat}
theorem va_one {h : fx_H} {a : Nat} {c : fx_E} {P : fx_H → Prop} (k : ∀ h' : fx_H, h' a = some c → (∀ x, x ≠ a → h' x = h x) → P h') : P (va_up h a (some c)) := k _ (va_up_self _ _ _) (fun _ hx => va_up_ne _ _ hx)
theorem fx_putV {idx ci k9 : Nat} {ty : FieldType} {a : Nat} {fs : List Value} {v : Value} (hd : decode M.2.1 pc = .ok (.putfield idx, 3)) (F : fx_F M.1.cls idx ci k9 false ty) (hh : h a = some (.inr (ci, fs))) (hn : narrow ty v = v) (hf : fits ty v = true) (hln : k9 < fs.length) (k : ∀ h' : fx_H, h' a = some (.inr (ci, fs.set k9 v)) → (∀ x, x ≠ a → h' x = h x) → fx_Y g M d lo K KX (pc + 3) lv st h' cu su) : fx_Y g M d lo K KX pc lv (v :: .ref a :: st) h cu su := fx_put hd F hh hn hf hln (va_one k)
theorem fx_putFV {idx ci k9 : Nat} {ty : FieldType} {a : Nat} {fs : List Value} {v : Value} (hd : decode M.2.1 pc = .ok (.putfield idx, 3)) (F : fx_F M.1.cls idx ci k9 true ty) (hinit : M.1.name = "<init>") (hown9 : (vwCl[ci]?.map (·.1)) = some M.1.cls) (hh : h a = some (.inr (ci, fs))) (hn : narrow ty v = v) (hf : fits ty v = true) (hln : k9 < fs.length) (k : ∀ h' : fx_H, h' a = some (.inr (ci, fs.set k9 v)) → (∀ x, x ≠ a → h' x = h x) → fx_Y g M d lo K KX (pc + 3) lv st h' cu su) : fx_Y g M d lo K KX pc lv (v :: .ref a :: st) h cu su := fx_putF hd F hinit hown9 hh hn hf hln (va_one k)
theorem fx_iastV {a n : Nat} {i : Int32} {x : Int32} {f : Nat → Int32} (hd : decode M.2.1 pc = .ok (.iastore, 1)) (hh : h a = some (.inl (0, n, .inl f))) (hi : vp_in i n) (k : ∀ h' : fx_H, h' a = some (.inl (0, n, .inl (upd f i.toNatClampNeg x))) → (∀ x, x ≠ a → h' x = h x) → fx_Y g M d lo K KX (pc + 1) lv st h' cu su) : fx_Y g M d lo K KX pc lv (.int x :: .int i :: .ref a :: st) h cu su := fx_iast hd hh hi (va_one k)
theorem fx_bastV {a n : Nat} {i : Int32} {x : Int32} {f : Nat → Int32} (hd : decode M.2.1 pc = .ok (.bastore, 1)) (hh : h a = some (.inl (1, n, .inl f))) (hi : vp_in i n) (k : ∀ h' : fx_H, h' a = some (.inl (1, n, .inl (upd f i.toNatClampNeg (vp_nar .byte x)))) → (∀ x, x ≠ a → h' x = h x) → fx_Y g M d lo K KX (pc + 1) lv st h' cu su) : fx_Y g M d lo K KX pc lv (.int x :: .int i :: .ref a :: st) h cu su := fx_bast hd hh hi (va_one k)
theorem fx_zastV {a n : Nat} {i : Int32} {x : Int32} {f : Nat → Int32} (hd : decode M.2.1 pc = .ok (.bastore, 1)) (hh : h a = some (.inl (2, n, .inl f))) (hi : vp_in i n) (k : ∀ h' : fx_H, h' a = some (.inl (2, n, .inl (upd f i.toNatClampNeg (vp_nar .boolean x)))) → (∀ x, x ≠ a → h' x = h x) → fx_Y g M d lo K KX (pc + 1) lv st h' cu su) : fx_Y g M d lo K KX pc lv (.int x :: .int i :: .ref a :: st) h cu su := fx_zast hd hh hi (va_one k)
theorem fx_lastV {a n : Nat} {i : Int32} {x : Int64} {f : Nat → Int64} (hd : decode M.2.1 pc = .ok (.lastore, 1)) (hh : h a = some (.inl (3, n, .inr (.inl f)))) (hi : vp_in i n) (k : ∀ h' : fx_H, h' a = some (.inl (3, n, .inr (.inl (vp_updL f i.toNatClampNeg x)))) → (∀ x, x ≠ a → h' x = h x) → fx_Y g M d lo K KX (pc + 1) lv st h' cu su) : fx_Y g M d lo K KX pc lv (.long x :: .int i :: .ref a :: st) h cu su := fx_last hd hh hi (va_one k)
theorem fx_aastV {a n v : Nat} {i : Int32} {f : Nat → Option Nat} {vs : List Value} (hd : decode M.2.1 pc = .ok (.aastore, 1)) (hh : h a = some (.inl (4, n, .inr (.inr (.inr (.inr f)))))) (hv : h v = some (.inr (2, vs))) (hi : vp_in i n) (k : ∀ h' : fx_H, h' a = some (.inl (4, n, .inr (.inr (.inr (.inr (va_up f i.toNatClampNeg (some v))))))) → (∀ x, x ≠ a → h' x = h x) → fx_Y g M d lo K KX (pc + 1) lv st h' cu su) : fx_Y g M d lo K KX pc lv (.ref v :: .int i :: .ref a :: st) h cu su := fx_aast hd hh hv hi (va_one k)
theorem fx_newV {idx ci N : Nat} {C : String} {T : u_T} (ty0 : Nat → FieldType) (fs : List Value) (hd : decode M.2.1 pc = .ok (.new idx, 3)) (hc : vwCl[ci]? = some (C, T, N)) (hin : ∀ w ∈ u_ws C T N, w ∈ fx_ws) (hty : ∀ k, k < N → parseFieldDescriptor (T k).2.2.1 = some (ty0 k)) (hcl : Cond.classLink M.1.cls idx C ∈ fx_ws) (hins : Cond.instantiable C N ∈ fx_ws) (hini : Cond.initialized C ∈ fx_ws) (hfs : ∀ j, j < N → defaultValue (ty0 j) = vp_V fs j) (hcu : 1 ≤ cu) (hsu : N ≤ su)
    (k : ∀ (a : Nat) (h' : fx_H), h a = none → h' a = some (.inr (ci, fs)) → (∀ x, x ≠ a → h' x = h x) → fx_Y g M d lo K KX (pc + 3) lv (.ref a :: st) h' (cu - 1) (su - N)) : fx_Y g M d lo K KX pc lv st h cu su := fx_new ty0 fs hd hc hin hty hcl hins hini hfs hcu hsu (fun a ha => va_one (fun h' e o => k a h' ha e o))
theorem fx_newIV {at9 : ArrayType} {n : Int32} (t N : Nat) (ht : t < 3) (hat : newarray.typeOf at9 = fx_ty t) (hd : decode M.2.1 pc = .ok (.newarray at9, 2)) (hw : Cond.arrayClass (newarray.typeOf at9) ∈ fx_ws) (hn : ¬ n < 0) (hN : n.toNatClampNeg = N) (hb9 : N ≤ 1000000) (hcu : 1 ≤ cu) (hsu : N ≤ su)
    (k : ∀ (a : Nat) (h' : fx_H), h a = none → h' a = some (.inl (t, N, .inl (fun _ => 0))) → (∀ x, x ≠ a → h' x = h x) → fx_Y g M d lo K KX (pc + 2) lv (.ref a :: st) h' (cu - 1) (su - N)) : fx_Y g M d lo K KX pc lv (.int n :: st) h cu su := fx_newI t N ht hat hd hw hn hN hb9 hcu hsu (fun a ha => va_one (fun h' e o => k a h' ha e o))
/-- an address that is taken isn't a new one; an object isn't an array -/
theorem ne_new {h : fx_H} {a q : Nat} {c : fx_E} (ha : h a = some c) (hq : h q = none) : a ≠ q := fun e => by rw [e, hq] at ha; cases ha
theorem ne_oa {h : fx_H} {a q : Nat} {c : Nat × List Value} {x : Nat × vp_A} (ha : h a = some (.inr c)) (hq : h q = some (.inl x)) : a ≠ q := fun e => by rw [e, hq] at ha; cases ha
theorem ne_oo {h : fx_H} {a q i j : Nat} {x y : List Value} (ha : h a = some (.inr (i, x))) (hq : h q = some (.inr (j, y))) (hij : i ≠ j) : a ≠ q := fun e => by rw [e, hq] at ha; cases ha; exact hij rfl
theorem ne_aa {h : fx_H} {a q i j : Nat} {x y : vp_A} (ha : h a = some (.inl (i, x))) (hq : h q = some (.inl (j, y))) (hij : i ≠ j) : a ≠ q := fun e => by rw [e, hq] at ha; cases ha; exact hij rfl
/-- nothing else has changed: of what stood in h, all but S is as it was -/
def kp (S : Nat → Prop) (h h' : fx_H) : Prop := ∀ x, h x ≠ none → ¬ S x → h' x = h x
theorem kp.rf {S : Nat → Prop} {h : fx_H} : kp S h h := fun _ _ _ => rfl
theorem kp.tr {S S' : Nat → Prop} {h h' h'' : fx_H} (k1 : kp S h h') (k2 : kp S' h' h'') (hs : ∀ x, S' x → h x ≠ none → S x) : kp S h h'' := fun x hx hn => by
  have e1 := k1 x hx hn
  rw [k2 x (by rw [e1]; exact hx) (fun q => hn (hs x q hx)), e1]
theorem kp.put {S : Nat → Prop} {h h' h'' : fx_H} {a : Nat} (k1 : kp S h h') (o : ∀ x, x ≠ a → h'' x = h' x) (ha : S a ∨ h a = none) : kp S h h'' := fun x hx hn => by
  have hxa : x ≠ a := fun e => by
    subst e
    rcases ha with q | q
    · exact hn q
    · exact hx q
  rw [o x hxa]
  exact k1 x hx hn
theorem kp.new {S : Nat → Prop} {h h' : fx_H} {a : Nat} (k1 : kp S h h') (ha : h' a = none) (hS : S a → h a = none) : h a = none ∨ S a := by
  by_cases e : h a = none
  · exact Or.inl e
  · by_cases q : S a
    · exact Or.inr q
    · rw [k1 a e q] at ha
      exact Or.inl ha
theorem kp.sub {S S' : Nat → Prop} {h h' : fx_H} (k : kp S h h') (hs : ∀ x, h x ≠ none → S x → S' x) : kp S' h h' := fun x hx hn => k x hx (fun q => hn (hs x hx q))
end FXV
end
section
/-! FontDesk$Draft: what changes it -/
set_option maxRecDepth 100000 in
theorem acp_l : Cond.methodLink RJ7 150 arraycopyName ∈ fx_ws := fx_in 210 rfl rfl
set_option maxRecDepth 100000 in
theorem acp_s : Cond.static arraycopyName ∈ fx_ws := fx_in 211 rfl rfl
set_option maxRecDepth 100000 in
theorem acp_n : Cond.native arraycopyName ∈ fx_ws := fx_in 212 rfl rfl
/-- System.arraycopy over bytes -/
theorem fx_copyB {g : fx_G} {M : fx_M} {d lo : Nat} {K : Option Value → fx_H → Prop} {KX : String → fx_H → Prop} {pc idx : Nat} {lv : List (Nat × Value)} {st : List Value} {h : fx_H} {cu su : Nat} {a0 a n0 n1 : Nat} {f f1 : Nat → Int32} {sp dp n : Int32} (hd : decode M.2.1 pc = .ok (.invokestatic idx, 3)) (hlk : Cond.methodLink M.1.cls idx arraycopyName ∈ fx_ws) (hini : Cond.initialized "java/lang/System" ∈ fx_ws)
    (ha0 : h a0 = some (.inl (1, n0, .inl f))) (ha1 : h a = some (.inl (1, n1, .inl f1))) (h1 : ¬ sp < 0) (h2 : ¬ dp < 0) (h3 : ¬ n < 0) (h4 : sp.toNatClampNeg + n.toNatClampNeg ≤ n0) (h5 : dp.toNatClampNeg + n.toNatClampNeg ≤ n1) (hfit : ∀ i, fits .byte (.int (f i)) = true) (hdd : 1 ≤ d) (hll : 26 ≤ lo) (hst : (st.map fun v => v.category).sum ≤ 8)
    (k : ∀ h' : fx_H, h' a = some (.inl (1, n1, .inl (va_cpy f f1 sp.toNatClampNeg dp.toNatClampNeg n.toNatClampNeg))) → (∀ x, x ≠ a → h' x = h x) → fx_Y g M d lo K KX (pc + 3) lv st h' cu su) : fx_Y g M d lo K KX pc lv (.int n :: .int dp :: .ref a :: .int sp :: .ref a0 :: st) h cu su := by
  intro p l e R s m args below meth c H locs cells slots ls hC hR hl q1 q2 q3
  have hdR := hC.d
  have hlR := hC.lo
  have nn : ∀ z : Int32, ¬ z < 0 → z.toInt = (z.toNatClampNeg : Int) := by
    intro z hz
    have hz0 : (0 : Int) ≤ z.toInt := by
      have := Int32.not_lt.mp hz
      simpa using Int32.le_iff_toInt_le.mp this
    show z.toInt = ((z.toInt.toNat : Nat) : Int)
    omega
  intro T hT X
  have hc0 : H[a0]? = some (vp_cell (g.2.1 1) (n0, .inl f)) := (hR.1 _ _ ha0).2
  have hc1 : H[a]? = some (vp_cell (g.2.1 1) (n1, .inl f1)) := (hR.1 _ _ ha1).2
  obtain ⟨-, k0, hk0, cm0, hkk0⟩ := (hC.k.2.1 1 (by decide)).1 n0 (fun j => .int (f j))
  obtain ⟨-, k1, hk1, cm1, hkk1⟩ := (hC.k.2.1 1 (by decide)).1 n1 (fun j => .int (f1 j))
  obtain ⟨vm', X', step⟩ := X.arraycopy hC.x hC.own (hC.ts _ hlk) (hC.ts _ acp_n) (hC.ts _ acp_s) (hC.ts _ hini) (src := a0) (dst := a) (cs := vp_cell (g.2.1 1) (n0, .inl f)) (cd := vp_cell (g.2.1 1) (n1, .inl f1)) (srcPos := sp) (destPos := dp) (n := n) (by rw [hT]; exact hc0) (by rw [hT]; exact hc1)
    (fun _ h => by cases h) (fun _ h => by cases h) (fun h => by cases h) (fun h => by cases h) hk0 hk1 hkk0 hkk1 (by rfl) h1 h2 h3
    (by rw [nn sp h1, nn n h3]; show ¬ _ > ((arrV _ n0 (fun j => .int (f j))).slots.size : Int); rw [arrV_size]; omega)
    (by rw [nn dp h2, nn n h3]; show ¬ _ > ((arrV _ n1 (fun j => .int (f1 j))).slots.size : Int); rw [arrV_size]; omega)
    (fun vm₁ _ i hi => by
      have e : (vp_cell (g.2.1 1) (n0, .inl f)).slots.getD (sp.toNatClampNeg + i) .null = .int (f (sp.toNatClampNeg + i)) := by
        show (arrV _ n0 (fun j => .int (f j))).slots.getD _ _ = _
        rw [Array.getD_eq_getD_getElem?, arrV_read _ _ (by omega)]
        rfl
      refine ⟨?_, ?_⟩
      · rw [e]
        exact hfit _
      · rw [e]
        exact trivial)
    (g := F0 m pc ls (.int n :: .int dp :: .ref a :: .int sp :: .ref a0 :: st)) rfl (by rw [hC.ml]; exact hl.1) (rest := st) rfl (by rw [hC.b]; exact hd) (by omega) (by show 2 * 0 + _ + (7 + 11) ≤ _; omega)
  have e1 : copied (vp_cell (g.2.1 1) (n0, .inl f)) (vp_cell (g.2.1 1) (n1, .inl f1)) sp dp n = vp_cell (g.2.1 1) (n1, .inl (va_cpy f f1 sp.toNatClampNeg dp.toNatClampNeg n.toNatClampNeg)) := va_copied (fun z => .int z) (g.2.1 1) (g.2.1 1) f f1 h4
  rw [e1] at X' step
  have hl9 : a < H.size := (Array.getElem?_eq_some_iff.mp hc1).1
  generalize hcc : vp_cell (g.2.1 1) (n1, .inl (va_cpy f f1 sp.toNatClampNeg dp.toNatClampNeg n.toNatClampNeg)) = cc9 at X' step
  have hheap : ((T.setVm vm').setCell a cc9).heap = H.setIfInBounds a cc9 := by rw [← hT]; rfl
  obtain ⟨t, a1, b1⟩ := k (va_up h a (some (.inl (1, n1, .inl (va_cpy f f1 sp.toNatClampNeg dp.toNatClampNeg n.toNatClampNeg))))) (va_up_self _ _ _) (fun x hx => va_up_ne _ _ hx) p l e R s m args below meth c _ _ cells slots ls hC
    (hR.set (H1 := H.setIfInBounds a cc9) (hR.1 _ _ ha1).1 (by show (H.setIfInBounds a cc9)[a]? = some (vp_cell _ _); rw [hcc]; simp [Array.getElem?_setIfInBounds, hl9]) (by simp) (fun q hq _ => by simp [Array.getElem?_setIfInBounds, Ne.symm hq])) hl q1 q2 (fun q hq => by
      rcases List.mem_append.mp hq with h9 | h9
      · exact q3 q h9
      · obtain ⟨z, -, hz⟩ := List.mem_map.mp h9
        rw [← hz]
        exact (hR.1 _ _ ha1).1) _ hheap X'
  exact ⟨t, step t a1, b1⟩
theorem c_copyOf {g : fx_G} {h : fx_H} {p n m : Nat} {f : Nat → Int32} (hp : h p = some (.inl (1, n, .inl f))) (hf : ∀ i, fits .byte (.int (f i)) = true) (hnm : n < m) (hm : m ≤ 131072) : fx_Met g mJ7_copyOf_9075b 1 30 [.ref p, .int (nI m)] h 1 m (fun r h' => ∃ q, r = some (.ref q) ∧ h q = none ∧ ∃ f', h' q = some (.inl (1, m, .inl f')) ∧ (∀ j, j < n → f' j = f j) ∧ (∀ i, fits .byte (.int (f' i)) = true) ∧ (∀ x, h x ≠ none → h' x = h x)) := by
  refine fx_Met.of rfl (Nat.le_of_ble_eq_true rfl) ?_
  refine fx_iloadn dJ7_copyOf_9075b_0 rfl ?_
  refine fx_aloadn dJ7_copyOf_9075b_1 rfl ?_
  refine fx_alenI dJ7_copyOf_9075b_2 (by assumption) (by decide) ?_
  have hne : nI m ≠ nI n := fun e => absurd ((nI_eq (by omega) (by omega)).mp e) (by omega)
  refine fx_icmp_ne 14 dJ7_copyOf_9075b_3 (by decide) (fun c3 => ?_) (fun c3 => absurd c3 (hne))
  refine fx_iloadn dJ7_copyOf_9075b_14 rfl ?_
  refine fx_newIV 1 m (by decide) rfl dJ7_copyOf_9075b_15 ac_byte (nI_pos (by omega)) (nI_clamp (by omega)) (by omega) (by decide) (Nat.le_refl _) (fun q h1 hq e1 o1 => ?_)
  have hpq : p ≠ q := ne_new hp hq
  have hp1 : h1 p = some (.inl (1, n, .inl f)) := (o1 p hpq).trans hp
  refine fx_astoren dJ7_copyOf_9075b_17 (by decide) ?_
  refine fx_aloadn dJ7_copyOf_9075b_18 rfl ?_
  refine fx_iconst (nI 0) dJ7_copyOf_9075b_19 (by decide) ?_
  refine fx_aloadn dJ7_copyOf_9075b_20 rfl ?_
  refine fx_iconst (nI 0) dJ7_copyOf_9075b_21 (by decide) ?_
  refine fx_aloadn dJ7_copyOf_9075b_22 rfl ?_
  refine fx_alenI dJ7_copyOf_9075b_23 (by assumption) (by decide) ?_
  refine fx_iloadn dJ7_copyOf_9075b_24 rfl ?_
  refine fx_mmin dJ7_copyOf_9075b_25 mthJ7_304 ms_min inJ9 mc_min (by decide) (by decide) (Nat.le_of_ble_eq_true rfl) ?_
  rw [if_neg (nI_nlt (by omega) (by omega))]
  refine fx_copyB dJ7_copyOf_9075b_28 acp_l inJ10 hp1 e1 (by decide) (by decide) (nI_pos (by omega)) (by rw [nI_clamp (by decide), nI_clamp (by omega)]; omega) (by rw [nI_clamp (by decide), nI_clamp (by omega)]; omega) hf (by decide) (by decide) (Nat.le_of_ble_eq_true rfl) (fun h2 e2 o2 => ?_)
  refine fx_aloadn dJ7_copyOf_9075b_31 rfl ?_
  refine fx_aret dJ7_copyOf_9075b_32 rfl (Or.inr ⟨_, rfl⟩) (Or.inr ⟨_, rfl⟩) ⟨q, rfl, hq, _, e2, ?_, sb_fitC hf sb_fit0, fun x hx => ?_⟩
  · intro j hj
    rw [nI_clamp (by decide), nI_clamp (by omega)]
    exact sb_cpy0 hj
  · rw [o2 x (fun e => hx (by rw [e]; exact hq)), o1 x (fun e => hx (by rw [e]; exact hq))]
theorem c_dr_clear {g : fx_G} {h : fx_H} {a p n len : Nat} {B : Nat → Nat} (H : dr h a p n len B) : fx_Met g mX0_clear 0 0 [.ref a] h 0 0 (fun r h' => r = none ∧ ∃ p' n', dr h' a p' n' 0 B ∧ (p' = p ∨ h p' = none) ∧ kp (fun x => x = a ∨ x = p) h h') := by
  obtain ⟨h1, h2, h3, f, h4, h5, h6⟩ := H
  refine fx_Met.of rfl (Nat.le_of_ble_eq_true rfl) ?_
  refine fx_aloadn dX0_clear_0 rfl ?_
  refine fx_iconst (nI 0) dX0_clear_1 (by decide) ?_
  refine fx_putV dX0_clear_2 ffX0_13 (by assumption) rfl rfl (Nat.le_of_ble_eq_true rfl) (fun h1' e1 o1 => ?_)
  refine fx_vret dX0_clear_5 rfl ?_
  exact ⟨rfl, p, n, ⟨e1, Nat.zero_le _, h3, f, (o1 p (Ne.symm (ne_oa h1 h4))).trans h4, fun j hj => by omega, h6⟩, Or.inl rfl, kp.put kp.rf o1 (Or.inl (Or.inl rfl))⟩
theorem c_dr_makeRoom {g : fx_G} {h : fx_H} {a p n len : Nat} {B : Nat → Nat} (H : dr h a p n len B) (wn ms : Nat) (hwn : wn ≤ 131072) (hms : n < wn → wn ≤ ms ∧ 2 * n ≤ ms) : fx_Met g mX0_makeRoom 2 52 [.ref a, .int (nI wn)] h 1 ms (fun r h' => r = none ∧ ∃ p' n', dr h' a p' n' len B ∧ wn ≤ n' ∧ (p' = p ∨ h p' = none) ∧ kp (fun x => x = a ∨ x = p) h h' ∧ (n' ≤ n ∨ n' ≤ ms)) := by
  obtain ⟨h1, h2, h3, f, h4, h5, h6⟩ := H
  refine fx_Met.of rfl (Nat.le_of_ble_eq_true rfl) ?_
  by_cases hw : wn ≤ n
  · skip
    refine fx_iloadn dX0_makeRoom_0 rfl ?_
    refine fx_aloadn dX0_makeRoom_1 rfl ?_
    refine fx_get dX0_makeRoom_2 ffX0_7 (by assumption) rfl ?_
    refine fx_alenI dX0_makeRoom_5 (by assumption) (by decide) ?_
    refine fx_icmp_le 36 dX0_makeRoom_6 (by decide) (fun c6 => ?_) (fun c6 => absurd (nI_le hw (by omega)) c6)
    refine fx_vret dX0_makeRoom_36 rfl ?_
    exact ⟨rfl, p, n, ⟨h1, h2, h3, f, h4, h5, h6⟩, hw, Or.inl rfl, kp.rf, Or.inl (Nat.le_refl _)⟩
  · have hms := hms (by omega)
    refine fx_iloadn dX0_makeRoom_0 rfl ?_
    refine fx_aloadn dX0_makeRoom_1 rfl ?_
    refine fx_get dX0_makeRoom_2 ffX0_7 (by assumption) rfl ?_
    refine fx_alenI dX0_makeRoom_5 (by assumption) (by decide) ?_
    refine fx_icmp_le 36 dX0_makeRoom_6 (by decide) (fun c6 => absurd c6 (nI_ge (by omega) (by omega))) (fun c6 => ?_)
    refine fx_aloadn dX0_makeRoom_9 rfl ?_
    refine fx_aloadn dX0_makeRoom_10 rfl ?_
    refine fx_get dX0_makeRoom_11 ffX0_7 (by assumption) rfl ?_
    refine fx_ldc dX0_makeRoom_14 qqX0_17 ?_
    refine fx_iloadn dX0_makeRoom_16 rfl ?_
    refine fx_iconst (nI 2) dX0_makeRoom_17 (by decide) ?_
    refine fx_aloadn dX0_makeRoom_18 rfl ?_
    refine fx_get dX0_makeRoom_19 ffX0_7 (by assumption) rfl ?_
    refine fx_alenI dX0_makeRoom_22 (by assumption) (by decide) ?_
    refine fx_imul dX0_makeRoom_23 ?_
    rw [pk_mul]
    refine fx_mmax dX0_makeRoom_24 mthX0_22 ms_max inJ9 mc_max (by decide) (by decide) (Nat.le_of_ble_eq_true rfl) ?_
    have e9 : (if nI wn < nI (2 * n) then nI (2 * n) else nI wn) = nI (if wn < 2 * n then 2 * n else wn) := by
      by_cases q : wn < 2 * n
      · rw [if_pos q, if_pos (nI_lt q (by omega))]
      · rw [if_neg q, if_neg (nI_nlt (by omega) (by omega))]
    rw [e9]
    generalize hmx : (if wn < 2 * n then 2 * n else wn) = mx
    have hmx1 : mx < 2 ^ 20 ∧ wn ≤ mx ∧ mx ≤ ms := by
      rw [← hmx]
      split <;> omega
    refine fx_mmin dX0_makeRoom_27 mthX0_28 ms_min inJ9 mc_min (by decide) (by decide) (Nat.le_of_ble_eq_true rfl) ?_
    have e8 : (if nI mx < nI 131072 then nI mx else nI 131072) = nI (if mx < 131072 then mx else 131072) := by
      by_cases q : mx < 131072
      · rw [if_pos q, if_pos (nI_lt q (by omega))]
      · rw [if_neg q, if_neg (nI_nlt (by omega) (by omega))]
    rw [e8]
    generalize hmy : (if mx < 131072 then mx else 131072) = my
    have hmy1 : my ≤ 131072 ∧ wn ≤ my ∧ my ≤ ms := by
      rw [← hmy]
      split <;> omega
    refine fx_callS dX0_makeRoom_30 vJ7_copyOf_9075b kkX0_31 (c_copyOf h4 h6 (show n < my by omega) hmy1.1) rfl (by decide) (by decide) (by decide) (by omega) rfl (Nat.le_of_ble_eq_true rfl) (fun r h2' hk => ?_)
    obtain ⟨q, rfl, hq, f2, hq2, hf2, hf3, hk2⟩ := hk
    have ha2 : h2' a = some (.inr (0, [.ref p, .int (nI len)])) := (hk2 a (by rw [h1]; exact fun e => by cases e)).trans h1
    have hnq : q ≠ a := fun e => by rw [e, h1] at hq; cases hq
    refine fx_putV dX0_makeRoom_33 ffX0_7 (by assumption) rfl rfl (Nat.le_of_ble_eq_true rfl) (fun h3' e3 o3 => ?_)
    refine fx_vret dX0_makeRoom_36 rfl ?_
    refine ⟨rfl, q, my, ⟨e3, by omega, hmy1.1, f2, (o3 q hnq).trans hq2, fun j hj => ?_, hf3⟩, hmy1.2.1, Or.inr hq, ?_, Or.inr hmy1.2.2⟩
    · rw [hf2 j (by omega)]
      exact h5 j hj
    · intro x hx hS
      rw [o3 x (fun e => hS (Or.inl e)), hk2 x hx]
/-- byte k of a long -/
def vb (v : Int64) (k : Nat) : Nat := (v >>> ((nI (8 * k)).toInt64 &&& 63)).toInt32.toBitVec.toNat % 256
theorem vb_lt (v : Int64) (k : Nat) : vb v k < 256 := Nat.mod_lt _ (by decide)
theorem vb_cl (v : Int64) (k : Nat) : vp_nar .byte (v >>> ((nI (8 * k)).toInt64 &&& 63)).toInt32.toInt8.toInt32 &&& nI 255 = nI (vb v k) := by
  have e : ∀ x : Int32, x.toInt8.toInt32 &&& 255 = x &&& 255 := fun x => by
    apply Int32.toBitVec_inj.mp
    rw [Int32.toBitVec_and, Int32.toBitVec_and, Int8.toBitVec_toInt32, Int32.toBitVec_toInt8]
    apply BitVec.eq_of_getLsbD_eq
    intro i hi
    rw [BitVec.getLsbD_and, BitVec.getLsbD_and]
    have hm : ∀ i < 32, 8 ≤ i → (255 : Int32).toBitVec.getLsbD i = false := by decide
    rcases Nat.lt_or_ge i 8 with z | z
    · rw [BitVec.getLsbD_signExtend, BitVec.getLsbD_signExtend, if_pos z, if_pos hi]
      simp only [z, hi, decide_true, Bool.true_and]
    · rw [hm i hi z]; simp
  rw [pk_vb]
  show _ &&& (255 : Int32) = _
  rw [e]
  exact pk_and _ (m := 255) 8 (by decide)
/-- what stands behind an append -/
def ap (B : Nat → Nat) (len : Nat) (v : Int64) (m : Nat) : Nat → Nat := fun j => if j < len then B j else vb v (m - 1 - (j - len))
theorem nI_m8 (r : Nat) : nI (8 * (r + 1)) + (-8) = nI (8 * r) := by
  rw [show 8 * (r + 1) = 8 * r + 8 by omega, ← nI_add, Int32.add_assoc, show nI 8 + (-8 : Int32) = 0 by decide, Int32.add_zero]

theorem l_dr_append {g : fx_G} {h0 : fx_H} {a p n len m : Nat} {B : Nat → Nat} {v : Int64} (hm : len + m ≤ n) (hm8 : m ≤ 8) : ∀ (r : Nat) (h : fx_H) (i : Nat), i + r = m → dr h a p n (len + i) (ap B len v m) → ∀ sh : Int32, sh = nI (8 * r) + (-8) → kp (fun x => x = a ∨ x = p) h0 h → fx_Y g mX0_append 3 73 (fun r h' => r = some (.int (nI 1)) ∧ ∃ p', dr h' a p' n (len + m) (ap B len v m) ∧ p' = p ∧ kp (fun x => x = a ∨ x = p) h0 h') (fun _ _ => False) 42 [(0, .ref a), (1, .long v), (4, .int sh)] [] h 0 0 := by
  intro r
  induction r with
  | zero =>
    intro h i hi hD sh hsh hk
    have hi : i = m := by omega
    subst hi
    refine fx_iload dX0_append_42 rfl ?_
    refine fx_if_lt 90 dX0_append_44 (by decide) (fun c44 => ?_) (fun c44 => absurd (by rw [hsh]; decide) c44)
    refine fx_iconst (nI 1) dX0_append_90 (by decide) ?_
    refine fx_zret dX0_append_91 rfl rfl ?_
    exact ⟨rfl, p, hD, rfl, hk⟩
  | succ r ih =>
    intro h i hi hD sh hsh hk
    rw [nI_m8] at hsh
    obtain ⟨h1, h2, h3, f, h4, h5, h6⟩ := hD
    refine fx_iload dX0_append_42 rfl ?_
    refine fx_if_lt 90 dX0_append_44 (by decide) (fun c44 => absurd c44 (by rw [hsh]; exact nI_pos (by omega))) (fun c44 => ?_)
    refine fx_aloadn dX0_append_47 rfl ?_
    refine fx_get dX0_append_48 ffX0_13 (by assumption) rfl ?_
    refine fx_aloadn dX0_append_51 rfl ?_
    refine fx_get dX0_append_52 ffX0_7 (by assumption) rfl ?_
    refine fx_alenI dX0_append_55 (by assumption) (by decide) ?_
    refine fx_icmp_ge 90 dX0_append_56 (by decide) (fun c56 => absurd c56 (nI_ge (show len + i < n by omega) (by omega))) (fun c56 => ?_)
    refine fx_aloadn dX0_append_59 rfl ?_
    refine fx_get dX0_append_60 ffX0_7 (by assumption) rfl ?_
    refine fx_aloadn dX0_append_63 rfl ?_
    refine fx_get dX0_append_64 ffX0_13 (by assumption) rfl ?_
    refine fx_lloadn dX0_append_67 rfl ?_
    rw [hsh]
    refine fx_iload dX0_append_68 rfl ?_
    refine fx_lshr dX0_append_70 ?_
    refine fx_l2i dX0_append_71 ?_
    refine fx_i2b dX0_append_72 ?_
    refine fx_bastV dX0_append_73 (by assumption) (vp_in_nI (show len + i < n by omega) (by omega)) (fun h1' e1 o1 => ?_)
    rw [nI_clamp (by omega)] at e1
    have ha1 : h1' a = some (.inr (0, [.ref p, .int (nI (len + i))])) := (o1 a (ne_oa h1 h4)).trans h1
    refine fx_aloadn dX0_append_74 rfl ?_
    refine fx_dup dX0_append_75 rfl ?_
    refine fx_get dX0_append_76 ffX0_13 (by assumption) rfl ?_
    refine fx_iconst (nI 1) dX0_append_79 (by decide) ?_
    refine fx_iadd dX0_append_80 ?_
    refine fx_putV dX0_append_81 ffX0_13 (by assumption) rfl rfl (Nat.le_of_ble_eq_true rfl) (fun h2' e2 o2 => ?_)
    refine fx_iinc (-8) dX0_append_84 rfl (by decide) (by decide) ?_
    refine fx_goto 42 dX0_append_87 (by decide) ?_
    rw [nI_add] at e2
    have hp2 := (o2 p (Ne.symm (ne_oa h1 h4))).trans e1
    refine fx_to (ih h2' (i + 1) (by omega) ⟨e2, by omega, h3, _, hp2, fun j hj => ?_, sb_fitU h6 (pk_fb _)⟩ _ rfl (kp.put (kp.put hk o1 (Or.inl (Or.inr rfl))) o2 (Or.inl (Or.inl rfl)))) ⟨rfl, rfl, ?_, trivial⟩
    · by_cases e : j = len + i
      · subst e
        rw [pk_us]
        refine ⟨?_, ?_⟩
        · unfold ap
          rw [if_neg (by omega), show m - 1 - (len + i - len) = r by omega]
          exact vb_cl v r
        · unfold ap
          rw [if_neg (by omega)]
          exact vb_lt _ _
      · rw [pk_un e]
        exact h5 j (by omega)
    · rfl
def putOk (len : Nat) (x : Int32) : Prop := ∃ m, 1 ≤ m ∧ m ≤ 8 ∧ len + m ≤ 131072 ∧ x = nI m
theorem c_dr_appendN {g : fx_G} {h : fx_H} {a p n len : Nat} {B : Nat → Nat} (H : dr h a p n len B) (v : Int64) (x : Int32) (hx : ¬ putOk len x) (ms : Nat) : fx_Met g mX0_append 3 73 [.ref a, .long v, .int x] h 1 ms (fun r h' => r = some (.int (nI 0)) ∧ h' = h) := by
  have hlen := H.len
  obtain ⟨h1, h2, h3, f, h4, h5, h6⟩ := H
  refine fx_Met.of rfl (Nat.le_of_ble_eq_true rfl) ?_
  by_cases x1 : x < nI 1
  · skip
    refine fx_iloadn dX0_append_0 rfl ?_
    refine fx_iconst (nI 1) dX0_append_1 (by decide) ?_
    refine fx_icmp_lt 22 dX0_append_2 (by decide) (fun c2 => ?_) (fun c2 => absurd (x1) c2)
    refine fx_iconst (nI 0) dX0_append_22 (by decide) ?_
    refine fx_zret dX0_append_23 rfl rfl ?_
    exact ⟨rfl, rfl⟩
  · by_cases x8 : nI 8 < x
    · skip
      refine fx_iloadn dX0_append_0 rfl ?_
      refine fx_iconst (nI 1) dX0_append_1 (by decide) ?_
      refine fx_icmp_lt 22 dX0_append_2 (by decide) (fun c2 => absurd c2 (x1)) (fun c2 => ?_)
      refine fx_iloadn dX0_append_5 rfl ?_
      refine fx_bipush (nI 8) dX0_append_6 (by decide) ?_
      refine fx_icmp_gt 22 dX0_append_8 (by decide) (fun c8 => ?_) (fun c8 => absurd (x8) c8)
      refine fx_iconst (nI 0) dX0_append_22 (by decide) ?_
      refine fx_zret dX0_append_23 rfl rfl ?_
      exact ⟨rfl, rfl⟩
    · obtain ⟨m, hm, rfl⟩ := nI_of2 (M := nI 8) (n := 8) rfl (fun e => x1 (Int32.lt_trans e (by decide))) (Int32.not_lt.mp x8)
      have hm1 : 1 ≤ m := Nat.le_of_not_lt (fun e => x1 (nI_lt e (by decide)))
      have hlm : 131072 - len < m := by
        by_cases e : len + m ≤ 131072
        · exact absurd ⟨m, hm1, hm, e, rfl⟩ hx
        · omega
      refine fx_iloadn dX0_append_0 rfl ?_
      refine fx_iconst (nI 1) dX0_append_1 (by decide) ?_
      refine fx_icmp_lt 22 dX0_append_2 (by decide) (fun c2 => absurd c2 (x1)) (fun c2 => ?_)
      refine fx_iloadn dX0_append_5 rfl ?_
      refine fx_bipush (nI 8) dX0_append_6 (by decide) ?_
      refine fx_icmp_gt 22 dX0_append_8 (by decide) (fun c8 => absurd c8 (x8)) (fun c8 => ?_)
      refine fx_iloadn dX0_append_11 rfl ?_
      refine fx_ldc dX0_append_12 qqX0_17 ?_
      refine fx_aloadn dX0_append_14 rfl ?_
      refine fx_get dX0_append_15 ffX0_13 (by assumption) rfl ?_
      refine fx_isub dX0_append_18 ?_
      rw [pk_sub (by omega)]
      refine fx_icmp_le 24 dX0_append_19 (by decide) (fun c19 => absurd c19 (nI_ge hlm (by omega))) (fun c19 => ?_)
      refine fx_iconst (nI 0) dX0_append_22 (by decide) ?_
      refine fx_zret dX0_append_23 rfl rfl ?_
      exact ⟨rfl, rfl⟩
theorem c_dr_append {g : fx_G} {h : fx_H} {a p n len : Nat} {B : Nat → Nat} (H : dr h a p n len B) (v : Int64) (m ms : Nat) (hm1 : 1 ≤ m) (hm8 : m ≤ 8) (hlm : len + m ≤ 131072) (hms : n < len + m → len + m ≤ ms ∧ 2 * n ≤ ms) : fx_Met g mX0_append 3 73 [.ref a, .long v, .int (nI m)] h 1 ms (fun r h' => r = some (.int (nI 1)) ∧ ∃ p' n', dr h' a p' n' (len + m) (ap B len v m) ∧ len + m ≤ n' ∧ (p' = p ∨ h p' = none) ∧ kp (fun x => x = a ∨ x = p) h h' ∧ (n' ≤ n ∨ n' ≤ ms)) := by
  have h1 := H.1
  refine fx_Met.of rfl (Nat.le_of_ble_eq_true rfl) ?_
  refine fx_iloadn dX0_append_0 rfl ?_
  refine fx_iconst (nI 1) dX0_append_1 (by decide) ?_
  refine fx_icmp_lt 22 dX0_append_2 (by decide) (fun c2 => absurd c2 (nI_nlt hm1 (by omega))) (fun c2 => ?_)
  refine fx_iloadn dX0_append_5 rfl ?_
  refine fx_bipush (nI 8) dX0_append_6 (by decide) ?_
  refine fx_icmp_gt 22 dX0_append_8 (by decide) (fun c8 => absurd c8 (nI_nlt hm8 (by decide))) (fun c8 => ?_)
  refine fx_iloadn dX0_append_11 rfl ?_
  refine fx_ldc dX0_append_12 qqX0_17 ?_
  refine fx_aloadn dX0_append_14 rfl ?_
  refine fx_get dX0_append_15 ffX0_13 (by assumption) rfl ?_
  refine fx_isub dX0_append_18 ?_
  rw [pk_sub (by omega)]
  refine fx_icmp_le 24 dX0_append_19 (by decide) (fun c19 => ?_) (fun c19 => absurd (nI_le (by omega) (by omega)) c19)
  refine fx_aloadn dX0_append_24 rfl ?_
  refine fx_aloadn dX0_append_25 rfl ?_
  refine fx_get dX0_append_26 ffX0_13 (by assumption) rfl ?_
  refine fx_iloadn dX0_append_29 rfl ?_
  refine fx_iadd dX0_append_30 ?_
  rw [nI_add]
  refine fx_callV dX0_append_31 vX0_makeRoom kkX0_18 rfl rfl h1 (c_dr_makeRoom H (len + m) ms hlm hms) rfl (by decide) (by decide) (Nat.le_refl _) (Nat.le_refl _) rfl (Nat.le_of_ble_eq_true rfl) (fun r h2 hk => ?_)
  obtain ⟨rfl, p2, n2, hD, hn2, hp2, hkp, hn9⟩ := hk
  show fx_Y g mX0_append 3 73 _ _ 34 _ [] h2 _ _
  refine fx_bipush (nI 8) dX0_append_34 (by decide) ?_
  refine fx_iloadn dX0_append_36 rfl ?_
  refine fx_iconst (nI 1) dX0_append_37 (by decide) ?_
  refine fx_isub dX0_append_38 ?_
  refine fx_imul dX0_append_39 ?_
  rw [pk_sub hm1, pk_mul]
  refine fx_istore dX0_append_40 (by decide) ?_
  refine fx_less (Nat.zero_le _) (Nat.zero_le _) ?_
  refine fx_mono ?_ (fun _ _ q => q) (fx_to (l_dr_append (v := v) (h0 := h2) (B := B) hn2 hm8 m h2 0 (by omega) ⟨hD.1, hD.2.1, hD.2.2.1, ?_⟩ _ rfl kp.rf) ⟨rfl, rfl, ?_, trivial⟩)
  · intro r h' q
    obtain ⟨q1, p', q2, rfl, q3⟩ := q
    refine ⟨q1, p', n2, q2, hn2, hp2, ?_, hn9⟩
    refine hkp.tr q3 (fun x hx hn => ?_)
    rcases hx with e | e
    · exact Or.inl e
    · rcases hp2 with e2 | e2
      · exact Or.inr (e.trans e2)
      · exact absurd (by rw [e]; exact e2) hn
  · obtain ⟨f2, g4, g5, g6⟩ := hD.2.2.2
    refine ⟨f2, g4, fun j hj => ?_, g6⟩
    unfold ap
    rw [if_pos (by omega)]
    exact g5 j hj
  · show some (Value.int (nI (8 * (m - 1)))) = some (Value.int (nI (8 * m) + (-8)))
    rw [show 8 * m = 8 * (m - 1 + 1) by omega, nI_m8]
theorem c_dr_init {g : fx_G} {h : fx_H} {a : Nat} {v0 v1 : Value} (ha : h a = some (.inr (0, [v0, v1]))) : fx_Met g mX0_init 1 30 [.ref a] h 1 64 (fun r h' => r = none ∧ ∃ q, h q = none ∧ dr h' a q 64 0 (fun _ => 0) ∧ kp (fun x => x = a) h h') := by
  refine fx_Met.of rfl (Nat.le_of_ble_eq_true rfl) ?_
  refine fx_aloadn dX0_init_0 rfl ?_
  refine fx_objInit dX0_init_1 ooX0 oo_i oo_c (by decide) (by decide) (Nat.le_of_ble_eq_true rfl) ?_
  refine fx_aloadn dX0_init_4 rfl ?_
  refine fx_bipush (nI 64) dX0_init_5 (by decide) ?_
  refine fx_newIV 1 64 (by decide) rfl dX0_init_7 ac_byte (by decide) (by decide) (by decide) (by decide) (by decide) (fun q h1 hq e1 o1 => ?_)
  have ha1 := (o1 a (ne_new ha hq)).trans ha
  refine fx_putV dX0_init_9 ffX0_7 ha1 rfl rfl (Nat.le_of_ble_eq_true rfl) (fun h2 e2 o2 => ?_)
  refine fx_aloadn dX0_init_12 rfl ?_
  refine fx_iconst (nI 0) dX0_init_13 (by decide) ?_
  refine fx_putV dX0_init_14 ffX0_13 e2 rfl rfl (Nat.le_of_ble_eq_true rfl) (fun h3 e3 o3 => ?_)
  refine fx_vret dX0_init_17 rfl ?_
  have nq : q ≠ a := Ne.symm (ne_new ha hq)
  exact ⟨rfl, q, hq, ⟨e3, Nat.zero_le _, by decide, _, (o3 q nq).trans ((o2 q nq).trans e1), fun j hj => by omega, sb_fit0⟩, kp.put (kp.put (kp.put kp.rf o1 (Or.inr hq)) o2 (Or.inl rfl)) o3 (Or.inl rfl)⟩
end
section
/-! FontDesk$Font: its constructor -/
theorem dr.kept {h h' : fx_H} {a p n len : Nat} {B : Nat → Nat} (H : dr h a p n len B) (ha : h' a = h a) (hp : h' p = h p) : dr h' a p n len B := by
  obtain ⟨h1, h2, h3, f, h4, h5, h6⟩ := H
  exact ⟨ha.trans h1, h2, h3, f, hp.trans h4, h5, h6⟩
theorem dr.np {h : fx_H} {a p n len : Nat} {B : Nat → Nat} (H : dr h a p n len B) : ∃ x : Nat × vp_A, h p = some (.inl x) ∧ x.1 = 1 := by
  obtain ⟨h1, h2, h3, f, h4, h5, h6⟩ := H
  exact ⟨_, h4, rfl⟩
/-- a font that is being made: its cells, all apart, and the draft beside it -/
def fi (h : fx_H) (a pw ps pl pi nw : Nat) (fw fs fl fz : Nat → Int32) : Prop := h a = some (.inr (2, [.ref pw, .ref ps, .ref pl, .ref pi, .int (nI 0)])) ∧ h pw = some (.inl (0, nw, .inl fw)) ∧ h ps = some (.inl (0, 10, .inl fs)) ∧ h pl = some (.inl (0, 10, .inl fl)) ∧ h pi = some (.inl (0, 256, .inl fz))
def fap (pw ps pl pi : Nat) : Prop := pw ≠ ps ∧ pw ≠ pl ∧ pw ≠ pi ∧ ps ≠ pl ∧ ps ≠ pi ∧ pl ≠ pi
theorem fi.setw {h h' : fx_H} {a pw ps pl pi nw : Nat} {fw fs fl fz f' : Nat → Int32} (F : fi h a pw ps pl pi nw fw fs fl fz) (N : fap pw ps pl pi) (e : h' pw = some (.inl (0, nw, .inl f'))) (o : ∀ x, x ≠ pw → h' x = h x) : fi h' a pw ps pl pi nw f' fs fl fz :=
  ⟨(o _ (ne_oa F.1 F.2.1)).trans F.1, e, (o _ (Ne.symm N.1)).trans F.2.2.1, (o _ (Ne.symm N.2.1)).trans F.2.2.2.1, (o _ (Ne.symm N.2.2.1)).trans F.2.2.2.2⟩
theorem fi.sets {h h' : fx_H} {a pw ps pl pi nw : Nat} {fw fs fl fz f' : Nat → Int32} (F : fi h a pw ps pl pi nw fw fs fl fz) (N : fap pw ps pl pi) (e : h' ps = some (.inl (0, 10, .inl f'))) (o : ∀ x, x ≠ ps → h' x = h x) : fi h' a pw ps pl pi nw fw f' fl fz :=
  ⟨(o _ (ne_oa F.1 F.2.2.1)).trans F.1, (o _ N.1).trans F.2.1, e, (o _ (Ne.symm N.2.2.2.1)).trans F.2.2.2.1, (o _ (Ne.symm N.2.2.2.2.1)).trans F.2.2.2.2⟩
theorem fi.setl {h h' : fx_H} {a pw ps pl pi nw : Nat} {fw fs fl fz f' : Nat → Int32} (F : fi h a pw ps pl pi nw fw fs fl fz) (N : fap pw ps pl pi) (e : h' pl = some (.inl (0, 10, .inl f'))) (o : ∀ x, x ≠ pl → h' x = h x) : fi h' a pw ps pl pi nw fw fs f' fz :=
  ⟨(o _ (ne_oa F.1 F.2.2.2.1)).trans F.1, (o _ N.2.1).trans F.2.1, (o _ N.2.2.2.1).trans F.2.2.1, e, (o _ (Ne.symm N.2.2.2.2.2)).trans F.2.2.2.2⟩
theorem fi.setz {h h' : fx_H} {a pw ps pl pi nw : Nat} {fw fs fl fz f' : Nat → Int32} (F : fi h a pw ps pl pi nw fw fs fl fz) (N : fap pw ps pl pi) (e : h' pi = some (.inl (0, 256, .inl f'))) (o : ∀ x, x ≠ pi → h' x = h x) : fi h' a pw ps pl pi nw fw fs fl f' :=
  ⟨(o _ (ne_oa F.1 F.2.2.2.2)).trans F.1, (o _ N.2.2.1).trans F.2.1, (o _ N.2.2.2.2.1).trans F.2.2.1, (o _ N.2.2.2.2.2).trans F.2.2.2.1, e⟩
theorem dr.set0 {h h' : fx_H} {d p n len q : Nat} {B : Nat → Nat} {x : vp_A} (H : dr h d p n len B) (hq : h q = some (.inl (0, x))) (o : ∀ x, x ≠ q → h' x = h x) : dr h' d p n len B := by
  obtain ⟨y, hy, hy1⟩ := H.np
  obtain ⟨y1, y2⟩ := y
  subst hy1
  exact H.kept (o _ (ne_oa H.1 hq)) (o _ (ne_aa hy hq (by decide)))

theorem p_fi_wordAt {g : fx_G} {h : fx_H} {a nw pw ps pl pi : Nat} {b : Nat → Nat} {fw fs fl fz : Nat → Int32} (F : fi h a pw ps pl pi nw fw fs fl fz) (V : ml_v b nw) (h6 : ∀ k, k < nw → fw k = nI (ml_W b k)) (h7 : ∀ r, r < 10 → fs r = nI (ml_st b r) ∧ fl r = nI (ml_rl b r)) (r : Nat) (hr : r < 10) (x : Int32) : fx_P g mX3_wordAt 0 0 [.ref a, .int (nI r), .int x] h (.int (nI (ml_eI b r x))) := by
  obtain ⟨h1, h2, h3, h4, h5⟩ := F
  refine fx_Met.of rfl (Nat.le_of_ble_eq_true rfl) ?_
  have hq1 := V.row hr
  have hq2 := V.nw
  by_cases hx : x < 0
  · skip
    refine fx_iloadn dX3_wordAt_0 rfl ?_
    refine fx_if_lt 24 dX3_wordAt_1 (by decide) (fun c1 => absurd c1 (nI_pos (by omega))) (fun c1 => ?_)
    refine fx_iloadn dX3_wordAt_4 rfl ?_
    refine fx_bipush (nI 10) dX3_wordAt_5 (by decide) ?_
    refine fx_icmp_ge 24 dX3_wordAt_7 (by decide) (fun c7 => absurd c7 (nI_ge hr (by decide))) (fun c7 => ?_)
    refine fx_iloadn dX3_wordAt_10 rfl ?_
    refine fx_if_lt 24 dX3_wordAt_11 (by decide) (fun c11 => ?_) (fun c11 => absurd (hx) c11)
    refine fx_iconst (nI 0) dX3_wordAt_24 (by decide) ?_
    refine fx_iret dX3_wordAt_25 rfl ?_
    exact ⟨by rw [ml_eI_m r hx], rfl⟩
  · obtain ⟨j, hj, rfl⟩ := nI_of hx
    by_cases hk : j < ml_rl b r
    · skip
      refine fx_iloadn dX3_wordAt_0 rfl ?_
      refine fx_if_lt 24 dX3_wordAt_1 (by decide) (fun c1 => absurd c1 (nI_pos (by omega))) (fun c1 => ?_)
      refine fx_iloadn dX3_wordAt_4 rfl ?_
      refine fx_bipush (nI 10) dX3_wordAt_5 (by decide) ?_
      refine fx_icmp_ge 24 dX3_wordAt_7 (by decide) (fun c7 => absurd c7 (nI_ge hr (by decide))) (fun c7 => ?_)
      refine fx_iloadn dX3_wordAt_10 rfl ?_
      refine fx_if_lt 24 dX3_wordAt_11 (by decide) (fun c11 => absurd c11 (nI_pos hj)) (fun c11 => ?_)
      refine fx_iloadn dX3_wordAt_14 rfl ?_
      refine fx_aloadn dX3_wordAt_15 rfl ?_
      refine fx_get dX3_wordAt_16 ffX3_15 (by assumption) rfl ?_
      refine fx_iloadn dX3_wordAt_19 rfl ?_
      refine fx_iald dX3_wordAt_20 (by assumption) (vp_in_nI hr (by decide)) ?_
      rw [nI_clamp (show r < 2 ^ 31 by omega), (h7 r hr).2]
      refine fx_icmp_lt 26 dX3_wordAt_21 (by decide) (fun c21 => ?_) (fun c21 => absurd (nI_lt hk (by omega)) c21)
      refine fx_aloadn dX3_wordAt_26 rfl ?_
      refine fx_get dX3_wordAt_27 ffX3_11 (by assumption) rfl ?_
      refine fx_iloadn dX3_wordAt_30 rfl ?_
      refine fx_iald dX3_wordAt_31 (by assumption) (vp_in_nI hr (by decide)) ?_
      rw [nI_clamp (show r < 2 ^ 31 by omega), (h7 r hr).1]
      refine fx_iloadn dX3_wordAt_32 rfl ?_
      refine fx_iadd dX3_wordAt_33 ?_
      rw [nI_add]
      refine fx_istoren dX3_wordAt_34 (by decide) ?_
      refine fx_iloadn dX3_wordAt_35 rfl ?_
      refine fx_if_lt 57 dX3_wordAt_36 (by decide) (fun c36 => absurd c36 (nI_pos (by omega))) (fun c36 => ?_)
      refine fx_iloadn dX3_wordAt_39 rfl ?_
      refine fx_aloadn dX3_wordAt_40 rfl ?_
      refine fx_get dX3_wordAt_41 ffX3_30 (by assumption) rfl ?_
      refine fx_alenI dX3_wordAt_44 (by assumption) (by decide) ?_
      refine fx_icmp_ge 57 dX3_wordAt_45 (by decide) (fun c45 => absurd c45 (nI_ge (show ml_st b r + j < nw by omega) (by omega))) (fun c45 => ?_)
      refine fx_aloadn dX3_wordAt_48 rfl ?_
      refine fx_get dX3_wordAt_49 ffX3_30 (by assumption) rfl ?_
      refine fx_iloadn dX3_wordAt_52 rfl ?_
      refine fx_iald dX3_wordAt_53 (by assumption) (vp_in_nI (show ml_st b r + j < nw by omega) (by omega)) ?_
      rw [nI_clamp (show ml_st b r + j < 2 ^ 31 by omega), h6 _ (by omega)]
      refine fx_goto 58 dX3_wordAt_54 (by decide) ?_
      refine fx_iret dX3_wordAt_58 rfl ?_
      refine ⟨?_, rfl⟩
      rw [ml_eI_n r hj]
      unfold ml_e
      rw [if_pos hk]
    · skip
      refine fx_iloadn dX3_wordAt_0 rfl ?_
      refine fx_if_lt 24 dX3_wordAt_1 (by decide) (fun c1 => absurd c1 (nI_pos (by omega))) (fun c1 => ?_)
      refine fx_iloadn dX3_wordAt_4 rfl ?_
      refine fx_bipush (nI 10) dX3_wordAt_5 (by decide) ?_
      refine fx_icmp_ge 24 dX3_wordAt_7 (by decide) (fun c7 => absurd c7 (nI_ge hr (by decide))) (fun c7 => ?_)
      refine fx_iloadn dX3_wordAt_10 rfl ?_
      refine fx_if_lt 24 dX3_wordAt_11 (by decide) (fun c11 => absurd c11 (nI_pos hj)) (fun c11 => ?_)
      refine fx_iloadn dX3_wordAt_14 rfl ?_
      refine fx_aloadn dX3_wordAt_15 rfl ?_
      refine fx_get dX3_wordAt_16 ffX3_15 (by assumption) rfl ?_
      refine fx_iloadn dX3_wordAt_19 rfl ?_
      refine fx_iald dX3_wordAt_20 (by assumption) (vp_in_nI hr (by decide)) ?_
      rw [nI_clamp (show r < 2 ^ 31 by omega), (h7 r hr).2]
      refine fx_icmp_lt 26 dX3_wordAt_21 (by decide) (fun c21 => absurd c21 (nI_nlt (by omega) hj)) (fun c21 => ?_)
      refine fx_iconst (nI 0) dX3_wordAt_24 (by decide) ?_
      refine fx_iret dX3_wordAt_25 rfl ?_
      refine ⟨?_, rfl⟩
      rw [ml_eI_n r hj]
      unfold ml_e
      rw [if_neg hk]

theorem l_fi_D {g : fx_G} {h0 : fx_H} {a len nw pw ps pl pi cu su : Nat} {B : Nat → Nat} (V : ml_v (by_ B len) nw) (hlen : len = 4 * nw) (N : fap pw ps pl pi) (hn : h0 pw = none ∧ h0 ps = none ∧ h0 pl = none ∧ h0 pi = none) (fw fs fl : Nat → Int32) (h6 : ∀ k, k < nw → fw k = nI (ml_W (by_ B len) k)) (h7 : ∀ r, r < 10 → fs r = nI (ml_st (by_ B len) r) ∧ fl r = nI (ml_rl (by_ B len) r)) : ∀ (n' : Nat) (h : fx_H) (c : Nat) (fz : Nat → Int32), c + n' = 256 → fi h a pw ps pl pi nw fw fs fl fz → (∀ j, j < c → fz j = nI (ml_i (by_ B len) j)) → kp (fun x => x = a) h0 h → fx_Y g mX3_init 3 63 (fun r h' => r = none ∧ ∃ pw ps pl pi fw fs fl fz, fi h' a pw ps pl pi nw fw fs fl fz ∧ (∀ k, k < nw → fw k = nI (ml_W (by_ B len) k)) ∧ (∀ r, r < 10 → fs r = nI (ml_st (by_ B len) r) ∧ fl r = nI (ml_rl (by_ B len) r)) ∧ (∀ c, c < 256 → fz c = nI (ml_i (by_ B len) c)) ∧ h0 pw = none ∧ h0 ps = none ∧ h0 pl = none ∧ h0 pi = none ∧ kp (fun x => x = a) h0 h') (fun _ _ => False) 173 [(0, .ref a), (2, .int (nI (ml_H (by_ B len) 2))), (4, .int (nI c))] [] h cu su := by
  have w2 := V.w.2.1 2 (by decide)
  intro n'
  induction n' using Nat.strongRecOn with
  | ind n' ih =>
  intro h c fz hc F hz hk
  obtain ⟨f1, f2, f3, f4, f5⟩ := id F
  refine fx_iload dX3_init_173 rfl ?_
  refine fx_sipush (nI 256) dX3_init_175 (by decide) ?_
  refine fx_icn_ge 219 dX3_init_178 (by decide) (by omega) (by omega) (fun c178 => ?_) (fun c178 => ?_)
  · skip
    refine fx_vret dX3_init_219 rfl ?_
    exact ⟨rfl, pw, ps, pl, pi, fw, fs, fl, fz, F, h6, h7, fun j hj => hz j (by omega), hn.1, hn.2.1, hn.2.2.1, hn.2.2.2, hk⟩
  · skip
    refine fx_aloadn dX3_init_181 rfl ?_
    refine fx_iconst (nI 1) dX3_init_182 (by decide) ?_
    refine fx_iload dX3_init_183 rfl ?_
    refine fx_iloadn dX3_init_185 rfl ?_
    refine fx_isub dX3_init_186 ?_
    obtain ⟨f1, f2, f3, f4, f5⟩ := id F
    refine fx_callVp dX3_init_187 vX3_wordAt kkX3_40 rfl rfl f1 (p_fi_wordAt F V h6 h7 1 (by decide) _) rfl (by decide) (by decide) rfl (Nat.le_of_ble_eq_true rfl) ?_
    refine fx_istore dX3_init_190 (by decide) ?_
    refine fx_aloadn dX3_init_192 rfl ?_
    refine fx_get dX3_init_193 ffX3_18 (by assumption) rfl ?_
    refine fx_iload dX3_init_196 rfl ?_
    refine fx_iload dX3_init_198 rfl ?_
    refine fx_bipush (nI 24) dX3_init_200 (by decide) ?_
    refine fx_iushr dX3_init_202 ?_
    rw [pk_ushrN (ml_eI_lt V.1 1 _) (nI 24) 24 (by decide)]
    have q9 := ml_eI_lt V.1 1 (nI c - nI (ml_H (by_ B len) 2))
    have hin : (if ml_eI (by_ B len) 1 (nI c - nI (ml_H (by_ B len) 2)) / 2 ^ 24 = 0 then 0 else ml_eI (by_ B len) 1 (nI c - nI (ml_H (by_ B len) 2))) = ml_i (by_ B len) c := by
      by_cases e : ml_H (by_ B len) 2 ≤ c
      · rw [pk_sub e, ml_eI_n 1 (by omega)]
        have q8 := ml_e_lt V.1 1 (c - ml_H (by_ B len) 2)
        unfold ml_i
        by_cases e2 : ml_e (by_ B len) 1 (c - ml_H (by_ B len) 2) / 2 ^ 24 = 0
        · rw [if_pos e2, if_neg (by omega)]
        · rw [if_neg e2, if_pos (by omega)]
      · rw [ml_eI_m 1 (pk_sneg (by omega) (by omega)), ml_i_out (Or.inl (by omega))]
        rfl
    have j212 : ∀ (lv : List (Nat × Value)) (v : Int32), fx_le [(0, .ref a), (2, .int (nI (ml_H (by_ B len) 2))), (4, .int (nI c))] lv → v = nI (ml_i (by_ B len) c) → fx_Y g mX3_init 3 63 (fun r h' => r = none ∧ ∃ pw ps pl pi fw fs fl fz, fi h' a pw ps pl pi nw fw fs fl fz ∧ (∀ k, k < nw → fw k = nI (ml_W (by_ B len) k)) ∧ (∀ r, r < 10 → fs r = nI (ml_st (by_ B len) r) ∧ fl r = nI (ml_rl (by_ B len) r)) ∧ (∀ c, c < 256 → fz c = nI (ml_i (by_ B len) c)) ∧ h0 pw = none ∧ h0 ps = none ∧ h0 pl = none ∧ h0 pi = none ∧ kp (fun x => x = a) h0 h') (fun _ _ => False) 212 lv [.int v, .int (nI c), .ref pi] h cu su := by
      intro lv v hlv hv
      refine fx_sub _ hlv ?_
      refine fx_iastV dX3_init_212 (by assumption) (vp_in_nI c178 (by decide)) (fun h1 e1 o1 => ?_)
      refine fx_iinc (nI 1) dX3_init_213 rfl (by decide) (by decide) ?_
      refine fx_goto 173 dX3_init_216 (by decide) ?_
      simp only [nI_add]
      rw [nI_clamp (by omega)] at e1
      refine fx_to (ih (n' - 1) (by omega) h1 (c + 1) _ (by omega) (F.setz N e1 o1) (fun j hj => ?_) (kp.put hk o1 (Or.inr hn.2.2.2))) ⟨rfl, rfl, rfl, trivial⟩
      by_cases e : j = c
      · subst e
        rw [pk_us, hv]
      · rw [pk_un e]
        exact hz j (by omega)
    refine fx_ifn_ne 210 dX3_init_203 (by decide) (by omega) (fun c203 => ?_) (fun c203 => ?_)
    · refine fx_iload dX3_init_210 rfl ?_
      exact j212 _ _ ⟨rfl, rfl, rfl, trivial⟩ (by rw [← hin, if_neg c203])
    · refine fx_iconst (nI 0) dX3_init_206 (by decide) ?_
      refine fx_goto 212 dX3_init_207 (by decide) ?_
      exact j212 _ _ ⟨rfl, rfl, rfl, trivial⟩ (by rw [← hin, if_pos c203])
theorem l_fi_C {g : fx_G} {h0 : fx_H} {a len nw pw ps pl pi cu su : Nat} {B : Nat → Nat} (V : ml_v (by_ B len) nw) (hlen : len = 4 * nw) (N : fap pw ps pl pi) (hn : h0 pw = none ∧ h0 ps = none ∧ h0 pl = none ∧ h0 pi = none) (fw fl fz : Nat → Int32) (h6 : ∀ k, k < nw → fw k = nI (ml_W (by_ B len) k)) (hl9 : ∀ r, r < 10 → fl r = nI (ml_rl (by_ B len) r)) : ∀ (n' : Nat) (h : fx_H) (r : Nat) (fs : Nat → Int32), r + n' = 10 → fi h a pw ps pl pi nw fw fs fl fz → (∀ j, j < r → fs j = nI (ml_st (by_ B len) j)) → kp (fun x => x = a) h0 h → fx_Y g mX3_init 3 63 (fun r h' => r = none ∧ ∃ pw ps pl pi fw fs fl fz, fi h' a pw ps pl pi nw fw fs fl fz ∧ (∀ k, k < nw → fw k = nI (ml_W (by_ B len) k)) ∧ (∀ r, r < 10 → fs r = nI (ml_st (by_ B len) r) ∧ fl r = nI (ml_rl (by_ B len) r)) ∧ (∀ c, c < 256 → fz c = nI (ml_i (by_ B len) c)) ∧ h0 pw = none ∧ h0 ps = none ∧ h0 pl = none ∧ h0 pi = none ∧ kp (fun x => x = a) h0 h') (fun _ _ => False) 139 [(0, .ref a), (2, .int (nI (ml_H (by_ B len) 2))), (3, .int (nI (ml_st (by_ B len) r))), (4, .int (nI r))] [] h cu su := by
  intro n'
  induction n' using Nat.strongRecOn with
  | ind n' ih =>
  intro h r fs hc F hs hk
  obtain ⟨f1, f2, f3, f4, f5⟩ := id F
  refine fx_iload dX3_init_139 rfl ?_
  refine fx_bipush (nI 10) dX3_init_141 (by decide) ?_
  refine fx_icn_ge 170 dX3_init_143 (by decide) (by omega) (by omega) (fun c143 => ?_) (fun c143 => ?_)
  · skip
    refine fx_iconst (nI 0) dX3_init_170 (by decide) ?_
    refine fx_istore dX3_init_171 (by decide) ?_
    exact fx_to (l_fi_D V hlen N hn fw fs fl h6 (fun j hj => ⟨hs j (by omega), hl9 j hj⟩) 256 h 0 fz rfl F (fun j hj => by omega) hk) ⟨rfl, rfl, rfl, trivial⟩
  · skip
    refine fx_aloadn dX3_init_146 rfl ?_
    refine fx_get dX3_init_147 ffX3_11 (by assumption) rfl ?_
    refine fx_iload dX3_init_150 rfl ?_
    refine fx_iloadn dX3_init_152 rfl ?_
    refine fx_iastV dX3_init_153 (by assumption) (vp_in_nI c143 (by decide)) (fun h1 e1 o1 => ?_)
    rw [nI_clamp (by omega)] at e1
    have F1 := F.sets N e1 o1
    obtain ⟨g1, g2, g3, g4, g5⟩ := id F1
    refine fx_iloadn dX3_init_154 rfl ?_
    refine fx_aloadn dX3_init_155 rfl ?_
    refine fx_get dX3_init_156 ffX3_15 (by assumption) rfl ?_
    refine fx_iload dX3_init_159 rfl ?_
    refine fx_iald dX3_init_161 (by assumption) (vp_in_nI c143 (by decide)) ?_
    rw [nI_clamp (by omega), hl9 r c143]
    refine fx_iadd dX3_init_162 ?_
    rw [nI_add]
    refine fx_istoren dX3_init_163 (by decide) ?_
    refine fx_iinc (nI 1) dX3_init_164 rfl (by decide) (by decide) ?_
    refine fx_goto 139 dX3_init_167 (by decide) ?_
    simp only [nI_add]
    refine fx_to (ih (n' - 1) (by omega) h1 (r + 1) _ (by omega) F1 (fun j hj => ?_) (kp.put hk o1 (Or.inr hn.2.1))) ⟨rfl, rfl, rfl, rfl, trivial⟩
    by_cases e : j = r
    · subst e
      rw [pk_us]
    · rw [pk_un e]
      exact hs j (by omega)
theorem l_fi_B {g : fx_G} {h0 : fx_H} {a dd p n len nw pw ps pl pi cu su : Nat} {B : Nat → Nat} (V : ml_v (by_ B len) nw) (hlen : len = 4 * nw) (N : fap pw ps pl pi) (hn : h0 pw = none ∧ h0 ps = none ∧ h0 pl = none ∧ h0 pi = none) (fw fs fz : Nat → Int32) (h6 : ∀ k, k < nw → fw k = nI (ml_W (by_ B len) k)) : ∀ (n' : Nat) (h : fx_H) (r : Nat) (fl : Nat → Int32), 2 ≤ r → r + n' = 10 → fi h a pw ps pl pi nw fw fs fl fz → dr h dd p n len B → (∀ j, j < r → fl j = nI (ml_rl (by_ B len) j)) → kp (fun x => x = a) h0 h → fx_Y g mX3_init 3 63 (fun r h' => r = none ∧ ∃ pw ps pl pi fw fs fl fz, fi h' a pw ps pl pi nw fw fs fl fz ∧ (∀ k, k < nw → fw k = nI (ml_W (by_ B len) k)) ∧ (∀ r, r < 10 → fs r = nI (ml_st (by_ B len) r) ∧ fl r = nI (ml_rl (by_ B len) r)) ∧ (∀ c, c < 256 → fz c = nI (ml_i (by_ B len) c)) ∧ h0 pw = none ∧ h0 ps = none ∧ h0 pl = none ∧ h0 pi = none ∧ kp (fun x => x = a) h0 h') (fun _ _ => False) 108 [(0, .ref a), (1, .ref dd), (2, .int (nI (ml_H (by_ B len) 2))), (3, .int (nI r))] [] h cu su := by
  intro n'
  induction n' using Nat.strongRecOn with
  | ind n' ih =>
  intro h r fl hr2 hc F HD hl9 hk
  obtain ⟨f1, f2, f3, f4, f5⟩ := id F
  refine fx_iloadn dX3_init_108 rfl ?_
  refine fx_bipush (nI 10) dX3_init_109 (by decide) ?_
  refine fx_icn_ge 133 dX3_init_111 (by decide) (by omega) (by omega) (fun c111 => ?_) (fun c111 => ?_)
  · skip
    refine fx_bipush (nI 6) dX3_init_133 (by decide) ?_
    refine fx_istoren dX3_init_135 (by decide) ?_
    refine fx_iconst (nI 0) dX3_init_136 (by decide) ?_
    refine fx_istore dX3_init_137 (by decide) ?_
    exact fx_to (l_fi_C V hlen N hn fw fl fz h6 (fun j hj => hl9 j (by omega)) 10 h 0 fs rfl F (fun j hj => by omega) hk) ⟨rfl, rfl, rfl, rfl, trivial⟩
  · skip
    refine fx_aloadn dX3_init_114 rfl ?_
    refine fx_get dX3_init_115 ffX3_15 (by assumption) rfl ?_
    refine fx_iloadn dX3_init_118 rfl ?_
    refine fx_aloadn dX3_init_119 rfl ?_
    refine fx_iloadn dX3_init_120 rfl ?_
    refine fx_iconst (nI 2) dX3_init_121 (by decide) ?_
    refine fx_iadd dX3_init_122 ?_
    rw [nI_add]
    have hd1 := HD.1
    refine fx_callVp dX3_init_123 vX0_halfAt kkX3_37 rfl rfl (by assumption) (p_dr_half HD _ (by omega)) rfl (by decide) (by decide) rfl (Nat.le_of_ble_eq_true rfl) ?_
    refine fx_iastV dX3_init_126 (by assumption) (vp_in_nI c111 (by decide)) (fun h1 e1 o1 => ?_)
    rw [nI_clamp (by omega)] at e1
    refine fx_iinc (nI 1) dX3_init_127 rfl (by decide) (by decide) ?_
    refine fx_goto 108 dX3_init_130 (by decide) ?_
    simp only [nI_add]
    refine fx_to (ih (n' - 1) (by omega) h1 (r + 1) _ (by omega) (by omega) (F.setl N e1 o1) (HD.set0 f4 o1) (fun j hj => ?_) (kp.put hk o1 (Or.inr hn.2.2.1))) ⟨rfl, rfl, rfl, rfl, trivial⟩
    by_cases e : j = r
    · subst e
      rw [pk_us]
      unfold ml_rl
      rw [if_neg (by omega), if_neg (by omega)]
    · rw [pk_un e]
      exact hl9 j (by omega)
theorem l_fi_B0 {g : fx_G} {h0 : fx_H} {a dd p n len nw pw ps pl pi cu su : Nat} {B : Nat → Nat} (V : ml_v (by_ B len) nw) (hlen : len = 4 * nw) (N : fap pw ps pl pi) (hn : h0 pw = none ∧ h0 ps = none ∧ h0 pl = none ∧ h0 pi = none) (fw fs fl fz : Nat → Int32) (h6 : ∀ k, k < nw → fw k = nI (ml_W (by_ B len) k)) (h : fx_H) (F : fi h a pw ps pl pi nw fw fs fl fz) (HD : dr h dd p n len B) (hk : kp (fun x => x = a) h0 h) : fx_Y g mX3_init 3 63 (fun r h' => r = none ∧ ∃ pw ps pl pi fw fs fl fz, fi h' a pw ps pl pi nw fw fs fl fz ∧ (∀ k, k < nw → fw k = nI (ml_W (by_ B len) k)) ∧ (∀ r, r < 10 → fs r = nI (ml_st (by_ B len) r) ∧ fl r = nI (ml_rl (by_ B len) r)) ∧ (∀ c, c < 256 → fz c = nI (ml_i (by_ B len) c)) ∧ h0 pw = none ∧ h0 ps = none ∧ h0 pl = none ∧ h0 pi = none ∧ kp (fun x => x = a) h0 h') (fun _ _ => False) 74 [(0, .ref a), (1, .ref dd)] [] h cu su := by
  obtain ⟨f1, f2, f3, f4, f5⟩ := id F
  have hd1 := HD.1
  refine fx_aloadn dX3_init_74 rfl ?_
  refine fx_iconst (nI 2) dX3_init_75 (by decide) ?_
  refine fx_callVp dX3_init_76 vX0_halfAt kkX3_37 rfl rfl (by assumption) (p_dr_half HD 2 (by decide)) rfl (by decide) (by decide) rfl (Nat.le_of_ble_eq_true rfl) ?_
  refine fx_istoren dX3_init_79 (by decide) ?_
  refine fx_aloadn dX3_init_80 rfl ?_
  refine fx_get dX3_init_81 ffX3_15 (by assumption) rfl ?_
  refine fx_iconst (nI 0) dX3_init_84 (by decide) ?_
  refine fx_aloadn dX3_init_85 rfl ?_
  refine fx_iconst (nI 1) dX3_init_86 (by decide) ?_
  refine fx_callVp dX3_init_87 vX0_halfAt kkX3_37 rfl rfl (by assumption) (p_dr_half HD 1 (by decide)) rfl (by decide) (by decide) rfl (Nat.le_of_ble_eq_true rfl) ?_
  refine fx_iastV dX3_init_90 (by assumption) (vp_in_nI (by decide) (by decide)) (fun h1 e1 o1 => ?_)
  rw [nI_clamp (by decide)] at e1
  have F1 := F.setl N e1 o1
  have HD1 := HD.set0 f4 o1
  obtain ⟨g1, g2, g3, g4, g5⟩ := id F1
  have hd2 := HD1.1
  refine fx_aloadn dX3_init_91 rfl ?_
  refine fx_get dX3_init_92 ffX3_15 (by assumption) rfl ?_
  refine fx_iconst (nI 1) dX3_init_95 (by decide) ?_
  refine fx_aloadn dX3_init_96 rfl ?_
  refine fx_iconst (nI 3) dX3_init_97 (by decide) ?_
  refine fx_callVp dX3_init_98 vX0_halfAt kkX3_37 rfl rfl (by assumption) (p_dr_half HD1 3 (by decide)) rfl (by decide) (by decide) rfl (Nat.le_of_ble_eq_true rfl) ?_
  refine fx_iloadn dX3_init_101 rfl ?_
  refine fx_isub dX3_init_102 ?_
  refine fx_iconst (nI 1) dX3_init_103 (by decide) ?_
  refine fx_iadd dX3_init_104 ?_
  rw [nI_chars V.w.2.2]
  refine fx_iastV dX3_init_105 (by assumption) (vp_in_nI (by decide) (by decide)) (fun h2 e2 o2 => ?_)
  rw [nI_clamp (by decide)] at e2
  have F2 := F1.setl N e2 o2
  have HD2 := HD1.set0 g4 o2
  refine fx_iconst (nI 2) dX3_init_106 (by decide) ?_
  refine fx_istoren dX3_init_107 (by decide) ?_
  refine fx_to (l_fi_B V hlen N hn fw fs fz h6 8 h2 2 _ (by decide) rfl F2 HD2 (fun j hj => ?_) (kp.put (kp.put hk o1 (Or.inr hn.2.2.1)) o2 (Or.inr hn.2.2.1))) ⟨rfl, rfl, rfl, rfl, trivial⟩
  rcases (show j = 0 ∨ j = 1 by omega) with rfl | rfl
  · rw [pk_un (by decide), pk_us]
    rfl
  · rw [pk_us]
    rfl
theorem l_fi_A {g : fx_G} {h0 : fx_H} {a dd p n len nw pw ps pl pi cu su : Nat} {B : Nat → Nat} (V : ml_v (by_ B len) nw) (hlen : len = 4 * nw) (N : fap pw ps pl pi) (hn : h0 pw = none ∧ h0 ps = none ∧ h0 pl = none ∧ h0 pi = none) (fs fl fz : Nat → Int32) : ∀ (n' : Nat) (h : fx_H) (k : Nat) (fw : Nat → Int32), k + n' = nw → fi h a pw ps pl pi nw fw fs fl fz → dr h dd p n len B → (∀ j, j < k → fw j = nI (ml_W (by_ B len) j)) → kp (fun x => x = a) h0 h → fx_Y g mX3_init 3 63 (fun r h' => r = none ∧ ∃ pw ps pl pi fw fs fl fz, fi h' a pw ps pl pi nw fw fs fl fz ∧ (∀ k, k < nw → fw k = nI (ml_W (by_ B len) k)) ∧ (∀ r, r < 10 → fs r = nI (ml_st (by_ B len) r) ∧ fl r = nI (ml_rl (by_ B len) r)) ∧ (∀ c, c < 256 → fz c = nI (ml_i (by_ B len) c)) ∧ h0 pw = none ∧ h0 ps = none ∧ h0 pl = none ∧ h0 pi = none ∧ kp (fun x => x = a) h0 h') (fun _ _ => False) 48 [(0, .ref a), (1, .ref dd), (2, .int (nI k))] [] h cu su := by
  have hnw := V.nw
  intro n'
  induction n' using Nat.strongRecOn with
  | ind n' ih =>
  intro h k fw hc F HD hw hk
  obtain ⟨f1, f2, f3, f4, f5⟩ := id F
  refine fx_iloadn dX3_init_48 rfl ?_
  refine fx_aloadn dX3_init_49 rfl ?_
  refine fx_get dX3_init_50 ffX3_30 (by assumption) rfl ?_
  refine fx_alenI dX3_init_53 (by assumption) (by decide) ?_
  refine fx_icn_ge 74 dX3_init_54 (by decide) (by omega) (by omega) (fun c54 => ?_) (fun c54 => ?_)
  · skip
    exact fx_to (l_fi_B0 V hlen N hn fw fs fl fz (fun j hj => hw j (by omega)) h F HD hk) ⟨rfl, rfl, trivial⟩
  · skip
    refine fx_aloadn dX3_init_57 rfl ?_
    refine fx_get dX3_init_58 ffX3_30 (by assumption) rfl ?_
    refine fx_iloadn dX3_init_61 rfl ?_
    refine fx_aloadn dX3_init_62 rfl ?_
    refine fx_iloadn dX3_init_63 rfl ?_
    have hd1 := HD.1
    refine fx_callVp dX3_init_64 vX0_wordAt kkX3_33 rfl rfl (by assumption) (p_dr_word HD k (by omega)) rfl (by decide) (by decide) rfl (Nat.le_of_ble_eq_true rfl) ?_
    refine fx_iastV dX3_init_67 (by assumption) (vp_in_nI c54 (by omega)) (fun h1 e1 o1 => ?_)
    rw [nI_clamp (by omega)] at e1
    refine fx_iinc (nI 1) dX3_init_68 rfl (by decide) (by decide) ?_
    refine fx_goto 48 dX3_init_71 (by decide) ?_
    simp only [nI_add]
    refine fx_to (ih (n' - 1) (by omega) h1 (k + 1) _ (by omega) (F.setw N e1 o1) (HD.set0 f2 o1) (fun j hj => ?_) (kp.put hk o1 (Or.inr hn.1))) ⟨rfl, rfl, rfl, trivial⟩
    by_cases e : j = k
    · subst e
      rw [pk_us]
    · rw [pk_un e]
      exact hw j (by omega)
theorem fresh_of {S : Nat → Prop} {h h' : fx_H} {q : Nat} (k : kp S h h') (hq : h' q = none) (hS : ¬ S q) : h q = none := by
  by_cases e : h q = none
  · exact e
  · rw [k q e hS] at hq
    exact hq
theorem c_fo_init {g : fx_G} {h : fx_H} {a dd p n len nw : Nat} {B : Nat → Nat} {v0 v1 v2 v3 v4 : Value} (ha : h a = some (.inr (2, [v0, v1, v2, v3, v4]))) (HD : dr h dd p n len B) (V : ml_v (by_ B len) nw) (hlen : len = 4 * nw) : fx_Met g mX3_init 3 63 [.ref a, .ref dd] h 4 (nw + 276) (fun r h' => r = none ∧ ∃ pw ps pl pi fw fs fl fz, fi h' a pw ps pl pi nw fw fs fl fz ∧ (∀ k, k < nw → fw k = nI (ml_W (by_ B len) k)) ∧ (∀ r, r < 10 → fs r = nI (ml_st (by_ B len) r) ∧ fl r = nI (ml_rl (by_ B len) r)) ∧ (∀ c, c < 256 → fz c = nI (ml_i (by_ B len) c)) ∧ h pw = none ∧ h ps = none ∧ h pl = none ∧ h pi = none ∧ kp (fun x => x = a) h h') := by
  have hnw := V.nw
  have hda : dd ≠ a := ne_oo HD.1 ha (by decide)
  have hpa : p ≠ a := by
    obtain ⟨y, hy, -⟩ := HD.np
    exact Ne.symm (ne_oa ha hy)
  refine fx_Met.of rfl (Nat.le_of_ble_eq_true rfl) ?_
  refine fx_aloadn dX3_init_0 rfl ?_
  refine fx_objInit dX3_init_1 ooX3 oo_i oo_c (by decide) (by decide) (Nat.le_of_ble_eq_true rfl) ?_
  refine fx_aloadn dX3_init_4 rfl ?_
  refine fx_bipush (nI 10) dX3_init_5 (by decide) ?_
  refine fx_newIV 0 10 (by decide) rfl dX3_init_7 ac_int (by decide) (by decide) (by decide) (by omega) (by omega) (fun ps h1 hps e1 o1 => ?_)
  have ha1 := (o1 a (ne_new ha hps)).trans ha
  refine fx_putFV dX3_init_9 ffX3_11 rfl rfl ha1 rfl rfl (Nat.le_of_ble_eq_true rfl) (fun h2 e2 o2 => ?_)
  have es2 := (o2 ps (Ne.symm (ne_new ha hps))).trans e1
  refine fx_aloadn dX3_init_12 rfl ?_
  refine fx_bipush (nI 10) dX3_init_13 (by decide) ?_
  refine fx_newIV 0 10 (by decide) rfl dX3_init_15 ac_int (by decide) (by decide) (by decide) (by omega) (by omega) (fun pl h3 hpl e3 o3 => ?_)
  have ea3 := (o3 a (ne_new e2 hpl)).trans e2
  have es3 := (o3 ps (ne_new es2 hpl)).trans es2
  have np_l : h pl = none := fresh_of (kp.put (kp.put (kp.rf (S := fun x => x = a)) o1 (Or.inr hps)) o2 (Or.inl rfl)) hpl (fun e => by subst e; rw [e2] at hpl; cases hpl)
  refine fx_putFV dX3_init_17 ffX3_15 rfl rfl ea3 rfl rfl (Nat.le_of_ble_eq_true rfl) (fun h4 e4 o4 => ?_)
  have es4 := (o4 ps (Ne.symm (ne_oa ea3 es3))).trans es3
  have el4 := (o4 pl (Ne.symm (ne_oa ea3 e3))).trans e3
  refine fx_aloadn dX3_init_20 rfl ?_
  refine fx_sipush (nI 256) dX3_init_21 (by decide) ?_
  refine fx_newIV 0 256 (by decide) rfl dX3_init_24 ac_int (by decide) (by decide) (by decide) (by omega) (by omega) (fun pi h5 hpi e5 o5 => ?_)
  have ea5 := (o5 a (ne_new e4 hpi)).trans e4
  have es5 := (o5 ps (ne_new es4 hpi)).trans es4
  have el5 := (o5 pl (ne_new el4 hpi)).trans el4
  have np_i : h pi = none := fresh_of (kp.put (kp.put (kp.put (kp.put (kp.rf (S := fun x => x = a)) o1 (Or.inr hps)) o2 (Or.inl rfl)) o3 (Or.inr np_l)) o4 (Or.inl rfl)) hpi (fun e => by subst e; rw [e4] at hpi; cases hpi)
  refine fx_putFV dX3_init_26 ffX3_18 rfl rfl ea5 rfl rfl (Nat.le_of_ble_eq_true rfl) (fun h6 e6 o6 => ?_)
  have es6 := (o6 ps (Ne.symm (ne_oa ea5 es5))).trans es5
  have el6 := (o6 pl (Ne.symm (ne_oa ea5 el5))).trans el5
  have ei6 := (o6 pi (Ne.symm (ne_oa ea5 e5))).trans e5
  refine fx_aloadn dX3_init_29 rfl ?_
  refine fx_iconst (nI 0) dX3_init_30 (by decide) ?_
  refine fx_putV dX3_init_31 ffX3_21 e6 rfl rfl (Nat.le_of_ble_eq_true rfl) (fun h7 e7 o7 => ?_)
  have es7 := (o7 ps (Ne.symm (ne_oa e6 es6))).trans es6
  have el7 := (o7 pl (Ne.symm (ne_oa e6 el6))).trans el6
  have ei7 := (o7 pi (Ne.symm (ne_oa e6 ei6))).trans ei6
  have k7 : kp (fun x => x = a) h h7 := kp.put (kp.put (kp.put (kp.put (kp.put (kp.put (kp.put kp.rf o1 (Or.inr hps)) o2 (Or.inl rfl)) o3 (Or.inr np_l)) o4 (Or.inl rfl)) o5 (Or.inr np_i)) o6 (Or.inl rfl)) o7 (Or.inl rfl)
  have HD7 : dr h7 dd p n len B := HD.kept (k7 dd (by rw [HD.1]; exact fun e => by cases e) hda) (k7 p (by obtain ⟨y, hy, -⟩ := HD.np; rw [hy]; exact fun e => by cases e) hpa)
  have hd7 := HD7.1
  refine fx_aloadn dX3_init_34 rfl ?_
  refine fx_aloadn dX3_init_35 rfl ?_
  refine fx_callVp dX3_init_36 vX0_size kkX3_25 rfl rfl (by assumption) (p_dr_size HD7) rfl (by decide) (by decide) rfl (Nat.le_of_ble_eq_true rfl) ?_
  refine fx_iconst (nI 4) dX3_init_39 (by decide) ?_
  refine fx_idiv dX3_init_40 (by decide) ?_
  rw [pk_div (by omega) (by decide) (by decide), show len / 4 = nw by omega]
  refine fx_newIV 0 nw (by decide) rfl dX3_init_41 ac_int (nI_pos (by omega)) (nI_clamp (by omega)) (by omega) (by omega) (by omega) (fun pw h8 hpw e8 o8 => ?_)
  have ea8 := (o8 a (ne_new e7 hpw)).trans e7
  have es8 := (o8 ps (ne_new es7 hpw)).trans es7
  have el8 := (o8 pl (ne_new el7 hpw)).trans el7
  have ei8 := (o8 pi (ne_new ei7 hpw)).trans ei7
  have np_w : h pw = none := fresh_of k7 hpw (fun e => by subst e; rw [e7] at hpw; cases hpw)
  refine fx_putFV dX3_init_43 ffX3_30 rfl rfl ea8 rfl rfl (Nat.le_of_ble_eq_true rfl) (fun h9 e9 o9 => ?_)
  have es9 := (o9 ps (Ne.symm (ne_oa ea8 es8))).trans es8
  have el9 := (o9 pl (Ne.symm (ne_oa ea8 el8))).trans el8
  have ei9 := (o9 pi (Ne.symm (ne_oa ea8 ei8))).trans ei8
  have ew9 := (o9 pw (Ne.symm (ne_oa ea8 e8))).trans e8
  refine fx_iconst (nI 0) dX3_init_46 (by decide) ?_
  refine fx_istoren dX3_init_47 (by decide) ?_
  exact fx_to (l_fi_A (h0 := h) V hlen ⟨Ne.symm (ne_new es7 hpw), Ne.symm (ne_new el7 hpw), Ne.symm (ne_new ei7 hpw), ne_new es2 hpl, ne_new es4 hpi, ne_new el4 hpi⟩ ⟨np_w, hps, np_l, np_i⟩ _ _ _ nw h9 0 _ (by omega) ⟨e9, ew9, es9, el9, ei9⟩ (HD7.kept ((o9 dd hda).trans (o8 dd (ne_new hd7 hpw))) ((o9 p hpa).trans (o8 p (by obtain ⟨y, hy, -⟩ := HD7.np; exact ne_new hy hpw)))) (fun j hj => by omega) (kp.put (kp.put k7 o8 (Or.inr np_w)) o9 (Or.inl rfl))) ⟨rfl, rfl, rfl, trivial⟩
end
