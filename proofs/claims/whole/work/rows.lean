section
-- ===== PART A: goes FIRST, ahead of the names: the tables' words, and 'selects' of the private methods out of them =====
/-- a private method of a class that the tables say can be made, by its rows of tables_1 -/
def lw_okq (q : MethodName × Nat) : Prop := (q.1.cls ≠ "java/lang/invoke/MethodHandle" ∧ q.1.cls ≠ "java/lang/invoke/VarHandle") ∧ Cond.instantiable q.1.cls q.2 ∈ tables_1 ∧ Cond.privateMethod q.1 ∈ tables_1 ∧ Cond.instanceMethod q.1 ∈ tables_1
theorem lw_p0 : lw_okq (⟨"java/lang/Throwable", "fillInStackTrace", "(I)Ljava/lang/Throwable;"⟩, 6) := ⟨⟨by decide +kernel, by decide +kernel⟩, List.mem_of_getElem? (i := 158) (by decide +kernel), List.mem_of_getElem? (i := 156) (by decide +kernel), List.mem_of_getElem? (i := 157) (by decide +kernel)⟩
theorem lw_p1 : lw_okq (⟨"QuoteGraph", "checkRoom", "()V"⟩, 6) := ⟨⟨by decide +kernel, by decide +kernel⟩, List.mem_of_getElem? (i := 23) (by decide +kernel), List.mem_of_getElem? (i := 188) (by decide +kernel), List.mem_of_getElem? (i := 189) (by decide +kernel)⟩
theorem lw_p2 : lw_okq (⟨"QuoteGraph", "add", "(LQuoteGraph$Node;)I"⟩, 6) := ⟨⟨by decide +kernel, by decide +kernel⟩, List.mem_of_getElem? (i := 23) (by decide +kernel), List.mem_of_getElem? (i := 273) (by decide +kernel), List.mem_of_getElem? (i := 274) (by decide +kernel)⟩
theorem lw_p3 : lw_okq (⟨"QuoteGraph", "nodeAt", "(I)LQuoteGraph$Node;"⟩, 6) := ⟨⟨by decide +kernel, by decide +kernel⟩, List.mem_of_getElem? (i := 23) (by decide +kernel), List.mem_of_getElem? (i := 284) (by decide +kernel), List.mem_of_getElem? (i := 285) (by decide +kernel)⟩
theorem lw_p4 : lw_okq (⟨"QuoteGraph", "isThere", "(I)Z"⟩, 6) := ⟨⟨by decide +kernel, by decide +kernel⟩, List.mem_of_getElem? (i := 23) (by decide +kernel), List.mem_of_getElem? (i := 288) (by decide +kernel), List.mem_of_getElem? (i := 289) (by decide +kernel)⟩
theorem lw_p5 : lw_okq (⟨"QuoteGraph", "optionAt", "(I)LQuoteGraph$Option;"⟩, 6) := ⟨⟨by decide +kernel, by decide +kernel⟩, List.mem_of_getElem? (i := 23) (by decide +kernel), List.mem_of_getElem? (i := 425) (by decide +kernel), List.mem_of_getElem? (i := 426) (by decide +kernel)⟩
theorem lw_p6 : lw_okq (⟨"QuoteGraph", "extraPartAt", "(ILQuoteGraph$Option;)LQuoteGraph$Node;"⟩, 6) := ⟨⟨by decide +kernel, by decide +kernel⟩, List.mem_of_getElem? (i := 23) (by decide +kernel), List.mem_of_getElem? (i := 430) (by decide +kernel), List.mem_of_getElem? (i := 431) (by decide +kernel)⟩
theorem lw_p7 : lw_okq (⟨"QuoteGraph", "hangsOn", "(LQuoteGraph$Node;LQuoteGraph$Node;)Z"⟩, 6) := ⟨⟨by decide +kernel, by decide +kernel⟩, List.mem_of_getElem? (i := 23) (by decide +kernel), List.mem_of_getElem? (i := 434) (by decide +kernel), List.mem_of_getElem? (i := 435) (by decide +kernel)⟩
theorem lw_p8 : lw_okq (⟨"QuoteGraph", "bitsUsedBy", "(LQuoteGraph$Node;)I"⟩, 6) := ⟨⟨by decide +kernel, by decide +kernel⟩, List.mem_of_getElem? (i := 23) (by decide +kernel), List.mem_of_getElem? (i := 438) (by decide +kernel), List.mem_of_getElem? (i := 439) (by decide +kernel)⟩
theorem lw_p9 : lw_okq (⟨"QuoteGraph", "tell", "(LQuoteGraph$Node;)V"⟩, 6) := ⟨⟨by decide +kernel, by decide +kernel⟩, List.mem_of_getElem? (i := 23) (by decide +kernel), List.mem_of_getElem? (i := 468) (by decide +kernel), List.mem_of_getElem? (i := 469) (by decide +kernel)⟩
theorem lw_p10 : lw_okq (⟨"QuoteGraph", "tellUsersOf", "(LQuoteGraph$Node;)V"⟩, 6) := ⟨⟨by decide +kernel, by decide +kernel⟩, List.mem_of_getElem? (i := 23) (by decide +kernel), List.mem_of_getElem? (i := 472) (by decide +kernel), List.mem_of_getElem? (i := 473) (by decide +kernel)⟩
theorem lw_p11 : lw_okq (⟨"QuoteGraph", "quoteAt", "(I)LQuoteGraph$Quote;"⟩, 6) := ⟨⟨by decide +kernel, by decide +kernel⟩, List.mem_of_getElem? (i := 23) (by decide +kernel), List.mem_of_getElem? (i := 490) (by decide +kernel), List.mem_of_getElem? (i := 491) (by decide +kernel)⟩
theorem lw_p12 : lw_okq (⟨"QuoteGraph", "tryToAsk", "(LQuoteGraph$Node;)LQuoteGraph$Trouble;"⟩, 6) := ⟨⟨by decide +kernel, by decide +kernel⟩, List.mem_of_getElem? (i := 23) (by decide +kernel), List.mem_of_getElem? (i := 504) (by decide +kernel), List.mem_of_getElem? (i := 505) (by decide +kernel)⟩
theorem lw_p13 : lw_okq (⟨"QuoteGraph", "ask", "(LQuoteGraph$Node;)V"⟩, 6) := ⟨⟨by decide +kernel, by decide +kernel⟩, List.mem_of_getElem? (i := 23) (by decide +kernel), List.mem_of_getElem? (i := 510) (by decide +kernel), List.mem_of_getElem? (i := 511) (by decide +kernel)⟩
theorem lw_p14 : lw_okq (⟨"QuoteGraph$Option", "discount", "()J"⟩, 21) := ⟨⟨by decide +kernel, by decide +kernel⟩, List.mem_of_getElem? (i := 353) (by decide +kernel), List.mem_of_getElem? (i := 587) (by decide +kernel), List.mem_of_getElem? (i := 588) (by decide +kernel)⟩
theorem lw_p15 : lw_okq (⟨"QuoteGraph$Lattice", "stepBack", "(LQuoteGraph$Option;JI)V"⟩, 3) := ⟨⟨by decide +kernel, by decide +kernel⟩, List.mem_of_getElem? (i := 35) (by decide +kernel), List.mem_of_getElem? (i := 617) (by decide +kernel), List.mem_of_getElem? (i := 618) (by decide +kernel)⟩
def lw_privs_1 : List (MethodName × Nat) := [(⟨"java/lang/Throwable", "fillInStackTrace", "(I)Ljava/lang/Throwable;"⟩, 6), (⟨"QuoteGraph", "checkRoom", "()V"⟩, 6), (⟨"QuoteGraph", "add", "(LQuoteGraph$Node;)I"⟩, 6), (⟨"QuoteGraph", "nodeAt", "(I)LQuoteGraph$Node;"⟩, 6), (⟨"QuoteGraph", "isThere", "(I)Z"⟩, 6), (⟨"QuoteGraph", "optionAt", "(I)LQuoteGraph$Option;"⟩, 6), (⟨"QuoteGraph", "extraPartAt", "(ILQuoteGraph$Option;)LQuoteGraph$Node;"⟩, 6), (⟨"QuoteGraph", "hangsOn", "(LQuoteGraph$Node;LQuoteGraph$Node;)Z"⟩, 6), (⟨"QuoteGraph", "bitsUsedBy", "(LQuoteGraph$Node;)I"⟩, 6), (⟨"QuoteGraph", "tell", "(LQuoteGraph$Node;)V"⟩, 6), (⟨"QuoteGraph", "tellUsersOf", "(LQuoteGraph$Node;)V"⟩, 6), (⟨"QuoteGraph", "quoteAt", "(I)LQuoteGraph$Quote;"⟩, 6), (⟨"QuoteGraph", "tryToAsk", "(LQuoteGraph$Node;)LQuoteGraph$Trouble;"⟩, 6), (⟨"QuoteGraph", "ask", "(LQuoteGraph$Node;)V"⟩, 6), (⟨"QuoteGraph$Option", "discount", "()J"⟩, 21), (⟨"QuoteGraph$Lattice", "stepBack", "(LQuoteGraph$Option;JI)V"⟩, 3)]
theorem lw_r1 : ∀ q ∈ lw_privs_1, lw_okq q := List.forall_mem_cons.mpr ⟨lw_p0, List.forall_mem_cons.mpr ⟨lw_p1, List.forall_mem_cons.mpr ⟨lw_p2, List.forall_mem_cons.mpr ⟨lw_p3, List.forall_mem_cons.mpr ⟨lw_p4, List.forall_mem_cons.mpr ⟨lw_p5, List.forall_mem_cons.mpr ⟨lw_p6, List.forall_mem_cons.mpr ⟨lw_p7, List.forall_mem_cons.mpr ⟨lw_p8, List.forall_mem_cons.mpr ⟨lw_p9, List.forall_mem_cons.mpr ⟨lw_p10, List.forall_mem_cons.mpr ⟨lw_p11, List.forall_mem_cons.mpr ⟨lw_p12, List.forall_mem_cons.mpr ⟨lw_p13, List.forall_mem_cons.mpr ⟨lw_p14, List.forall_mem_cons.mpr ⟨lw_p15, fun _ h => absurd h List.not_mem_nil⟩⟩⟩⟩⟩⟩⟩⟩⟩⟩⟩⟩⟩⟩⟩⟩
theorem lw_p16 : lw_okq (⟨"QuoteGraph$Net", "stepBack", "(LQuoteGraph$Option;JI)V"⟩, 3) := ⟨⟨by decide +kernel, by decide +kernel⟩, List.mem_of_getElem? (i := 69) (by decide +kernel), List.mem_of_getElem? (i := 631) (by decide +kernel), List.mem_of_getElem? (i := 632) (by decide +kernel)⟩
theorem lw_p17 : lw_okq (⟨"QuoteGraph$Paths", "endOfPath", "(LQuoteGraph$Option;)J"⟩, 3) := ⟨⟨by decide +kernel, by decide +kernel⟩, List.mem_of_getElem? (i := 57) (by decide +kernel), List.mem_of_getElem? (i := 643) (by decide +kernel), List.mem_of_getElem? (i := 644) (by decide +kernel)⟩
theorem lw_p18 : lw_okq (⟨"QuoteGraph$Paths", "drawsUp", "(I)Z"⟩, 3) := ⟨⟨by decide +kernel, by decide +kernel⟩, List.mem_of_getElem? (i := 57) (by decide +kernel), List.mem_of_getElem? (i := 648) (by decide +kernel), List.mem_of_getElem? (i := 649) (by decide +kernel)⟩
theorem lw_p19 : lw_okq (⟨"QuoteGraph", "raise", "(LQuoteGraph$Trouble;)V"⟩, 6) := ⟨⟨by decide +kernel, by decide +kernel⟩, List.mem_of_getElem? (i := 23) (by decide +kernel), List.mem_of_getElem? (i := 666) (by decide +kernel), List.mem_of_getElem? (i := 667) (by decide +kernel)⟩
theorem lw_p20 : lw_okq (⟨"QuoteGraph", "rememberAll", "()V"⟩, 6) := ⟨⟨by decide +kernel, by decide +kernel⟩, List.mem_of_getElem? (i := 23) (by decide +kernel), List.mem_of_getElem? (i := 693) (by decide +kernel), List.mem_of_getElem? (i := 694) (by decide +kernel)⟩
theorem lw_p21 : lw_okq (⟨"QuoteGraph", "makeUsersStale", "(LQuoteGraph$Node;)V"⟩, 6) := ⟨⟨by decide +kernel, by decide +kernel⟩, List.mem_of_getElem? (i := 23) (by decide +kernel), List.mem_of_getElem? (i := 705) (by decide +kernel), List.mem_of_getElem? (i := 706) (by decide +kernel)⟩
theorem lw_p22 : lw_okq (⟨"QuoteGraph", "restoreAll", "()V"⟩, 6) := ⟨⟨by decide +kernel, by decide +kernel⟩, List.mem_of_getElem? (i := 23) (by decide +kernel), List.mem_of_getElem? (i := 709) (by decide +kernel), List.mem_of_getElem? (i := 710) (by decide +kernel)⟩
theorem lw_p23 : lw_okq (⟨"QuoteGraphModel", "far", "(DD)Z"⟩, 32) := ⟨⟨by decide +kernel, by decide +kernel⟩, List.mem_of_getElem? (i := 751) (by decide +kernel), List.mem_of_getElem? (i := 865) (by decide +kernel), List.mem_of_getElem? (i := 866) (by decide +kernel)⟩
theorem lw_p24 : lw_okq (⟨"QuoteGraphModel", "create", "(III)I"⟩, 32) := ⟨⟨by decide +kernel, by decide +kernel⟩, List.mem_of_getElem? (i := 751) (by decide +kernel), List.mem_of_getElem? (i := 870) (by decide +kernel), List.mem_of_getElem? (i := 871) (by decide +kernel)⟩
theorem lw_p25 : lw_okq (⟨"QuoteGraphModel", "no", "(I)Z"⟩, 32) := ⟨⟨by decide +kernel, by decide +kernel⟩, List.mem_of_getElem? (i := 751) (by decide +kernel), List.mem_of_getElem? (i := 879) (by decide +kernel), List.mem_of_getElem? (i := 880) (by decide +kernel)⟩
theorem lw_p26 : lw_okq (⟨"QuoteGraphModel", "noOption", "(I)Z"⟩, 32) := ⟨⟨by decide +kernel, by decide +kernel⟩, List.mem_of_getElem? (i := 751) (by decide +kernel), List.mem_of_getElem? (i := 896) (by decide +kernel), List.mem_of_getElem? (i := 897) (by decide +kernel)⟩
theorem lw_p27 : lw_okq (⟨"QuoteGraphModel", "badPart", "(II)Z"⟩, 32) := ⟨⟨by decide +kernel, by decide +kernel⟩, List.mem_of_getElem? (i := 751) (by decide +kernel), List.mem_of_getElem? (i := 900) (by decide +kernel), List.mem_of_getElem? (i := 901) (by decide +kernel)⟩
theorem lw_p28 : lw_okq (⟨"QuoteGraphModel", "hangs", "(II)Z"⟩, 32) := ⟨⟨by decide +kernel, by decide +kernel⟩, List.mem_of_getElem? (i := 751) (by decide +kernel), List.mem_of_getElem? (i := 904) (by decide +kernel), List.mem_of_getElem? (i := 905) (by decide +kernel)⟩
theorem lw_p29 : lw_okq (⟨"QuoteGraphModel", "tell", "(I)V"⟩, 32) := ⟨⟨by decide +kernel, by decide +kernel⟩, List.mem_of_getElem? (i := 751) (by decide +kernel), List.mem_of_getElem? (i := 908) (by decide +kernel), List.mem_of_getElem? (i := 909) (by decide +kernel)⟩
theorem lw_p30 : lw_okq (⟨"QuoteGraphModel", "users", "(II)I"⟩, 32) := ⟨⟨by decide +kernel, by decide +kernel⟩, List.mem_of_getElem? (i := 751) (by decide +kernel), List.mem_of_getElem? (i := 912) (by decide +kernel), List.mem_of_getElem? (i := 913) (by decide +kernel)⟩
theorem lw_p31 : lw_okq (⟨"QuoteGraphModel", "ask", "(I)Z"⟩, 32) := ⟨⟨by decide +kernel, by decide +kernel⟩, List.mem_of_getElem? (i := 751) (by decide +kernel), List.mem_of_getElem? (i := 928) (by decide +kernel), List.mem_of_getElem? (i := 929) (by decide +kernel)⟩
def lw_privs_2 : List (MethodName × Nat) := [(⟨"QuoteGraph$Net", "stepBack", "(LQuoteGraph$Option;JI)V"⟩, 3), (⟨"QuoteGraph$Paths", "endOfPath", "(LQuoteGraph$Option;)J"⟩, 3), (⟨"QuoteGraph$Paths", "drawsUp", "(I)Z"⟩, 3), (⟨"QuoteGraph", "raise", "(LQuoteGraph$Trouble;)V"⟩, 6), (⟨"QuoteGraph", "rememberAll", "()V"⟩, 6), (⟨"QuoteGraph", "makeUsersStale", "(LQuoteGraph$Node;)V"⟩, 6), (⟨"QuoteGraph", "restoreAll", "()V"⟩, 6), (⟨"QuoteGraphModel", "far", "(DD)Z"⟩, 32), (⟨"QuoteGraphModel", "create", "(III)I"⟩, 32), (⟨"QuoteGraphModel", "no", "(I)Z"⟩, 32), (⟨"QuoteGraphModel", "noOption", "(I)Z"⟩, 32), (⟨"QuoteGraphModel", "badPart", "(II)Z"⟩, 32), (⟨"QuoteGraphModel", "hangs", "(II)Z"⟩, 32), (⟨"QuoteGraphModel", "tell", "(I)V"⟩, 32), (⟨"QuoteGraphModel", "users", "(II)I"⟩, 32), (⟨"QuoteGraphModel", "ask", "(I)Z"⟩, 32)]
theorem lw_r2 : ∀ q ∈ lw_privs_2, lw_okq q := List.forall_mem_cons.mpr ⟨lw_p16, List.forall_mem_cons.mpr ⟨lw_p17, List.forall_mem_cons.mpr ⟨lw_p18, List.forall_mem_cons.mpr ⟨lw_p19, List.forall_mem_cons.mpr ⟨lw_p20, List.forall_mem_cons.mpr ⟨lw_p21, List.forall_mem_cons.mpr ⟨lw_p22, List.forall_mem_cons.mpr ⟨lw_p23, List.forall_mem_cons.mpr ⟨lw_p24, List.forall_mem_cons.mpr ⟨lw_p25, List.forall_mem_cons.mpr ⟨lw_p26, List.forall_mem_cons.mpr ⟨lw_p27, List.forall_mem_cons.mpr ⟨lw_p28, List.forall_mem_cons.mpr ⟨lw_p29, List.forall_mem_cons.mpr ⟨lw_p30, List.forall_mem_cons.mpr ⟨lw_p31, fun _ h => absurd h List.not_mem_nil⟩⟩⟩⟩⟩⟩⟩⟩⟩⟩⟩⟩⟩⟩⟩⟩
theorem lw_p32 : lw_okq (⟨"QuoteGraphModel", "result", "(I)J"⟩, 32) := ⟨⟨by decide +kernel, by decide +kernel⟩, List.mem_of_getElem? (i := 751) (by decide +kernel), List.mem_of_getElem? (i := 932) (by decide +kernel), List.mem_of_getElem? (i := 933) (by decide +kernel)⟩
theorem lw_p33 : lw_okq (⟨"QuoteGraphModel", "floored", "(JJ)J"⟩, 32) := ⟨⟨by decide +kernel, by decide +kernel⟩, List.mem_of_getElem? (i := 751) (by decide +kernel), List.mem_of_getElem? (i := 938) (by decide +kernel), List.mem_of_getElem? (i := 939) (by decide +kernel)⟩
theorem lw_p34 : lw_okq (⟨"QuoteGraphModel", "valueOfOption", "(I)J"⟩, 32) := ⟨⟨by decide +kernel, by decide +kernel⟩, List.mem_of_getElem? (i := 751) (by decide +kernel), List.mem_of_getElem? (i := 942) (by decide +kernel), List.mem_of_getElem? (i := 943) (by decide +kernel)⟩
theorem lw_p35 : lw_okq (⟨"QuoteGraphModel", "lattice", "()J"⟩, 32) := ⟨⟨by decide +kernel, by decide +kernel⟩, List.mem_of_getElem? (i := 751) (by decide +kernel), List.mem_of_getElem? (i := 947) (by decide +kernel), List.mem_of_getElem? (i := 948) (by decide +kernel)⟩
theorem lw_p36 : lw_okq (⟨"QuoteGraphModel", "payoff", "(J)J"⟩, 32) := ⟨⟨by decide +kernel, by decide +kernel⟩, List.mem_of_getElem? (i := 751) (by decide +kernel), List.mem_of_getElem? (i := 951) (by decide +kernel), List.mem_of_getElem? (i := 952) (by decide +kernel)⟩
theorem lw_p37 : lw_okq (⟨"QuoteGraphModel", "earlier", "(JJ)J"⟩, 32) := ⟨⟨by decide +kernel, by decide +kernel⟩, List.mem_of_getElem? (i := 751) (by decide +kernel), List.mem_of_getElem? (i := 957) (by decide +kernel), List.mem_of_getElem? (i := 958) (by decide +kernel)⟩
theorem lw_p38 : lw_okq (⟨"QuoteGraphModel", "bounded", "(J)J"⟩, 32) := ⟨⟨by decide +kernel, by decide +kernel⟩, List.mem_of_getElem? (i := 751) (by decide +kernel), List.mem_of_getElem? (i := 963) (by decide +kernel), List.mem_of_getElem? (i := 964) (by decide +kernel)⟩
theorem lw_p39 : lw_okq (⟨"QuoteGraphModel", "paths", "()J"⟩, 32) := ⟨⟨by decide +kernel, by decide +kernel⟩, List.mem_of_getElem? (i := 751) (by decide +kernel), List.mem_of_getElem? (i := 969) (by decide +kernel), List.mem_of_getElem? (i := 970) (by decide +kernel)⟩
theorem lw_p40 : lw_okq (⟨"QuoteGraphModel", "net", "()J"⟩, 32) := ⟨⟨by decide +kernel, by decide +kernel⟩, List.mem_of_getElem? (i := 751) (by decide +kernel), List.mem_of_getElem? (i := 979) (by decide +kernel), List.mem_of_getElem? (i := 980) (by decide +kernel)⟩
def lw_privs_3 : List (MethodName × Nat) := [(⟨"QuoteGraphModel", "result", "(I)J"⟩, 32), (⟨"QuoteGraphModel", "floored", "(JJ)J"⟩, 32), (⟨"QuoteGraphModel", "valueOfOption", "(I)J"⟩, 32), (⟨"QuoteGraphModel", "lattice", "()J"⟩, 32), (⟨"QuoteGraphModel", "payoff", "(J)J"⟩, 32), (⟨"QuoteGraphModel", "earlier", "(JJ)J"⟩, 32), (⟨"QuoteGraphModel", "bounded", "(J)J"⟩, 32), (⟨"QuoteGraphModel", "paths", "()J"⟩, 32), (⟨"QuoteGraphModel", "net", "()J"⟩, 32)]
theorem lw_r3 : ∀ q ∈ lw_privs_3, lw_okq q := List.forall_mem_cons.mpr ⟨lw_p32, List.forall_mem_cons.mpr ⟨lw_p33, List.forall_mem_cons.mpr ⟨lw_p34, List.forall_mem_cons.mpr ⟨lw_p35, List.forall_mem_cons.mpr ⟨lw_p36, List.forall_mem_cons.mpr ⟨lw_p37, List.forall_mem_cons.mpr ⟨lw_p38, List.forall_mem_cons.mpr ⟨lw_p39, List.forall_mem_cons.mpr ⟨lw_p40, fun _ h => absurd h List.not_mem_nil⟩⟩⟩⟩⟩⟩⟩⟩⟩
def lw_privs : List (MethodName × Nat) := lw_privs_1 ++ (lw_privs_2 ++ (lw_privs_3))
def lw_tbl : List Cond := k2_sels lw_privs ++ tables_1
theorem lw_privs_ok : ∀ q ∈ lw_privs, lw_okq q := by
  show ∀ q ∈ lw_privs_1 ++ (lw_privs_2 ++ (lw_privs_3)), lw_okq q
  exact List.forall_mem_append.mpr ⟨lw_r1, List.forall_mem_append.mpr ⟨lw_r2, lw_r3⟩⟩
end
section
/-! ===== BEGIN words of one list among another's, by their places ===== -/
theorem goodIn_r {big : List Cond} (ws : List Cond) (ps : List Nat) (hp : ws = ps.filterMap (fun i => big[i]?)) (h : ws.all goodWord = true) : GoodIn big ws := by
  intro w hw
  have h1 := List.all_eq_true.mp h w hw
  rw [hp] at hw
  obtain ⟨i, -, hi⟩ := List.mem_filterMap.mp hw
  have hm : w ∈ big := by first | exact List.mem_of_getElem? hi | exact List.getElem?_mem hi
  exact ⟨hm, good_of_word h1⟩
theorem goodIn_app {big a b : List Cond} (ha : GoodIn big a) (hb : GoodIn big b) : GoodIn big (a ++ b) := fun w h => (List.mem_append.mp h).elim (ha w) (hb w)
theorem goodIn_ca {big a b : List Cond} {c : Cond} (ha : GoodIn big (c :: a)) (hb : GoodIn big b) : GoodIn big (c :: (a ++ b)) := fun w h => (List.mem_cons.mp h).elim (fun e => ha w (List.mem_cons.mpr (Or.inl e))) (fun h => (List.mem_append.mp h).elim (fun h => ha w (List.mem_cons.mpr (Or.inr h))) (hb w))
theorem goodIn_sub {big ws : List Cond} (hm : ∀ w ∈ ws, w ∈ big) (h : ws.all goodWord = true) : GoodIn big ws := fun w hw => ⟨hm w hw, good_of_word (List.all_eq_true.mp h w hw)⟩
/-! ===== END ===== -/

/-! ===== BEGIN exceptions that leave a method, and their catching by the caller (launches without stack traces) ===== -/
section VXA
/-! The laws vx_back, vx_callV, vx_callS, vx_callSW, vx_throw0, vx_throwS follow proofs of the library, with one case more: JvmDerived/Free/Laws.lean (Back.of_free), Shelf42/LK1.lean (callV, callS), Shelf/KitTraced.lean (throwNew0V, throwNewS). -/

/-- where a method has thrown q: the class by its name, the cell, what was written, the world -/
def vx_T (XC : String → State → State → Prop) (st : State) (q : Addr) (t : State) (mc ms : Nat) (free : Addr → Prop) : Prop :=
  ∃ (E : String) (ce : Cell) (L : List Loc), XC E st t ∧ t.heap[q]? = some ce ∧ ce.vm = .none ∧ st.vm.findClass E = some ce.cls ∧ st.WarmedH t.vm ∧ st.sameButNew ({ t with vm := st.vm } : State) L mc ms ∧ ∀ z ∈ L, free z.base
def vx_Q (Qc : Array Value → State → Outcome → State → Prop) (XC : String → State → State → Prop) (mc ms : Nat) (free : Addr → Prop) : Array Value → State → Outcome → State → Prop := fun a st o t =>
  (Qc a st o t ∧ ∃ L, FrameEnd st o t L mc ms ∧ ∀ q ∈ L, free q.base) ∨ ∃ q, o = .threw q ∧ vx_T XC st q t mc ms free
/-- a callee that returns or throws -/
def vx_Met (l : Launch) (y : MethodName) (ws : List Cond) (rm : Room) (Pc : Array Value → State → Prop) (Qc : Array Value → State → Outcome → State → Prop) (XC : String → State → State → Prop) (mc ms : Nat) (free : Addr → Prop) : Prop :=
  MetFree l y (headSpec ws rm) Pc (fun _ _ _ _ _ => True) (vx_Q Qc XC mc ms free)
def vx_Post (XC : String → State → State → Prop) (mc ms : Nat) (free : Addr → Prop) : Pt → Array Value → Addr → Pt → Prop := fun A a q B =>
  ∃ (g : JFrame) (mk : MethodId) (t : State) (L : List Loc) (E : String) (ce : Cell), B.U.heap = t.heap ∧ B.U.vm = t.vm ∧ XC E (A.U.calling g mk a) t ∧ t.heap[q]? = some ce ∧ ce.vm = .none ∧ A.U.vm.findClass E = some ce.cls ∧ B.locs = A.locs ++ L ∧ (∀ z ∈ L, free z.base) ∧ B.cells = A.cells + mc ∧ B.slots = A.slots + ms
def vx_Back (l : Launch) (R : Room) (p : Program) (e : Env) (below : List Frame) (s : State) (sargs : Array Value) (y : MethodName) (len W9 : Nat)
    (Pre : Pt → Array Value → Prop) (Post : Pt → Array Value → Option Value → Pt → Prop) (PostX : Pt → Array Value → Addr → Pt → Prop) : Prop :=
  ∀ (m : MethodId) (meth : Method) (c : Code) (A : Pt) (g : JFrame) (ig : Instr) (mk : MethodId) (a : Array Value),
    Stand p l e R s m sargs below meth c A.U A.locs A.cells A.slots → g.method = m → g.locals.size = c.maxLocals → decode c.code g.pc = .ok (ig, len) →
    2 * g.monitorRoom + (g.stack.map fun v => v.category).sum ≤ W9 → A.U.methodNamed? y = some mk → Pre A a →
    (∃ (v : Option Value) (B : Pt), Stand p l e R s m sargs below meth c B.U B.locs B.cells B.slots ∧ Post A a v B ∧
      Steps p.tables e below (doInvoke e (A.U.setTop g) [] mk a).1 (B.U.setTop { g with pc := g.pc + len, stack := v.toList ++ g.stack })) ∨
    (∃ (q : Addr) (B : Pt), Stand p l e R s m sargs below meth c B.U B.locs B.cells B.slots ∧ PostX A a q B ∧
      Steps p.tables e below (doInvoke e (A.U.setTop g) [] mk a).1 ((B.U.setTop g).pushFrame (.throwing q)))
section Payer
variable {l : Launch} {R : Room} {p : Program} {e : Env} {below : List Frame} {s : State} {sargs : Array Value} {y : MethodName} {len W9 : Nat}
theorem vx_back {ws : List Cond} {rm : Room} {Pc : Array Value → State → Prop} {Qc : Array Value → State → Outcome → State → Prop} {XC : String → State → State → Prop} {mc ms : Nat} {free : Addr → Prop} {bytes : ByteArray} {maxL : Nat} {ret : Option FieldType}
    (hM : vx_Met l y ws rm Pc Qc XC mc ms free) (hblind : FrameBlind Pc) (hrc : rm.cells = mc) (hrs : rm.slots = ms)
    (hframes : rm.frames + 1 ≤ R.frames) (hlocals : W9 + (maxL + 11) + rm.locals ≤ R.locals)
    (hws : ∀ w ∈ ws, ∀ a' U, s.WarmedH U.vm → w.before a' U = true) (hcode : Cond.code y bytes maxL ret ∈ ws) (hinit : ∀ a' U, s.WarmedH U.vm → (Cond.initialized y.cls).before a' U = true) :
    vx_Back l R p e below s sargs y len W9 (PreOf R mc ms Pc) (PostOf Qc mc ms free) (vx_Post XC mc ms free) := by
  intro m meth c A g ig mk a X hg hsize hdg hW hn hp
  have h1 : (headSpec ws rm).pre.before a A.U = true := atoms_intro fun w hw => hws w hw _ _ X.warmed
  have h2 : (Cond.code y bytes maxL ret).before a A.U = true := hws _ hcode _ _ X.warmed
  have h3 : (Cond.initialized y.cls).before a A.U = true := hinit _ _ X.warmed
  have h4 : A.cells + (headSpec ws rm).room.cells ≤ R.cells := by rw [show (headSpec ws rm).room.cells = mc from hrc]; exact hp.1
  have h5 : A.slots + (headSpec ws rm).room.slots ≤ R.slots := by rw [show (headSpec ws rm).room.slots = ms from hrs]; exact hp.2.1
  have hPc : Pc a (A.U.calling g mk a) := hblind _ _ _ _ hp.2.2
  obtain ⟨U, Ls, c0, s0⟩ := A
  dsimp only [Pt.U, Pt.locs, Pt.cells, Pt.slots] at h1 h2 h3 h4 h5 X hn hPc ⊢
  obtain ⟨methY, cY, hmY, hcY, -, hlY, -, -, -, -⟩ := Cond.code_spec hn h2
  obtain ⟨kY, hkY, -⟩ := className_of_methodNamed hn
  have hinitY : kY.init = .initialized := Cond.initialized_spec (findClass_of_methodNamed hn) hkY h3
  have h : At U g.method c below := by rw [hg]; exact X.here
  have hlocals9 : W9 + (maxL + 11) + (headSpec ws rm).room.locals ≤ R.locals := hlocals
  have happ : (headSpec ws rm).appliesLoose y e.platform (U.calling g mk a) = true :=
    Spec.appliesLoose_calling (g := g) h hdg hn hkY hinitY
      (X.room_calling (g := g) (R' := (headSpec ws rm).room) hsize hmY hcY hframes (by rw [hlY]; omega) h4 h5) h1
  obtain ⟨mid, hmid⟩ := h.above
  have hfr : (U.setTop g).frames = (.java g :: mid) ++ below := by rw [State.frames_setTop' g h.top, hmid]; rfl
  obtain ⟨o, s₂, hsteps, -, hend, hq⟩ := Steps.callFree hM p X.admits X.cas X.clock (acts := []) hfr happ hPc trivial
  have hq' : vx_Q Qc XC mc ms free a (U.calling g mk a) o s₂ := hq
  rw [State.frames_setTop' g h.top] at hend
  obtain ⟨g₀, hg0⟩ := Option.isSome_iff_exists.mp h.top
  obtain ⟨r, hr⟩ := State.topJava?_eq_some.mp hg0
  have hr' : (({ U with heap := s₂.heap, slotsUsed := s₂.slotsUsed } : State).setVm s₂.vm).frames = .java g₀ :: r := hr
  rcases hq' with ⟨hqc, L, hfe, hL⟩ | ⟨q, rfl, E, ce, L, hx, hce, hcv, hcl, hW₂, hsm, hL⟩
  · obtain ⟨⟨v, rfl⟩, hW₂, e2, q2, q3, q4, q5, q6⟩ := id hfe
    have e3 : s₂ = ({ (U.calling g mk a).setFrames s₂.frames with heap := s₂.heap, slotsUsed := s₂.slotsUsed } : State).setVm s₂.vm := by
      have : s₂ = ({ s₂ with vm := (U.calling g mk a).vm } : State).setVm s₂.vm := rfl
      rw [e2] at this
      exact this
    obtain ⟨c₂, i₂, len₂, hc₂, hd₂, hf₂⟩ := hend
    have hW' : U.WarmedH s₂.vm := hW₂
    have hcc : c₂ = c := by
      have h1 : s₂.code? g.method = U.code? g.method := by
        rw [State.code?_eq, State.code?_eq, hW'.alike.method?]
      exact Option.some.inj (hc₂.symm.trans (h1.trans h.code))
    subst hcc
    have hlen : len₂ = len := by rw [hdg] at hd₂; cases hd₂; rfl
    subst hlen
    have hs₂ : s₂ = (({ U with heap := s₂.heap, slotsUsed := s₂.slotsUsed } : State).setVm s₂.vm).setTop { g with pc := g.pc + len₂, stack := v.toList ++ g.stack } := by
      refine e3.trans ?_
      rw [hf₂, State.calling_eq h.top, State.setFrames_setFrames, State.setTop_of_frames _ hr', hr]
      rfl
    have hsame : U.sameButNew ({ U with heap := s₂.heap, slotsUsed := s₂.slotsUsed } : State) L mc ms := by
      refine ⟨?_, q2, q3, q4, q5, q6⟩
      obtain ⟨t, ht, -⟩ := State.frames_cons hr
      show ({ U with heap := s₂.heap, slotsUsed := s₂.slotsUsed } : State) = { U.setFrames U.frames with heap := s₂.heap, slotsUsed := s₂.slotsUsed }
      rw [State.setFrames_self ht]
    subst hg
    refine Or.inl ⟨v, ⟨(({ U with heap := s₂.heap, slotsUsed := s₂.slotsUsed } : State).setVm s₂.vm), Ls ++ L, c0 + mc, s0 + ms⟩,
      ⟨X.admits, X.cas, X.clock, X.frames, X.room, X.hears, X.method, X.code, (X.here.setHeapUsed s₂.heap s₂.slotsUsed).setVm hW'.alike, X.tail, State.WarmedH.trans X.warmed hW', X.limits, X.bytes, X.same.trans (hsame.setVm s.vm)⟩,
      ⟨g, mk, s₂, L, rfl, rfl, hqc, rfl, hL, rfl, rfl⟩, ?_⟩
    show Steps p.tables e below _ ((({ U with heap := s₂.heap, slotsUsed := s₂.slotsUsed } : State).setVm s₂.vm).setTop { g with pc := g.pc + len₂, stack := v.toList ++ g.stack })
    rw [← hs₂]
    exact hsteps
  · obtain ⟨e2, q2, q3, q4, q5, q6⟩ := id hsm
    have e3 : s₂ = ({ (U.calling g mk a).setFrames s₂.frames with heap := s₂.heap, slotsUsed := s₂.slotsUsed } : State).setVm s₂.vm := by
      have : s₂ = ({ s₂ with vm := (U.calling g mk a).vm } : State).setVm s₂.vm := rfl
      rw [e2] at this
      exact this
    have hf₂ : s₂.frames = .throwing q :: .java g :: U.frames.tail := hend
    have hW' : U.WarmedH s₂.vm := hW₂
    have hs₂ : s₂ = ((({ U with heap := s₂.heap, slotsUsed := s₂.slotsUsed } : State).setVm s₂.vm).setTop g).pushFrame (.throwing q) := by
      refine e3.trans ?_
      rw [hf₂, State.calling_eq h.top, State.setFrames_setFrames, State.pushFrame, State.frames_setTop _ hr', State.setTop_of_frames _ hr', State.setFrames_setFrames, hr]
      rfl
    have hsame : U.sameButNew ({ U with heap := s₂.heap, slotsUsed := s₂.slotsUsed } : State) L mc ms := by
      refine ⟨?_, q2, q3, q4, q5, q6⟩
      obtain ⟨t, ht, -⟩ := State.frames_cons hr
      show ({ U with heap := s₂.heap, slotsUsed := s₂.slotsUsed } : State) = { U.setFrames U.frames with heap := s₂.heap, slotsUsed := s₂.slotsUsed }
      rw [State.setFrames_self ht]
    subst hg
    refine Or.inr ⟨q, ⟨(({ U with heap := s₂.heap, slotsUsed := s₂.slotsUsed } : State).setVm s₂.vm), Ls ++ L, c0 + mc, s0 + ms⟩,
      ⟨X.admits, X.cas, X.clock, X.frames, X.room, X.hears, X.method, X.code, (X.here.setHeapUsed s₂.heap s₂.slotsUsed).setVm hW'.alike, X.tail, State.WarmedH.trans X.warmed hW', X.limits, X.bytes, X.same.trans (hsame.setVm s.vm)⟩,
      ⟨g, mk, s₂, L, E, ce, rfl, rfl, hx, hce, hcv, hcl, rfl, hL, rfl, rfl⟩, ?_⟩
    show Steps p.tables e below _ (((({ U with heap := s₂.heap, slotsUsed := s₂.slotsUsed } : State).setVm s₂.vm).setTop g).pushFrame (.throwing q))
    rw [← hs₂]
    exact hsteps
end Payer
section Calls
variable {p : Program} {l : Launch} {e : Env} {R : Room} {s : State} {m : MethodId} {args : Array Value} {below : List Frame} {meth : Method} {c : Code} {T : State} {locs : List Loc} {cells slots : Nat}
theorem vx_callV (X : Stand p l e R s m args below meth c T locs cells slots) (hexec : p.tables.exec = Jvm.exec) {own C : String} {index : Nat} {y : MethodName} {bytes : ByteArray} {maxL : Nat} {ret : Option FieldType}
    (hown : s.vm.findClass own = some m.cls) (hlink : (Cond.methodLink own index y).before args s = true) (hinst : (Cond.instanceMethod y).before args s = true) (hsel : (Cond.selects C y y).before args s = true)
    (hcode : (Cond.code y bytes maxL ret).before args s = true) (hy : y.cls ≠ "java/lang/invoke/MethodHandle" ∧ y.cls ≠ "java/lang/invoke/VarHandle")
    {W9 : Nat} {Pre : Pt → Array Value → Prop} {Post : Pt → Array Value → Option Value → Pt → Prop} {PostX : Pt → Array Value → Addr → Pt → Prop} (hK : vx_Back l R p e below s args y 3 W9 Pre Post PostX)
    {b : Addr} {cellB : Cell} (hcell : T.heap[b]? = some cellB) (hobj : cellB.vm.isStatics = false) (hcls : s.vm.findClass C = some cellB.cls)
    {g : JFrame} (hg : g.method = m) (hsize : g.locals.size = c.maxLocals) {argsL rest : List Value} (hlen : ∀ sig, parseMethodDescriptor y.desc = some sig → argsL.length = sig.parameters.length)
    (hstack : g.stack = argsL.reverse ++ .ref b :: rest) (hW : 2 * g.monitorRoom + (rest.map fun v => v.category).sum ≤ W9) (hdg : decode c.code g.pc = .ok (.invokevirtual index, 3))
    (hpre : ∀ vm₁, s.WarmedH vm₁ → Pre ⟨T.setVm vm₁, locs, cells, slots⟩ (Value.ref b :: argsL).toArray) :
    (∃ (v : Option Value) (vm₁ : Vm) (B : Pt), s.WarmedH vm₁ ∧ Stand p l e R s m args below meth c B.U B.locs B.cells B.slots ∧ Post ⟨T.setVm vm₁, locs, cells, slots⟩ (Value.ref b :: argsL).toArray v B ∧
      ∀ target, Steps p.tables e below (B.U.setTop { g with pc := g.pc + 3, stack := v.toList ++ rest }) target → Steps p.tables e below (T.setTop g) target) ∨
    (∃ (q : Addr) (vm₁ : Vm) (B : Pt), s.WarmedH vm₁ ∧ Stand p l e R s m args below meth c B.U B.locs B.cells B.slots ∧ PostX ⟨T.setVm vm₁, locs, cells, slots⟩ (Value.ref b :: argsL).toArray q B ∧
      Steps p.tables e below (T.setTop g) ((B.U.setTop { g with stack := rest }).pushFrame (.throwing q))) := by
  obtain ⟨mk, methM, hnamed, hmethM, hstM, habM⟩ := Cond.instanceMethod_spec hinst
  obtain ⟨methM', cM, hmethM', -, -, -, -, -, -, hsigM⟩ := Cond.code_spec hnamed hcode
  cases hmethM.symm.trans hmethM'
  obtain ⟨c2, r2, m2, q1, q2, q3, q4, kP, hkP, hkPi⟩ := Cond.selects_spec hsel
  cases hcls.symm.trans q1
  cases (State.methodFound?_of_named hnamed hy).symm.trans q2
  cases hnamed.symm.trans q3
  have hselP : selectMethod e.platform s.vm cellB.cls mk = .method mk := by rw [Launch.admits_selectMethod X.admits]; exact q4
  obtain ⟨vm₁, X₁, hstep₁⟩ := X.invokevirtual hexec hown hlink hnamed hmethM hstM hkP hkPi hy (a := b) (cell := cellB) hcell
    (fun z h => by rw [h] at hobj; cases hobj) hselP hmethM habM hkP hkPi (g := g) hg (argsL := argsL) (rest := rest) (hlen _ hsigM) hstack hdg
  rcases hK m meth c ⟨T.setVm vm₁, locs, cells, slots⟩ { g with stack := rest } (.invokevirtual index) mk (Value.ref b :: argsL).toArray X₁ hg hsize hdg hW (X₁.named hnamed) (hpre vm₁ X₁.warmed) with ⟨v, B, X', hpost, hsteps⟩ | ⟨q, B, X', hpost, hsteps⟩
  · exact Or.inl ⟨v, vm₁, B, X₁.warmed, X', hpost, fun target h => hstep₁ _ fun acts => by rw [doInvoke_state]; exact hsteps.trans h⟩
  · exact Or.inr ⟨q, vm₁, B, X₁.warmed, X', hpost, hstep₁ _ fun acts => by rw [doInvoke_state]; exact hsteps⟩
theorem vx_callS (X : Stand p l e R s m args below meth c T locs cells slots) (hexec : p.tables.exec = Jvm.exec) {own : String} {index : Nat} {y : MethodName} {bytes : ByteArray} {maxL : Nat} {ret : Option FieldType}
    (hown : s.vm.findClass own = some m.cls) (hlink : (Cond.methodLink own index y).before args s = true) (hstat : (Cond.static y).before args s = true) (hinit : (Cond.initialized y.cls).before args s = true)
    (hcode : (Cond.code y bytes maxL ret).before args s = true) (hy : y.cls ≠ "java/lang/invoke/MethodHandle" ∧ y.cls ≠ "java/lang/invoke/VarHandle")
    {W9 : Nat} {Pre : Pt → Array Value → Prop} {Post : Pt → Array Value → Option Value → Pt → Prop} {PostX : Pt → Array Value → Addr → Pt → Prop} (hK : vx_Back l R p e below s args y 3 W9 Pre Post PostX)
    {g : JFrame} (hg : g.method = m) (hsize : g.locals.size = c.maxLocals) {argsL rest : List Value} (hlen : ∀ sig, parseMethodDescriptor y.desc = some sig → argsL.length = sig.parameters.length)
    (hstack : g.stack = argsL.reverse ++ rest) (hW : 2 * g.monitorRoom + (rest.map fun v => v.category).sum ≤ W9) (hdg : decode c.code g.pc = .ok (.invokestatic index, 3))
    (hpre : ∀ vm₁, s.WarmedH vm₁ → Pre ⟨T.setVm vm₁, locs, cells, slots⟩ argsL.toArray) :
    (∃ (v : Option Value) (vm₁ : Vm) (B : Pt), s.WarmedH vm₁ ∧ Stand p l e R s m args below meth c B.U B.locs B.cells B.slots ∧ Post ⟨T.setVm vm₁, locs, cells, slots⟩ argsL.toArray v B ∧
      ∀ target, Steps p.tables e below (B.U.setTop { g with pc := g.pc + 3, stack := v.toList ++ rest }) target → Steps p.tables e below (T.setTop g) target) ∨
    (∃ (q : Addr) (vm₁ : Vm) (B : Pt), s.WarmedH vm₁ ∧ Stand p l e R s m args below meth c B.U B.locs B.cells B.slots ∧ PostX ⟨T.setVm vm₁, locs, cells, slots⟩ argsL.toArray q B ∧
      Steps p.tables e below (T.setTop g) ((B.U.setTop { g with stack := rest }).pushFrame (.throwing q))) := by
  obtain ⟨mk, hnamed⟩ := Cond.code_named hcode
  obtain ⟨methM, cM, hmethM, -, -, -, -, -, -, hsigM⟩ := Cond.code_spec hnamed hcode
  have hstatic : methM.isStatic = true := Cond.static_spec hnamed hmethM hstat
  obtain ⟨kP, hkP, -⟩ := className_of_methodNamed hnamed
  have hinitP : kP.init = .initialized := Cond.initialized_spec (findClass_of_methodNamed hnamed) hkP hinit
  obtain ⟨vm₁, X₁, hstep₁⟩ := X.invokestatic hexec hown hlink hnamed hmethM hstatic hkP hinitP hy (g := g) hg (argsL := argsL) (rest := rest) (hlen _ hsigM) hstack hdg
  rcases hK m meth c ⟨T.setVm vm₁, locs, cells, slots⟩ { g with stack := rest } (.invokestatic index) mk argsL.toArray X₁ hg hsize hdg hW (X₁.named hnamed) (hpre vm₁ X₁.warmed) with ⟨v, B, X', hpost, hsteps⟩ | ⟨q, B, X', hpost, hsteps⟩
  · exact Or.inl ⟨v, vm₁, B, X₁.warmed, X', hpost, fun target h => hstep₁ _ fun acts => by rw [doInvoke_state]; exact hsteps.trans h⟩
  · exact Or.inr ⟨q, vm₁, B, X₁.warmed, X', hpost, hstep₁ _ fun acts => by rw [doInvoke_state]; exact hsteps⟩
end Calls
theorem vx_cls {s : State} {T : State} {vm₁ : Vm} {E : String} {k : ClassId} (hW : s.WarmedH vm₁) (h : (T.setVm vm₁).vm.findClass E = some k) : s.vm.findClass E = some k := by
  have h1 : vm₁.findClass E = some k := h
  rw [hW.alike.findClass] at h1
  exact h1
/-- the method's frame g, with q thrown over it -/
def vx_W (p : Program) (l : Launch) (e : Env) (R : Room) (s : State) (m : MethodId) (args : Array Value) (below : List Frame) (meth : Method) (c : Code) (H : Heap) (locs : List Loc) (cells slots : Nat) (Q : State → Prop) (g : JFrame) (q : Addr) : Prop :=
  ∀ T : State, T.heap = H → Stand p l e R s m args below meth c T locs cells slots → ∃ t, Steps p.tables e below ((T.setTop g).pushFrame (.throwing q)) t ∧ Q t
def vx_Run (p : Program) (l : Launch) (e : Env) (R : Room) (s : State) (m : MethodId) (args : Array Value) (below : List Frame) (meth : Method) (c : Code) (H : Heap) (locs : List Loc) (cells slots mc ms : Nat) (g : JFrame) (rest : List Value) (Qa : State → Outcome → State → Prop) (XC : String → State → State → Prop) (free : Addr → Prop) : Prop :=
  ∀ T : State, T.heap = H → Stand p l e R s m args below meth c T locs cells slots →
    (∃ (v : Option Value) (st₀ t T' : State) (L : List Loc), st₀.heap = H ∧ Stand p l e R s m args below meth c T' (locs ++ L) (cells + mc) (slots + ms) ∧ (∀ q ∈ L, free q.base) ∧ T'.heap = t.heap ∧ T'.vm = t.vm ∧ Qa st₀ (.returned v) t ∧
      Goes p e below T g T' { g with pc := g.pc + 3, stack := v.toList ++ rest }) ∨
    (∃ (q : Addr) (st₀ t T' : State) (L : List Loc) (E : String) (ce : Cell), st₀.heap = H ∧ Stand p l e R s m args below meth c T' (locs ++ L) (cells + mc) (slots + ms) ∧ (∀ z ∈ L, free z.base) ∧ T'.heap = t.heap ∧ T'.vm = t.vm ∧ XC E st₀ t ∧ t.heap[q]? = some ce ∧ ce.vm = .none ∧ s.vm.findClass E = some ce.cls ∧
      Steps p.tables e below (T.setTop g) ((T'.setTop { g with stack := rest }).pushFrame (.throwing q)))
def vx_X {S : Type} (px : S → Prop) (B : String → S → State → Prop) (A : Nat → Prop) : String → State → State → Prop := fun E st t => ∃ u : S, px u ∧ B E u t ∧ va_F A st t
section Runs
variable {p : Program} {l : Launch} {e : Env} {R : Room} {s : State} {m : MethodId} {args : Array Value} {below : List Frame} {meth : Method} {c : Code} {H : Heap} {locs : List Loc} {cells slots : Nat}
variable {y : MethodName} {bytes cc : ByteArray} {maxL nL mc ms n index : Nat} {ret : Option FieldType} {ws : List Cond} {rm : Room} {Pc : Array Value → State → Prop} {Qc : Array Value → State → Outcome → State → Prop} {XC : String → State → State → Prop} {free : Addr → Prop} {Ts : List Cond} {own C : String} {b : Addr} {As rest : List Value} {g : JFrame}
theorem vx_callBack (cb : CallB R s args own index y bytes maxL ret ws rm mc ms n) (hM : vx_Met l y ws rm Pc Qc XC mc ms free) (hbl : FrameBlind Pc) : vx_Back l R p e below s args y 3 8 (PreOf R mc ms Pc) (PostOf Qc mc ms free) (vx_Post XC mc ms free) := by
  obtain ⟨hrc, hrs, hfr, hlo, hws, hcw, -, hini, -⟩ := cb
  exact vx_back (bytes := bytes) (maxL := maxL) (ret := ret) hM hbl hrc hrs hfr hlo hws hcw (fun a' U hW => word_at hW (Or.inl (by first | rfl | simp [Cond.onTables, Cond.keeps, Cond.steady])) hini)
theorem vx_runV (S : CallFix p m c cc nL s args Ts own) (hM : vx_Met l y ws rm Pc Qc XC mc ms free) (cw : CallW R s args own C index y bytes maxL ret ws rm mc ms n) (hp : PreV s H C b Pc As)
    (hg : g.method = m) (hn : As.length = n) (hsize : g.locals.size = nL) (hstack : g.stack = As.reverse ++ .ref b :: rest) (hW : 2 * g.monitorRoom + (rest.map fun v => v.category).sum ≤ 8) (hdg : decode cc g.pc = .ok (.invokevirtual index, 3)) (hf : cells + mc ≤ R.cells ∧ slots + ms ≤ R.slots) :
    vx_Run p l e R s m args below meth c H locs cells slots mc ms g rest (Qc (Value.ref b :: As).toArray) XC free := by
  have hK : vx_Back l R p e below s args y 3 8 (PreOf R mc ms Pc) (PostOf Qc mc ms free) (vx_Post XC mc ms free) := vx_callBack cw.1 hM hp.1
  obtain ⟨⟨-, -, -, -, -, -, hcode, -, hy, hlen, hl⟩, hin, hse⟩ := cw
  obtain ⟨hx, hb, hml, ho, -⟩ := S
  obtain ⟨-, ⟨cellB, hcB, hoB, hclB⟩, hPc⟩ := hp
  intro T hT X
  rcases vx_callV X hx (C := C) (bytes := bytes) (maxL := maxL) (ret := ret) ho hl hin hse hcode hy hK (by rw [hT]; exact hcB) hoB hclB hg (hsize.trans hml.symm) (argsL := As) (rest := rest) (fun sig h => hn.trans (hlen sig h)) hstack hW (by rw [hb]; exact hdg)
    (fun vm₁ hW₁ => ⟨hf.1, hf.2, hPc (T.setVm vm₁) hT hW₁⟩) with ⟨v, vm₁, ⟨U', l2, c2, s2⟩, hW₁, X', ⟨g', mk, t, L, e1, e2, hq, h1, hL, h2, h3⟩, st⟩ | ⟨q, vm₁, ⟨U', l2, c2, s2⟩, hW₁, X', ⟨g', mk, t, L, E, ce, e1, e2, hq, hce, hcv, hcl, h1, hL, h2, h3⟩, st⟩
  · dsimp only [Pt.U, Pt.locs, Pt.cells, Pt.slots] at X' e1 e2 h1 h2 h3 st
    subst h1; subst h2; subst h3
    exact Or.inl ⟨v, (T.setVm vm₁).calling g' mk (Value.ref b :: As).toArray, t, U', L, hT, X', hL, e1, e2, hq, st⟩
  · dsimp only [Pt.U, Pt.locs, Pt.cells, Pt.slots] at X' e1 e2 h1 h2 h3 st hcl
    subst h1; subst h2; subst h3
    exact Or.inr ⟨q, (T.setVm vm₁).calling g' mk (Value.ref b :: As).toArray, t, U', L, E, ce, hT, X', hL, e1, e2, hq, hce, hcv, vx_cls hW₁ hcl, st⟩
theorem vx_runS (S : CallFix p m c cc nL s args Ts own) (hM : vx_Met l y ws rm Pc Qc XC mc ms free) (cw : CallB R s args own index y bytes maxL ret ws rm mc ms n ∧ (Cond.static y).before args s = true) (hp : PreS s H Pc As)
    (hg : g.method = m) (hn : As.length = n) (hsize : g.locals.size = nL) (hstack : g.stack = As.reverse ++ rest) (hW : 2 * g.monitorRoom + (rest.map fun v => v.category).sum ≤ 8) (hdg : decode cc g.pc = .ok (.invokestatic index, 3)) (hf : cells + mc ≤ R.cells ∧ slots + ms ≤ R.slots) :
    vx_Run p l e R s m args below meth c H locs cells slots mc ms g rest (Qc As.toArray) XC free := by
  have hK : vx_Back l R p e below s args y 3 8 (PreOf R mc ms Pc) (PostOf Qc mc ms free) (vx_Post XC mc ms free) := vx_callBack cw.1 hM hp.1
  obtain ⟨⟨-, -, -, -, -, -, hcode, hini, hy, hlen, hl⟩, hstt⟩ := cw
  obtain ⟨hx, hb, hml, ho, -⟩ := S
  intro T hT X
  rcases vx_callS X hx (bytes := bytes) (maxL := maxL) (ret := ret) ho hl hstt hini hcode hy hK hg (hsize.trans hml.symm) (argsL := As) (rest := rest) (fun sig h => hn.trans (hlen sig h)) hstack hW (by rw [hb]; exact hdg)
    (fun vm₁ hW₁ => ⟨hf.1, hf.2, hp.2 (T.setVm vm₁) hT hW₁⟩) with ⟨v, vm₁, ⟨U', l2, c2, s2⟩, hW₁, X', ⟨g', mk, t, L, e1, e2, hq, h1, hL, h2, h3⟩, st⟩ | ⟨q, vm₁, ⟨U', l2, c2, s2⟩, hW₁, X', ⟨g', mk, t, L, E, ce, e1, e2, hq, hce, hcv, hcl, h1, hL, h2, h3⟩, st⟩
  · dsimp only [Pt.U, Pt.locs, Pt.cells, Pt.slots] at X' e1 e2 h1 h2 h3 st
    subst h1; subst h2; subst h3
    exact Or.inl ⟨v, (T.setVm vm₁).calling g' mk As.toArray, t, U', L, hT, X', hL, e1, e2, hq, st⟩
  · dsimp only [Pt.U, Pt.locs, Pt.cells, Pt.slots] at X' e1 e2 h1 h2 h3 st hcl
    subst h1; subst h2; subst h3
    exact Or.inr ⟨q, (T.setVm vm₁).calling g' mk As.toArray, t, U', L, E, ce, hT, X', hL, e1, e2, hq, hce, hcv, vx_cls hW₁ hcl, st⟩
end Runs
section Rows
variable {p : Program} {l : Launch} {e : Env} {R : Room} {s : State} {m : MethodId} {args : Array Value} {below : List Frame} {meth : Method} {c : Code} {H : Heap} {locs : List Loc} {cells slots : Nat} {Q : State → Prop}
variable {mc ms : Nat} {free : Addr → Prop} {A0 A1 : Nat → Prop} {H0 : Heap} {a : Array Value} {pc : Nat} {ls : Array Slot} {st0 rest : List Value}
theorem vx_keep {st₀ t T' : State} {L : List Loc} (h0 : st₀.heap = H) (e1 : T'.heap = t.heap) (hS : va_S A0 H0 H locs) (hA : ∀ q, q < H.size → A1 q → A0 q) (hf : ∀ q, free q → A0 q) (hL : ∀ q ∈ L, free q.base) (hF : va_F A1 st₀ t) :
    H.size ≤ T'.heap.size ∧ (∀ q : Nat, q < H.size → ¬ A1 q → T'.heap[q]? = H[q]?) ∧ va_S A0 H0 T'.heap (locs ++ L) := by
  obtain ⟨hz, hk⟩ := hF
  rw [h0] at hz hk
  exact ⟨by rw [e1]; exact hz, fun q h1 h2 => by rw [e1]; exact hk q h1 h2,
    ⟨Nat.le_trans hS.1 (by rw [e1]; exact hz), fun q h1 h2 => by rw [e1, hk q (Nat.lt_of_lt_of_le h1 hS.1) (fun z => h2 (hA q (Nat.lt_of_lt_of_le h1 hS.1) z))]; exact hS.2.1 q h1 h2, fun q hq => by
      rcases List.mem_append.mp hq with h | h
      · exact hS.2.2 q h
      · exact hf _ (hL q h)⟩⟩
theorem vx_calli {S SX : Type} {post : Int32 → S → Prop} {px : SX → Prop} {B : S → State → Prop} {BX : String → SX → State → Prop} {AX : Nat → Prop} (hr : vx_Run p l e R s m args below meth c H locs cells slots mc ms (F0 m pc ls st0) rest (va_Qi post B A1 a) (vx_X px BX AX) free) (hS : va_S A0 H0 H locs) (hA : ∀ q, q < H.size → A1 q → A0 q) (hf : ∀ q, free q → A0 q) (hAX : ∀ q, q < H.size → AX q → A0 q)
    (kx : ∀ (E : String) (ce : Cell) (q9 : Addr) (u : SX) (t : State) (H1 : Heap) (locs1 : List Loc), t.heap = H1 → s.vm.Alike t.vm → px u → BX E u t → H.size ≤ H1.size → (∀ q : Nat, q < H.size → ¬ AX q → H1[q]? = H[q]?) → va_S A0 H0 H1 locs1 → H1[q9]? = some ce → ce.vm = .none → s.vm.findClass E = some ce.cls → vx_W p l e R s m args below meth c H1 locs1 (cells + mc) (slots + ms) Q (F0 m pc ls rest) q9)
    (kk : ∀ (r : Int32) (u : S) (t : State) (H1 : Heap) (locs1 : List Loc), t.heap = H1 → s.vm.Alike t.vm → post r u → B u t → H.size ≤ H1.size → (∀ q : Nat, q < H.size → ¬ A1 q → H1[q]? = H[q]?) → va_S A0 H0 H1 locs1 → W p l e R s m args below meth c H1 locs1 (cells + mc) (slots + ms) Q (F0 m (pc + 3) ls (.int r :: rest))) : W p l e R s m args below meth c H locs cells slots Q (F0 m pc ls st0) := by
  intro T hT X
  rcases hr T hT X with ⟨v, st₀, t, T', L, h0, X', hL, e1, e2, ⟨⟨r, u, hv, hp, hb⟩, hF⟩, st⟩ | ⟨q, st₀, t, T', L, E, ce, h0, X', hL, e1, e2, ⟨u, hp, hb, hF⟩, hce, hcv, hcl, st⟩
  · cases hv
    obtain ⟨k1, k2, k3⟩ := vx_keep h0 e1 hS hA hf hL hF
    obtain ⟨t2, a1, b1⟩ := kk r u t T'.heap (locs ++ L) e1.symm (by rw [← e2]; exact X'.warmed.alike) hp hb k1 k2 k3 T' rfl X'
    exact ⟨t2, st t2 a1, b1⟩
  · obtain ⟨k1, k2, k3⟩ := vx_keep h0 e1 hS hAX hf hL hF
    obtain ⟨t2, a1, b1⟩ := kx E ce q u t T'.heap (locs ++ L) e1.symm (by rw [← e2]; exact X'.warmed.alike) hp hb k1 k2 k3 (by rw [e1]; exact hce) hcv hcl T' rfl X'
    exact ⟨t2, st.trans a1, b1⟩
theorem vx_calll {S SX : Type} {post : Int64 → S → Prop} {px : SX → Prop} {B : S → State → Prop} {BX : String → SX → State → Prop} {AX : Nat → Prop} (hr : vx_Run p l e R s m args below meth c H locs cells slots mc ms (F0 m pc ls st0) rest (va_Ql post B A1 a) (vx_X px BX AX) free) (hS : va_S A0 H0 H locs) (hA : ∀ q, q < H.size → A1 q → A0 q) (hf : ∀ q, free q → A0 q) (hAX : ∀ q, q < H.size → AX q → A0 q)
    (kx : ∀ (E : String) (ce : Cell) (q9 : Addr) (u : SX) (t : State) (H1 : Heap) (locs1 : List Loc), t.heap = H1 → s.vm.Alike t.vm → px u → BX E u t → H.size ≤ H1.size → (∀ q : Nat, q < H.size → ¬ AX q → H1[q]? = H[q]?) → va_S A0 H0 H1 locs1 → H1[q9]? = some ce → ce.vm = .none → s.vm.findClass E = some ce.cls → vx_W p l e R s m args below meth c H1 locs1 (cells + mc) (slots + ms) Q (F0 m pc ls rest) q9)
    (kk : ∀ (r : Int64) (u : S) (t : State) (H1 : Heap) (locs1 : List Loc), t.heap = H1 → s.vm.Alike t.vm → post r u → B u t → H.size ≤ H1.size → (∀ q : Nat, q < H.size → ¬ A1 q → H1[q]? = H[q]?) → va_S A0 H0 H1 locs1 → W p l e R s m args below meth c H1 locs1 (cells + mc) (slots + ms) Q (F0 m (pc + 3) ls (.long r :: rest))) : W p l e R s m args below meth c H locs cells slots Q (F0 m pc ls st0) := by
  intro T hT X
  rcases hr T hT X with ⟨v, st₀, t, T', L, h0, X', hL, e1, e2, ⟨⟨r, u, hv, hp, hb⟩, hF⟩, st⟩ | ⟨q, st₀, t, T', L, E, ce, h0, X', hL, e1, e2, ⟨u, hp, hb, hF⟩, hce, hcv, hcl, st⟩
  · cases hv
    obtain ⟨k1, k2, k3⟩ := vx_keep h0 e1 hS hA hf hL hF
    obtain ⟨t2, a1, b1⟩ := kk r u t T'.heap (locs ++ L) e1.symm (by rw [← e2]; exact X'.warmed.alike) hp hb k1 k2 k3 T' rfl X'
    exact ⟨t2, st t2 a1, b1⟩
  · obtain ⟨k1, k2, k3⟩ := vx_keep h0 e1 hS hAX hf hL hF
    obtain ⟨t2, a1, b1⟩ := kx E ce q u t T'.heap (locs ++ L) e1.symm (by rw [← e2]; exact X'.warmed.alike) hp hb k1 k2 k3 (by rw [e1]; exact hce) hcv hcl T' rfl X'
    exact ⟨t2, st.trans a1, b1⟩
theorem vx_callf {S SX : Type} {post : UInt32 → S → Prop} {px : SX → Prop} {B : S → State → Prop} {BX : String → SX → State → Prop} {AX : Nat → Prop} (hr : vx_Run p l e R s m args below meth c H locs cells slots mc ms (F0 m pc ls st0) rest (va_Qf post B A1 a) (vx_X px BX AX) free) (hS : va_S A0 H0 H locs) (hA : ∀ q, q < H.size → A1 q → A0 q) (hf : ∀ q, free q → A0 q) (hAX : ∀ q, q < H.size → AX q → A0 q)
    (kx : ∀ (E : String) (ce : Cell) (q9 : Addr) (u : SX) (t : State) (H1 : Heap) (locs1 : List Loc), t.heap = H1 → s.vm.Alike t.vm → px u → BX E u t → H.size ≤ H1.size → (∀ q : Nat, q < H.size → ¬ AX q → H1[q]? = H[q]?) → va_S A0 H0 H1 locs1 → H1[q9]? = some ce → ce.vm = .none → s.vm.findClass E = some ce.cls → vx_W p l e R s m args below meth c H1 locs1 (cells + mc) (slots + ms) Q (F0 m pc ls rest) q9)
    (kk : ∀ (r : UInt32) (u : S) (t : State) (H1 : Heap) (locs1 : List Loc), t.heap = H1 → s.vm.Alike t.vm → post r u → B u t → H.size ≤ H1.size → (∀ q : Nat, q < H.size → ¬ A1 q → H1[q]? = H[q]?) → va_S A0 H0 H1 locs1 → W p l e R s m args below meth c H1 locs1 (cells + mc) (slots + ms) Q (F0 m (pc + 3) ls (.float r :: rest))) : W p l e R s m args below meth c H locs cells slots Q (F0 m pc ls st0) := by
  intro T hT X
  rcases hr T hT X with ⟨v, st₀, t, T', L, h0, X', hL, e1, e2, ⟨⟨r, u, hv, hp, hb⟩, hF⟩, st⟩ | ⟨q, st₀, t, T', L, E, ce, h0, X', hL, e1, e2, ⟨u, hp, hb, hF⟩, hce, hcv, hcl, st⟩
  · cases hv
    obtain ⟨k1, k2, k3⟩ := vx_keep h0 e1 hS hA hf hL hF
    obtain ⟨t2, a1, b1⟩ := kk r u t T'.heap (locs ++ L) e1.symm (by rw [← e2]; exact X'.warmed.alike) hp hb k1 k2 k3 T' rfl X'
    exact ⟨t2, st t2 a1, b1⟩
  · obtain ⟨k1, k2, k3⟩ := vx_keep h0 e1 hS hAX hf hL hF
    obtain ⟨t2, a1, b1⟩ := kx E ce q u t T'.heap (locs ++ L) e1.symm (by rw [← e2]; exact X'.warmed.alike) hp hb k1 k2 k3 (by rw [e1]; exact hce) hcv hcl T' rfl X'
    exact ⟨t2, st.trans a1, b1⟩
theorem vx_calld {S SX : Type} {post : UInt64 → S → Prop} {px : SX → Prop} {B : S → State → Prop} {BX : String → SX → State → Prop} {AX : Nat → Prop} (hr : vx_Run p l e R s m args below meth c H locs cells slots mc ms (F0 m pc ls st0) rest (va_Qd post B A1 a) (vx_X px BX AX) free) (hS : va_S A0 H0 H locs) (hA : ∀ q, q < H.size → A1 q → A0 q) (hf : ∀ q, free q → A0 q) (hAX : ∀ q, q < H.size → AX q → A0 q)
    (kx : ∀ (E : String) (ce : Cell) (q9 : Addr) (u : SX) (t : State) (H1 : Heap) (locs1 : List Loc), t.heap = H1 → s.vm.Alike t.vm → px u → BX E u t → H.size ≤ H1.size → (∀ q : Nat, q < H.size → ¬ AX q → H1[q]? = H[q]?) → va_S A0 H0 H1 locs1 → H1[q9]? = some ce → ce.vm = .none → s.vm.findClass E = some ce.cls → vx_W p l e R s m args below meth c H1 locs1 (cells + mc) (slots + ms) Q (F0 m pc ls rest) q9)
    (kk : ∀ (r : UInt64) (u : S) (t : State) (H1 : Heap) (locs1 : List Loc), t.heap = H1 → s.vm.Alike t.vm → post r u → B u t → H.size ≤ H1.size → (∀ q : Nat, q < H.size → ¬ A1 q → H1[q]? = H[q]?) → va_S A0 H0 H1 locs1 → W p l e R s m args below meth c H1 locs1 (cells + mc) (slots + ms) Q (F0 m (pc + 3) ls (.double r :: rest))) : W p l e R s m args below meth c H locs cells slots Q (F0 m pc ls st0) := by
  intro T hT X
  rcases hr T hT X with ⟨v, st₀, t, T', L, h0, X', hL, e1, e2, ⟨⟨r, u, hv, hp, hb⟩, hF⟩, st⟩ | ⟨q, st₀, t, T', L, E, ce, h0, X', hL, e1, e2, ⟨u, hp, hb, hF⟩, hce, hcv, hcl, st⟩
  · cases hv
    obtain ⟨k1, k2, k3⟩ := vx_keep h0 e1 hS hA hf hL hF
    obtain ⟨t2, a1, b1⟩ := kk r u t T'.heap (locs ++ L) e1.symm (by rw [← e2]; exact X'.warmed.alike) hp hb k1 k2 k3 T' rfl X'
    exact ⟨t2, st t2 a1, b1⟩
  · obtain ⟨k1, k2, k3⟩ := vx_keep h0 e1 hS hAX hf hL hF
    obtain ⟨t2, a1, b1⟩ := kx E ce q u t T'.heap (locs ++ L) e1.symm (by rw [← e2]; exact X'.warmed.alike) hp hb k1 k2 k3 (by rw [e1]; exact hce) hcv hcl T' rfl X'
    exact ⟨t2, st.trans a1, b1⟩
theorem vx_callv {S SX : Type} {post : S → Prop} {px : SX → Prop} {B : S → State → Prop} {BX : String → SX → State → Prop} {AX : Nat → Prop} (hr : vx_Run p l e R s m args below meth c H locs cells slots mc ms (F0 m pc ls st0) rest (va_Qv post B A1 a) (vx_X px BX AX) free) (hS : va_S A0 H0 H locs) (hA : ∀ q, q < H.size → A1 q → A0 q) (hf : ∀ q, free q → A0 q) (hAX : ∀ q, q < H.size → AX q → A0 q)
    (kx : ∀ (E : String) (ce : Cell) (q9 : Addr) (u : SX) (t : State) (H1 : Heap) (locs1 : List Loc), t.heap = H1 → s.vm.Alike t.vm → px u → BX E u t → H.size ≤ H1.size → (∀ q : Nat, q < H.size → ¬ AX q → H1[q]? = H[q]?) → va_S A0 H0 H1 locs1 → H1[q9]? = some ce → ce.vm = .none → s.vm.findClass E = some ce.cls → vx_W p l e R s m args below meth c H1 locs1 (cells + mc) (slots + ms) Q (F0 m pc ls rest) q9)
    (kk : ∀ (u : S) (t : State) (H1 : Heap) (locs1 : List Loc), t.heap = H1 → s.vm.Alike t.vm → post u → B u t → H.size ≤ H1.size → (∀ q : Nat, q < H.size → ¬ A1 q → H1[q]? = H[q]?) → va_S A0 H0 H1 locs1 → W p l e R s m args below meth c H1 locs1 (cells + mc) (slots + ms) Q (F0 m (pc + 3) ls (rest))) : W p l e R s m args below meth c H locs cells slots Q (F0 m pc ls st0) := by
  intro T hT X
  rcases hr T hT X with ⟨v, st₀, t, T', L, h0, X', hL, e1, e2, ⟨⟨u, hv, hp, hb⟩, hF⟩, st⟩ | ⟨q, st₀, t, T', L, E, ce, h0, X', hL, e1, e2, ⟨u, hp, hb, hF⟩, hce, hcv, hcl, st⟩
  · cases hv
    obtain ⟨k1, k2, k3⟩ := vx_keep h0 e1 hS hA hf hL hF
    obtain ⟨t2, a1, b1⟩ := kk u t T'.heap (locs ++ L) e1.symm (by rw [← e2]; exact X'.warmed.alike) hp hb k1 k2 k3 T' rfl X'
    exact ⟨t2, st t2 a1, b1⟩
  · obtain ⟨k1, k2, k3⟩ := vx_keep h0 e1 hS hAX hf hL hF
    obtain ⟨t2, a1, b1⟩ := kx E ce q u t T'.heap (locs ++ L) e1.symm (by rw [← e2]; exact X'.warmed.alike) hp hb k1 k2 k3 (by rw [e1]; exact hce) hcv hcl T' rfl X'
    exact ⟨t2, st.trans a1, b1⟩
/-- caught by the row x of this method's table; the rows ahead don't take it -/
theorem vx_catch {own name : String} {E : String} {ce : Cell} {q : Addr} (hown : s.vm.findClass own = some m.cls) (pre : List ExceptionTableEntry) (x : ExceptionTableEntry) (suf : List ExceptionTableEntry) (hsplit : c.exceptionTable.toList = pre ++ x :: suf)
    (hpass : ∀ z ∈ pre, covers z pc = false ∨ (z.catchType ≠ 0 ∧ ∃ nm : String, (Cond.classLink own z.catchType nm).before args s = true ∧ va_Nc E nm s)) (hx : covers x pc = true) (h0 : x.catchType ≠ 0)
    (hlink : (Cond.classLink own x.catchType name).before args s = true) (hcast : (Cond.castable E name).before args s = true) (hcell : H[q]? = some ce) (hv : ce.vm = .none) (hcl : s.vm.findClass E = some ce.cls)
    (kk : W p l e R s m args below meth c H locs cells slots Q (F0 m x.handlerPc ls [.ref q])) : vx_W p l e R s m args below meth c H locs cells slots Q (F0 m pc ls rest) q := by
  intro T hT X
  have hpl : e.platform.magicAccessors = ({} : Platform).magicAccessors := by rw [X.admits.platform]
  obtain ⟨c3, c4, hc3, hc4, hasg⟩ := Cond.castable_spec hcast
  cases Option.some.inj (hc3.symm.trans hcl)
  obtain ⟨c5, hc5, hcl5⟩ := Cond.classLink_spec hown hlink e.platform hpl
  cases Option.some.inj (hc4.symm.trans hc5)
  obtain ⟨vm', X', st⟩ := X.thenCaughtThrough q (g := F0 m pc ls rest) rfl (Steps.refl _) (by rw [hT]; exact hcell) (by rw [hv]; rfl) (by obtain ⟨k9, h9, -⟩ := Vm.findClass_spec hcl; exact ⟨k9, h9⟩) pre x suf hsplit
    (fun z hz => by
      rcases hpass z hz with h | ⟨hz0, nm, hl1, hn1⟩
      · exact Or.inl h
      · obtain ⟨c6, hc6, hcl6⟩ := Cond.classLink_spec hown hl1 e.platform hpl
        obtain ⟨a8, b8, h1, h2, h3⟩ := hn1
        cases Option.some.inj (h1.symm.trans hcl)
        cases Option.some.inj (h2.symm.trans hc6)
        exact Or.inr ⟨hz0, _, hcl6, h3⟩) hx (Or.inr ⟨h0, c4, hcl5, hasg⟩)
  obtain ⟨t, a1, b1⟩ := kk (T.setVm vm') hT X'
  exact ⟨t, st.trans a1, b1⟩
end Rows
section Ends
variable {p : Program} {l : Launch} {e : Env} {R : Room} {s : State} {m : MethodId} {args : Array Value} {below : List Frame} {meth : Method} {c : Code} {H : Heap} {locs : List Loc} {cells slots : Nat} {Q : State → Prop}
variable {mc ms : Nat} {free : Addr → Prop} {A0 A1 : Nat → Prop} {H0 : Heap} {a : Array Value} {ls : Array Slot} {st0 rest : List Value}
variable {Qc : Array Value → State → Outcome → State → Prop} {XC : String → State → State → Prop}
/-- what a body that may throw owes at its end -/
def vx_MQ (below : List Frame) (Qc : Array Value → State → Outcome → State → Prop) (XC : String → State → State → Prop) (a : Array Value) (s : State) (mc ms : Nat) (free : Addr → Prop) : State → Prop := fun t =>
  ∃ o, t.status = .running ∧ Ended t below o ∧ vx_Q Qc XC mc ms free a s o t
theorem vx_ret {g : JFrame} {mc ms : Nat} (k : W p l e R s m args below meth c H locs cells slots (MQ below Qc args s mc ms free) g) : W p l e R s m args below meth c H locs cells slots (vx_MQ below Qc XC args s mc ms free) g := by
  intro T hT X
  obtain ⟨t, a1, o, b1, b2, b3, b4⟩ := k T hT X
  exact ⟨t, a1, o, b1, b2, Or.inl ⟨b3, b4⟩⟩
/-- not caught here: it goes on to the caller -/
theorem vx_widen {g : JFrame} {q : Addr} {k n : Nat} (h1 : cells ≤ k) (h2 : slots ≤ n) (kk : vx_W p l e R s m args below meth c H locs k n Q g q) : vx_W p l e R s m args below meth c H locs cells slots Q g q := fun T hT X => kk T hT (stand_widen X h1 h2)
theorem vx_out {pc : Nat} {E : String} {ce : Cell} {q : Addr} {mc ms : Nat} (hout : ∀ x ∈ c.exceptionTable.toList, covers x pc = false) (hlocks : meth.locks = false) (hcell : H[q]? = some ce) (hv : ce.vm = .none) (hcl : s.vm.findClass E = some ce.cls)
    (hx : ∀ t : State, t.heap = H → s.vm.Alike t.vm → XC E s t) (hf : ∀ z ∈ locs, free z.base) (hc : cells ≤ mc) (hs : slots ≤ ms) :
    vx_W p l e R s m args below meth c H locs cells slots (vx_MQ below Qc XC args s mc ms free) (F0 m pc ls rest) q := by
  intro T hT X
  obtain ⟨st1, hrun, hend, hW, hsm⟩ := X.leaveThrown q (g := F0 m pc ls rest) rfl rfl rfl hout hlocks
  have hcell9 : (T.setFrames (.throwing q :: below)).heap[q]? = some ce := by
    show T.heap[q]? = some ce
    rw [hT]; exact hcell
  exact ⟨_, st1, .threw q, hrun, hend, Or.inr ⟨q, rfl, E, ce, locs, hx _ hT hW.alike, hcell9, hv, hcl, hW, hsm.mono hc hs, hf⟩⟩
theorem vx_frame {U : State} {k n : Nat} (h : s.sameButNew ({ U with vm := s.vm } : State) locs k n) : s.heap.size ≤ U.heap.size ∧ ∀ q : Nat, q < s.heap.size → (∀ z ∈ locs, z.base ≠ q) → U.heap[q]? = s.heap[q]? := by
  obtain ⟨-, h2, -, -, -, h6⟩ := h
  refine ⟨h2, fun q hq hz => ?_⟩
  obtain ⟨c9, e1, e2, e3, e4⟩ := h6 q _ (Array.getElem?_eq_getElem hq)
  have hs : c9.slots = (s.heap[q]).slots := Array.ext_getElem? fun i => e4 i fun hm => hz _ hm rfl
  have h9 : c9 = s.heap[q] := by
    rw [hs] at e2
    exact e2
  have e5 : U.heap[q]? = some c9 := e1
  rw [e5, h9, Array.getElem?_eq_getElem hq]
/-- the words of a throw but the four that speak of the heap -/
def vx_no (w : Cond) : Bool := decide (w ≠ .isRef (.static Bundle.tN "UNASSIGNED_STACK" Bundle.steD)) && decide (w ≠ .isRef (.static Bundle.tN "SUPPRESSED_SENTINEL" Bundle.listD)) && decide (w ≠ .laysStatic Bundle.tN "UNASSIGNED_STACK" Bundle.steD) && decide (w ≠ .laysStatic Bundle.tN "SUPPRESSED_SENTINEL" Bundle.listD)
def vx_at0 (own : String) (ic : Nat) (X : String) (names : List String) : List Cond := (Bundle.ownAtoms0 own ic X names).filter vx_no
def vx_atS (own : String) (ic : Nat) (X : String) (names : List String) : List Cond := (Bundle.ownAtoms own ic X names).filter vx_no
/-- a word that the tables alone decide, or a good one -/
def vx_ot (w : Cond) : Bool := w.onTables || goodWord w
theorem vx_ot_at {args a' : Array Value} {s U : State} {w : Cond} (hW : s.WarmedH U.vm) (hvm : s.vm = U.vm) (hg : vx_ot w = true) (h : w.before args s = true) : w.before a' U = true := by
  simp only [vx_ot, Bool.or_eq_true] at hg
  rcases hg with hg | hg
  · exact va_tabs hg hvm h
  · exact word_at hW (good_of_word hg) h
/-- a list's words: the good ones out of the method's own list, the others by premises of their own -/
theorem vx_hat {args : Array Value} {s : State} {L B : List Cond} (h1 : ∀ w ∈ L.filter goodWord, w.before args s = true) (h2 : ∀ w ∈ L.filter (fun w => !goodWord w), w ∈ B) (h3 : ∀ w ∈ B, w.before args s = true) : ∀ w ∈ L, w.before args s = true := by
  intro w hw
  by_cases g : goodWord w = true
  · exact h1 w (List.mem_filter.mpr ⟨hw, g⟩)
  · refine h3 w (h2 w (List.mem_filter.mpr ⟨hw, ?_⟩))
    show (!goodWord w) = true
    cases hgw : goodWord w
    · rfl
    · exact absurd hgw g
theorem vx_c {args : Array Value} {s : State} {w : Cond} {B : List Cond} (h : w.before args s = true) (t : ∀ w ∈ B, w.before args s = true) : ∀ w' ∈ w :: B, w'.before args s = true := fun w' h' => (List.mem_cons.mp h').elim (fun e => by rw [e]; exact h) (t w')
theorem vx_n {args : Array Value} {s : State} : ∀ w ∈ ([] : List Cond), w.before args s = true := fun _ h => nomatch h
theorem vx_own {args : Array Value} {s : State} {L : List Cond} (h1 : ∀ w ∈ L.filter vx_no, w.before args s = true)
    (hU : (Cond.isRef (.static Bundle.tN "UNASSIGNED_STACK" Bundle.steD)).before args s = true) (hN : (Cond.isRef (.static Bundle.tN "SUPPRESSED_SENTINEL" Bundle.listD)).before args s = true)
    (lU : (Cond.laysStatic Bundle.tN "UNASSIGNED_STACK" Bundle.steD).before args s = true) (lN : (Cond.laysStatic Bundle.tN "SUPPRESSED_SENTINEL" Bundle.listD).before args s = true) : ∀ w ∈ L, w.before args s = true := by
  intro w hw
  by_cases e1 : w = .isRef (.static Bundle.tN "UNASSIGNED_STACK" Bundle.steD)
  · rw [e1]; exact hU
  · by_cases e2 : w = .isRef (.static Bundle.tN "SUPPRESSED_SENTINEL" Bundle.listD)
    · rw [e2]; exact hN
    · by_cases e3 : w = .laysStatic Bundle.tN "UNASSIGNED_STACK" Bundle.steD
      · rw [e3]; exact lU
      · by_cases e4 : w = .laysStatic Bundle.tN "SUPPRESSED_SENTINEL" Bundle.listD
        · rw [e4]; exact lN
        · exact h1 w (List.mem_filter.mpr ⟨hw, by unfold vx_no; rw [decide_eq_true e1, decide_eq_true e2, decide_eq_true e3, decide_eq_true e4]; rfl⟩)
/-- where a static field lies, its class's statics cell in H -/
def vx_L (C n d : String) (A : Nat → Prop) (U : State) (H : Heap) : Prop := ∃ (c : ClassId) (k : Class) (i : Nat) (f : Field) (a : Nat) (cell : Cell), U.vm.findClass C = some c ∧ U.fieldFound? C n d = some (c, k, i, f) ∧ f.isStatic = true ∧ k.statics = some a ∧ H[a]? = some cell ∧ cell.vm.isStatics = true ∧ cell.cls = c ∧ f.slot < cell.slots.size ∧ k.staticTypes[f.slot]? = some f.type ∧ ¬ A a
theorem vx_L.moved {C n d : String} {A : Nat → Prop} {u U : State} {H : Heap} (hvm : u.vm.Alike U.vm) (h : vx_L C n d A u H) : vx_L C n d A U H := by
  obtain ⟨c, k, i, f, a, cell, h1, h2, h3, h4, h5, h6, h7, h8, h9, h10⟩ := h
  obtain ⟨k', hi', he⟩ := State.fieldFound?_setVm hvm h2
  exact ⟨c, k', i, f, a, cell, by rw [hvm.findClass]; exact h1, hi', h3, by rw [he]; exact h4, h5, h6, h7, h8, by rw [he]; exact h9, h10⟩
theorem vx_L.kept {C n d : String} {A : Nat → Prop} {U : State} {H H1 : Heap} (h : vx_L C n d A U H) (hq : ∀ a : Nat, a < H.size → ¬ A a → H1[a]? = H[a]?) : vx_L C n d A U H1 := by
  obtain ⟨c, k, i, f, a, cell, h1, h2, h3, h4, h5, h6, h7, h8, h9, h10⟩ := h
  exact ⟨c, k, i, f, a, cell, h1, h2, h3, h4, by rw [hq a (Array.getElem?_eq_some_iff.mp h5).1 h10]; exact h5, h6, h7, h8, h9, h10⟩
theorem vx_L.narrow {C n d : String} {A B : Nat → Prop} {U : State} {H : Heap} (h : vx_L C n d A U H) (hAB : ∀ q, B q → A q) : vx_L C n d B U H := by
  obtain ⟨c, k, i, f, a, cell, h1, h2, h3, h4, h5, h6, h7, h8, h9, h10⟩ := h
  exact ⟨c, k, i, f, a, cell, h1, h2, h3, h4, h5, h6, h7, h8, h9, fun z => h10 (hAB _ z)⟩
theorem vx_L.word {C n d : String} {A : Nat → Prop} {s : State} {args : Array Value} (h : vx_L C n d A s s.heap) : (Cond.laysStatic C n d).before args s = true := by
  obtain ⟨c, k, i, f, a, cell, h1, h2, h3, h4, h5, h6, h7, h8, h9, -⟩ := h
  show (Cond.laysStatic C n d).holds args s none s [] = true
  exact Cond.laysStatic_of h1 h2 h3 h4 h5 h6 h7 h8 h9
/-- .. and what it holds: null or some reference -/
def vx_Zq (C n d : String) (A : Nat → Prop) (U : State) (H : Heap) : Prop := va_Zq C n d A U H ∧ vx_L C n d A U H
theorem vx_Zq.moved {C n d : String} {A : Nat → Prop} {u U : State} {H : Heap} (hvm : u.vm.Alike U.vm) (h : vx_Zq C n d A u H) : vx_Zq C n d A U H := ⟨va_Zq.moved hvm h.1, vx_L.moved hvm h.2⟩
theorem vx_Zq.kept {C n d : String} {A : Nat → Prop} {U : State} {H H1 : Heap} (h : vx_Zq C n d A U H) (hq : ∀ a : Nat, a < H.size → ¬ A a → H1[a]? = H[a]?) : vx_Zq C n d A U H1 := ⟨va_Zq.kept h.1 hq, vx_L.kept h.2 hq⟩
theorem vx_Zq.narrow {C n d : String} {A B : Nat → Prop} {U : State} {H : Heap} (h : vx_Zq C n d A U H) (hAB : ∀ q, B q → A q) : vx_Zq C n d B U H := ⟨va_Zq.narrow h.1 hAB, vx_L.narrow h.2 hAB⟩
theorem vx_Zqof {args : Array Value} {s : State} {C n d : String} {A : Nat → Prop} (hl : (Cond.laysStatic C n d).before args s = true) (hini : (Cond.initialized C).before args s = true) (h : (Cond.isRef (.static C n d)).before args s = true) (hA : ∀ a : Nat, a < s.heap.size → ¬ A a) : vx_Zq C n d A s s.heap := by
  refine ⟨va_Zqof hl hini h hA, ?_⟩
  obtain ⟨c, k, i, f, a, cell, h1, h2, h3, h4, h5, h6, h7, h8, h9⟩ := Cond.laysStatic_spec hl
  exact ⟨c, k, i, f, a, cell, h1, h2, h3, h4, h5, h6, h7, h8, h9, hA a (Array.getElem?_eq_some_iff.mp h5).1⟩
theorem vx_isRef {C n d : String} {v : Value} {A : Nat → Prop} {s : State} {args : Array Value} (h : va_Z C n d v A s s.heap) (hv : v.isRef = true) : (Cond.isRef (.static C n d)).before args s = true := by
  obtain ⟨cf, kf, fi, f, a, cell, h1, h2, h3, h4, h5, h6, h7, -⟩ := h
  have he : (Term.static C n d).eval args s none [] s = some v := by
    simp [Term.eval, State.fieldNamed?, h1, h2, h4, h5, h6, h7]
  simp only [Cond.before, Cond.holds, Cond.value, he]
  cases v <;> simp_all [Value.isRef]
theorem vx_isRefq {C n d : String} {A : Nat → Prop} {s : State} {args : Array Value} (h : va_Zq C n d A s s.heap) : (Cond.isRef (.static C n d)).before args s = true := by
  rcases h with h | ⟨t, h⟩
  · exact vx_isRef h rfl
  · exact vx_isRef h rfl
/-- the same frame, seen from here: as if the method were called anew in this heap -/
theorem vx_rebase {T : State} (X : Stand p l e R s m args below meth c T locs cells slots) {R' : Room} (hf : R'.frames ≤ R.frames) (hl : R'.locals ≤ R.locals) (hc : cells + R'.cells ≤ R.cells) (hs : slots + R'.slots ≤ R.slots) :
    Stand p l e R' ((T.setVm s.vm).setFrames (.invoking m args :: below)) m args below meth c T [] 0 0 := by
  have htop : (T.setVm s.vm).topJava?.isSome := X.here.top
  have hF : ((T.setVm s.vm).setFrames (.invoking m args :: below)).frames = .invoking m args :: below := State.frames_setFrames _ (State.cur_lt_of_top htop)
  obtain ⟨g₀, hg0⟩ := Option.isSome_iff_exists.mp htop
  obtain ⟨r, hr⟩ := State.topJava?_eq_some.mp hg0
  have hl9 : e.platform.stackLimits (T.setVm s.vm).me = e.platform.stackLimits s.me := X.limits
  have hb9 : (T.setVm s.vm).me.stackBytes = s.me.stackBytes := X.bytes
  refine ⟨X.admits, X.cas, X.clock, hF, ?_, X.hears, X.method, X.code, X.here, X.tail, X.warmed, ?_, ?_, ?_⟩
  · have h := X.room
    have hU : ((T.setVm s.vm).setFrames (.invoking m args :: below)).localsInUse = s.localsInUse := by
      rw [State.localsInUse_invoking hF (meth := meth) (c := c) X.method X.code, State.localsInUse_invoking X.frames X.method X.code]
    simp only [State.hasRoom, Bool.and_eq_true, decide_eq_true_eq] at h ⊢
    obtain ⟨⟨⟨⟨h1, h2, h3, h4, h5, h6⟩, h7⟩, h8⟩, h9⟩ := h
    rw [X.frames, List.length_cons] at h2 h3
    have q1 := X.heapSize
    have q2 := X.used
    simp only [hF, hU, List.length_cons, State.stackLimits_setFrames, State.stackBytes_setFrames, hl9, hb9]
    refine ⟨⟨⟨⟨by omega, by omega, by omega, by omega, by omega, h6⟩, ?_⟩, ?_⟩, X.book⟩
    · show T.heap.size + R'.cells ≤ e.platform.maxCells
      omega
    · show T.slotsUsed + R'.slots ≤ e.platform.maxSlots
      omega
  · rw [State.stackLimits_setFrames]; rfl
  · rw [State.stackBytes_setFrames]; rfl
  · refine ⟨?_, Nat.le_refl _, Nat.le_refl _, ?_, ?_, fun a c9 h9 => ⟨c9, h9, rfl, rfl, fun _ _ => rfl⟩⟩
    · obtain ⟨t, ht, -⟩ := State.frames_cons hr
      show T.setVm s.vm = { ((T.setVm s.vm).setFrames (.invoking m args :: below)).setFrames (T.setVm s.vm).frames with heap := T.heap, slotsUsed := T.slotsUsed }
      rw [State.setFrames_setFrames, State.setFrames_self ht]
      rfl
    · show T.slotsUsed = T.slotsUsed + ((T.heap.toList.drop T.heap.size).map (·.slots.size)).sum
      rw [List.drop_eq_nil_of_le (Nat.le_of_eq Array.length_toList)]
      rfl
    · show ((T.heap.toList.drop T.heap.size).map (·.slots.size)).sum ≤ 0
      rw [List.drop_eq_nil_of_le (Nat.le_of_eq Array.length_toList)]
      exact Nat.le_refl _
/-- 'throw new E()': new; dup; invokespecial; athrow -/
theorem vx_throw0 {cc : ByteArray} {pc : Nat} (hexec : p.tables.exec = Jvm.exec) (hb : c.code = cc) (hl : l.stackTraces = false) {own cls : String} {names : List String} {ik ic mc ms : Nat} {A : Nat → Prop}
    (hown : s.vm.findClass own = some m.cls) (hcls : Bundle.fit cls = true) (hnames : ∀ n ∈ names, Bundle.fit n = true)
    (hk : (Cond.classLink own ik cls).before args s = true) (hini : (Cond.initialized cls).before args s = true) (hat : ∀ w ∈ vx_at0 own ic cls names, w.before args s = true)
    (hgood : ∀ w ∈ Cond.classLink own ik cls :: Cond.initialized cls :: vx_at0 own ic cls names, vx_ot w = true)
    (hU : vx_Zq Bundle.tN "UNASSIGNED_STACK" Bundle.steD A s s.heap) (hN : vx_Zq Bundle.tN "SUPPRESSED_SENTINEL" Bundle.listD A s s.heap) (hS : va_S A s.heap H locs) (hsize : ls.size = c.maxLocals)
    (d0 : decode cc pc = .ok (.new ik, 3)) (d3 : decode cc (pc + 3) = .ok (.dup, 1)) (d4 : decode cc (pc + 4) = .ok (.invokespecial ic, 3)) (d7 : decode cc (pc + 7) = .ok (.athrow, 1))
    (hout : ∀ x ∈ c.exceptionTable.toList, covers x (pc + 7) = false)
    (hRframes : names.length + 3 < R.frames) (hRlocals : (rest.map fun v => v.category).sum + (13 * (names.length + 1) + 42) ≤ R.locals) (hRcells : cells + 1 ≤ R.cells) (hRslots : slots + 6 ≤ R.slots) (hlocks : meth.locks = false)
    (hx : ∀ t : State, s.vm.Alike t.vm → H.size ≤ t.heap.size → (∀ q : Nat, q < H.size → t.heap[q]? = H[q]?) → XC cls s t)
    (hf : ∀ z ∈ locs, free z.base) (hc : cells + 1 ≤ mc) (hs : slots + 6 ≤ ms) :
    W p l e R s m args below meth c H locs cells slots (vx_MQ below Qc XC args s mc ms free) (F0 m pc ls rest) := by
  intro T hT X
  have htr : e.platform.stackTraces = false := (show e.platform.stackTraces = l.stackTraces by rw [X.admits.platform]).trans hl
  have Y := vx_rebase X (R' := { frames := R.frames, locals := R.locals, cells := 1, slots := 6 }) (Nat.le_refl _) (Nat.le_refl _) hRcells hRslots
  obtain ⟨s', hA⟩ : ∃ z, z = (T.setVm s.vm).setFrames (.invoking m args :: below) := ⟨_, rfl⟩
  rw [← hA] at Y
  have hvm : s'.vm = s.vm := by rw [hA]; rfl
  have hhp : s'.heap = H := by rw [hA]; exact hT
  have hW0 : s.WarmedH s'.vm := by rw [hvm]; exact State.WarmedH.refl s
  have hat' : ∀ w ∈ vx_at0 own ic cls names, w.before args s' = true := fun w hw => vx_ot_at hW0 hvm.symm (hgood w (List.mem_cons_of_mem _ (List.mem_cons_of_mem _ hw))) (hat w hw)
  have hk' : (Cond.classLink own ik cls).before args s' = true := vx_ot_at hW0 hvm.symm (hgood _ List.mem_cons_self) hk
  have hini' : (Cond.initialized cls).before args s' = true := vx_ot_at hW0 hvm.symm (hgood _ (List.mem_cons_of_mem _ List.mem_cons_self)) hini
  have hU' : vx_Zq Bundle.tN "UNASSIGNED_STACK" Bundle.steD A s' s'.heap := by rw [hhp]; exact vx_Zq.moved hW0.alike (hU.kept hS.2.1)
  have hN' : vx_Zq Bundle.tN "SUPPRESSED_SENTINEL" Bundle.listD A s' s'.heap := by rw [hhp]; exact vx_Zq.moved hW0.alike (hN.kept hS.2.1)
  have h : ∀ w ∈ Bundle.ownAtoms0 own ic cls names, w.before args s' = true := vx_own hat' (vx_isRefq hU'.1) (vx_isRefq hN'.1) hU'.2.word hN'.2.word
  have hown' : s'.vm.findClass own = some m.cls := by rw [hvm]; exact hown
  have hins : (Cond.instantiable cls 6).before args s' = true := h _ (by simp [Bundle.ownAtoms0])
  obtain ⟨vm₁, cX, kX, hfX, hkX, -, -, X₁, st1⟩ := Y.newCold hexec (own := own) (C := cls) (index := ik) (n := 6) hown' hk' hins hini'
    (g := F0 m pc ls rest) rfl (by rw [hb]; exact d0) (Nat.le_refl _) (Nat.le_refl _)
  generalize hT1 : (T.setVm vm₁).pushCell { cls := cX, slots := kX.instanceTypes.map defaultValue, vm := .none } = T1 at X₁ st1
  have hcat : (Value.ref T.heap.size).category = 1 := rfl
  have hcellA : T1.heap[T.heap.size]? = some (freshCell cX kX) := by rw [← hT1]; exact State.heap_pushCell_size _ _
  have d3' : decode c.code (pc + 3) = .ok (.dup, 1) := by rw [hb]; exact d3
  obtain ⟨U, hsteps, hrun, hend, hW, hsame, ce, hce, hO⟩ := X₁.ctorThrow0 hexec htr (own := own) (cls := cls) (names := names) (ic := ic) hown' hcls hnames h (fun x hx => nomatch hx) hfX hkX hcellA (by rw [hhp, hT]; exact Nat.le_refl _)
    (g := { method := m, pc := pc + 4, locals := ls, stack := .ref T.heap.size :: .ref T.heap.size :: rest, locked := none }) rfl hsize rfl rfl (rest := rest) rfl
    (by rw [hb]; exact d4) (by rw [hb]; exact d7) hout hRframes (by simp only [List.map_cons, List.sum_cons, hcat]; omega) hlocks
  obtain ⟨f1, f2⟩ := vx_frame hsame
  rw [hhp] at f1 f2
  have hWs : s.WarmedH U.vm := State.WarmedH.trans hW0 hW
  have hcl : s.vm.findClass cls = some ce.cls := by
    have h9 := hO.cls
    rw [hvm] at h9
    exact h9
  have hall : s.sameButNew ({ U with vm := s.vm } : State) locs mc ms := by
    subst hA
    obtain ⟨e1, e2⟩ := hsame
    rw [State.setFrames_setFrames] at e1
    have h2 : (T.setVm s.vm).sameButNew ({ U with vm := s.vm } : State) [] (0 + 1) (0 + 6) := ⟨e1, e2⟩
    have h3 := X.same.trans h2
    rw [List.append_nil] at h3
    exact h3.mono hc hs
  refine ⟨U, ?_, .threw T.heap.size, hrun, hend, Or.inr ⟨T.heap.size, rfl, cls, ce, locs, hx U hWs.alike f1 (fun q hq => f2 q hq (fun z hz => nomatch hz)), hce, hO.vm, hcl, hWs, hall, hf⟩⟩
  refine st1 _ ?_
  show Steps p.tables e below (T1.setTop { method := m, pc := pc + 3, locals := ls, stack := .ref T.heap.size :: rest, locked := none }) _
  jvm_step X₁.here [X₁.here.top, hexec, d3', Value.category]
  exact hsteps
/-- 'throw new E("text")': new; dup; ldc; invokespecial; athrow -/
theorem vx_throwS {cc : ByteArray} {pc : Nat} (hexec : p.tables.exec = Jvm.exec) (hb : c.code = cc) (hl : l.stackTraces = false) {own cls text : String} {names : List String} {ik is ic mc ms sa : Nat} {A : Nat → Prop}
    (hown : s.vm.findClass own = some m.cls) (hcls : Bundle.fit cls = true) (hnames : ∀ n ∈ names, Bundle.fit n = true)
    (hk : (Cond.classLink own ik cls).before args s = true) (hini : (Cond.initialized cls).before args s = true) (hstr : vk_R own is text sa s) (hat : ∀ w ∈ vx_atS own ic cls names, w.before args s = true)
    (hgood : ∀ w ∈ Cond.classLink own ik cls :: Cond.initialized cls :: vx_atS own ic cls names, vx_ot w = true)
    (hU : vx_Zq Bundle.tN "UNASSIGNED_STACK" Bundle.steD A s s.heap) (hN : vx_Zq Bundle.tN "SUPPRESSED_SENTINEL" Bundle.listD A s s.heap) (hS : va_S A s.heap H locs) (hsize : ls.size = c.maxLocals)
    (d0 : decode cc pc = .ok (.new ik, 3)) (d3 : decode cc (pc + 3) = .ok (.dup, 1)) (d4 : decode cc (pc + 4) = .ok (.ldc is, 2)) (d6 : decode cc (pc + 6) = .ok (.invokespecial ic, 3)) (d9 : decode cc (pc + 9) = .ok (.athrow, 1))
    (hout : ∀ x ∈ c.exceptionTable.toList, covers x (pc + 9) = false)
    (hRframes : names.length + 3 < R.frames) (hRlocals : (rest.map fun v => v.category).sum + (13 * (names.length + 1) + 43) ≤ R.locals) (hRcells : cells + 1 ≤ R.cells) (hRslots : slots + 6 ≤ R.slots) (hlocks : meth.locks = false)
    (hx : ∀ t : State, s.vm.Alike t.vm → H.size ≤ t.heap.size → (∀ q : Nat, q < H.size → t.heap[q]? = H[q]?) → XC cls s t)
    (hf : ∀ z ∈ locs, free z.base) (hc : cells + 1 ≤ mc) (hs : slots + 6 ≤ ms) :
    W p l e R s m args below meth c H locs cells slots (vx_MQ below Qc XC args s mc ms free) (F0 m pc ls rest) := by
  intro T hT X
  have htr : e.platform.stackTraces = false := (show e.platform.stackTraces = l.stackTraces by rw [X.admits.platform]).trans hl
  have Y := vx_rebase X (R' := { frames := R.frames, locals := R.locals, cells := 1, slots := 6 }) (Nat.le_refl _) (Nat.le_refl _) hRcells hRslots
  obtain ⟨s', hA⟩ : ∃ z, z = (T.setVm s.vm).setFrames (.invoking m args :: below) := ⟨_, rfl⟩
  rw [← hA] at Y
  have hvm : s'.vm = s.vm := by rw [hA]; rfl
  have hhp : s'.heap = H := by rw [hA]; exact hT
  have hW0 : s.WarmedH s'.vm := by rw [hvm]; exact State.WarmedH.refl s
  have hat' : ∀ w ∈ vx_atS own ic cls names, w.before args s' = true := fun w hw => vx_ot_at hW0 hvm.symm (hgood w (List.mem_cons_of_mem _ (List.mem_cons_of_mem _ hw))) (hat w hw)
  have hk' : (Cond.classLink own ik cls).before args s' = true := vx_ot_at hW0 hvm.symm (hgood _ List.mem_cons_self) hk
  have hini' : (Cond.initialized cls).before args s' = true := vx_ot_at hW0 hvm.symm (hgood _ (List.mem_cons_of_mem _ List.mem_cons_self)) hini
  have hU' : vx_Zq Bundle.tN "UNASSIGNED_STACK" Bundle.steD A s' s'.heap := by rw [hhp]; exact vx_Zq.moved hW0.alike (hU.kept hS.2.1)
  have hN' : vx_Zq Bundle.tN "SUPPRESSED_SENTINEL" Bundle.listD A s' s'.heap := by rw [hhp]; exact vx_Zq.moved hW0.alike (hN.kept hS.2.1)
  have h : ∀ w ∈ Bundle.ownAtoms own ic cls names, w.before args s' = true := vx_own hat' (vx_isRefq hU'.1) (vx_isRefq hN'.1) hU'.2.word hN'.2.word
  have hown' : s'.vm.findClass own = some m.cls := by rw [hvm]; exact hown
  have hins : (Cond.instantiable cls 6).before args s' = true := h _ (by simp [Bundle.ownAtoms])
  obtain ⟨vm₁, cX, kX, hfX, hkX, -, -, X₁, st1⟩ := Y.newCold hexec (own := own) (C := cls) (index := ik) (n := 6) hown' hk' hins hini'
    (g := F0 m pc ls rest) rfl (by rw [hb]; exact d0) (Nat.le_refl _) (Nat.le_refl _)
  generalize hT1 : (T.setVm vm₁).pushCell { cls := cX, slots := kX.instanceTypes.map defaultValue, vm := .none } = T1 at X₁ st1
  have hcat : (Value.ref T.heap.size).category = 1 := rfl
  have hcellA : T1.heap[T.heap.size]? = some (freshCell cX kX) := by rw [← hT1]; exact State.heap_pushCell_size _ _
  have d3' : decode c.code (pc + 3) = .ok (.dup, 1) := by rw [hb]; exact d3
  have d4' : decode c.code (pc + 4) = .ok (.ldc is, 2) := by rw [hb]; exact d4
  have hstr' : vk_R own is text sa s' := vk_R.warm hW0 hstr
  obtain ⟨U, hsteps, hrun, hend, hW, hsame, ce, hce, hO⟩ := X₁.ctorThrowS hexec htr (own := own) (cls := cls) (names := names) (ic := ic) hown' hcls hnames h (fun x hx => nomatch hx) hfX hkX hcellA (by rw [hhp, hT]; exact Nat.le_refl _) (msg := .ref sa) rfl
    (g := { method := m, pc := pc + 6, locals := ls, stack := .ref sa :: .ref T.heap.size :: .ref T.heap.size :: rest, locked := none }) rfl hsize rfl rfl (rest := rest) rfl
    (by rw [hb]; exact d6) (by rw [hb]; exact d9) hout hRframes (by simp only [List.map_cons, List.sum_cons, hcat]; omega) hlocks
  obtain ⟨f1, f2⟩ := vx_frame hsame
  rw [hhp] at f1 f2
  have hWs : s.WarmedH U.vm := State.WarmedH.trans hW0 hW
  have hcl : s.vm.findClass cls = some ce.cls := by
    have h9 := hO.cls
    rw [hvm] at h9
    exact h9
  have hall : s.sameButNew ({ U with vm := s.vm } : State) locs mc ms := by
    subst hA
    obtain ⟨e1, e2⟩ := hsame
    rw [State.setFrames_setFrames] at e1
    have h2 : (T.setVm s.vm).sameButNew ({ U with vm := s.vm } : State) [] (0 + 1) (0 + 6) := ⟨e1, e2⟩
    have h3 := X.same.trans h2
    rw [List.append_nil] at h3
    exact h3.mono hc hs
  refine ⟨U, ?_, .threw T.heap.size, hrun, hend, Or.inr ⟨T.heap.size, rfl, cls, ce, locs, hx U hWs.alike f1 (fun q hq => f2 q hq (fun z hz => nomatch hz)), hce, hO.vm, hcl, hWs, hall, hf⟩⟩
  refine st1 _ ?_
  show Steps p.tables e below (T1.setTop { method := m, pc := pc + 3, locals := ls, stack := .ref T.heap.size :: rest, locked := none }) _
  jvm_step X₁.here [X₁.here.top, hexec, d3', Value.category]
  exact X₁.ldcString hexec (own := own) (text := text) (index := is) (a := sa) hown' hstr'.1 hstr'.2
    (g := { method := m, pc := pc + 4, locals := ls, stack := .ref T.heap.size :: .ref T.heap.size :: rest, locked := none }) rfl d4' _ hsteps
/-- 'throw new E("text")', the text by a wide index -/
theorem vx_throwSW {cc : ByteArray} {pc : Nat} (hexec : p.tables.exec = Jvm.exec) (hb : c.code = cc) (hl : l.stackTraces = false) {own cls text : String} {names : List String} {ik is ic mc ms sa : Nat} {A : Nat → Prop}
    (hown : s.vm.findClass own = some m.cls) (hcls : Bundle.fit cls = true) (hnames : ∀ n ∈ names, Bundle.fit n = true)
    (hk : (Cond.classLink own ik cls).before args s = true) (hini : (Cond.initialized cls).before args s = true) (hstr : vk_R own is text sa s) (hat : ∀ w ∈ vx_atS own ic cls names, w.before args s = true)
    (hgood : ∀ w ∈ Cond.classLink own ik cls :: Cond.initialized cls :: vx_atS own ic cls names, vx_ot w = true)
    (hU : vx_Zq Bundle.tN "UNASSIGNED_STACK" Bundle.steD A s s.heap) (hN : vx_Zq Bundle.tN "SUPPRESSED_SENTINEL" Bundle.listD A s s.heap) (hS : va_S A s.heap H locs) (hsize : ls.size = c.maxLocals)
    (d0 : decode cc pc = .ok (.new ik, 3)) (d3 : decode cc (pc + 3) = .ok (.dup, 1)) (d4 : decode cc (pc + 4) = .ok (.ldc_w is, 3)) (d7 : decode cc (pc + 7) = .ok (.invokespecial ic, 3)) (d10 : decode cc (pc + 10) = .ok (.athrow, 1))
    (hout : ∀ x ∈ c.exceptionTable.toList, covers x (pc + 10) = false)
    (hRframes : names.length + 3 < R.frames) (hRlocals : (rest.map fun v => v.category).sum + (13 * (names.length + 1) + 43) ≤ R.locals) (hRcells : cells + 1 ≤ R.cells) (hRslots : slots + 6 ≤ R.slots) (hlocks : meth.locks = false)
    (hx : ∀ t : State, s.vm.Alike t.vm → H.size ≤ t.heap.size → (∀ q : Nat, q < H.size → t.heap[q]? = H[q]?) → XC cls s t)
    (hf : ∀ z ∈ locs, free z.base) (hc : cells + 1 ≤ mc) (hs : slots + 6 ≤ ms) :
    W p l e R s m args below meth c H locs cells slots (vx_MQ below Qc XC args s mc ms free) (F0 m pc ls rest) := by
  intro T hT X
  have htr : e.platform.stackTraces = false := (show e.platform.stackTraces = l.stackTraces by rw [X.admits.platform]).trans hl
  have Y := vx_rebase X (R' := { frames := R.frames, locals := R.locals, cells := 1, slots := 6 }) (Nat.le_refl _) (Nat.le_refl _) hRcells hRslots
  obtain ⟨s', hA⟩ : ∃ z, z = (T.setVm s.vm).setFrames (.invoking m args :: below) := ⟨_, rfl⟩
  rw [← hA] at Y
  have hvm : s'.vm = s.vm := by rw [hA]; rfl
  have hhp : s'.heap = H := by rw [hA]; exact hT
  have hW0 : s.WarmedH s'.vm := by rw [hvm]; exact State.WarmedH.refl s
  have hat' : ∀ w ∈ vx_atS own ic cls names, w.before args s' = true := fun w hw => vx_ot_at hW0 hvm.symm (hgood w (List.mem_cons_of_mem _ (List.mem_cons_of_mem _ hw))) (hat w hw)
  have hk' : (Cond.classLink own ik cls).before args s' = true := vx_ot_at hW0 hvm.symm (hgood _ List.mem_cons_self) hk
  have hini' : (Cond.initialized cls).before args s' = true := vx_ot_at hW0 hvm.symm (hgood _ (List.mem_cons_of_mem _ List.mem_cons_self)) hini
  have hU' : vx_Zq Bundle.tN "UNASSIGNED_STACK" Bundle.steD A s' s'.heap := by rw [hhp]; exact vx_Zq.moved hW0.alike (hU.kept hS.2.1)
  have hN' : vx_Zq Bundle.tN "SUPPRESSED_SENTINEL" Bundle.listD A s' s'.heap := by rw [hhp]; exact vx_Zq.moved hW0.alike (hN.kept hS.2.1)
  have h : ∀ w ∈ Bundle.ownAtoms own ic cls names, w.before args s' = true := vx_own hat' (vx_isRefq hU'.1) (vx_isRefq hN'.1) hU'.2.word hN'.2.word
  have hown' : s'.vm.findClass own = some m.cls := by rw [hvm]; exact hown
  have hins : (Cond.instantiable cls 6).before args s' = true := h _ (by simp [Bundle.ownAtoms])
  obtain ⟨vm₁, cX, kX, hfX, hkX, -, -, X₁, st1⟩ := Y.newCold hexec (own := own) (C := cls) (index := ik) (n := 6) hown' hk' hins hini'
    (g := F0 m pc ls rest) rfl (by rw [hb]; exact d0) (Nat.le_refl _) (Nat.le_refl _)
  generalize hT1 : (T.setVm vm₁).pushCell { cls := cX, slots := kX.instanceTypes.map defaultValue, vm := .none } = T1 at X₁ st1
  have hcat : (Value.ref T.heap.size).category = 1 := rfl
  have hcellA : T1.heap[T.heap.size]? = some (freshCell cX kX) := by rw [← hT1]; exact State.heap_pushCell_size _ _
  have d3' : decode c.code (pc + 3) = .ok (.dup, 1) := by rw [hb]; exact d3
  have d4' : decode c.code (pc + 4) = .ok (.ldc_w is, 3) := by rw [hb]; exact d4
  have hstr' : vk_R own is text sa s' := vk_R.warm hW0 hstr
  obtain ⟨U, hsteps, hrun, hend, hW, hsame, ce, hce, hO⟩ := X₁.ctorThrowS hexec htr (own := own) (cls := cls) (names := names) (ic := ic) hown' hcls hnames h (fun x hx => nomatch hx) hfX hkX hcellA (by rw [hhp, hT]; exact Nat.le_refl _) (msg := .ref sa) rfl
    (g := { method := m, pc := pc + 7, locals := ls, stack := .ref sa :: .ref T.heap.size :: .ref T.heap.size :: rest, locked := none }) rfl hsize rfl rfl (rest := rest) rfl
    (by rw [hb]; exact d7) (by rw [hb]; exact d10) hout hRframes (by simp only [List.map_cons, List.sum_cons, hcat]; omega) hlocks
  obtain ⟨f1, f2⟩ := vx_frame hsame
  rw [hhp] at f1 f2
  have hWs : s.WarmedH U.vm := State.WarmedH.trans hW0 hW
  have hcl : s.vm.findClass cls = some ce.cls := by
    have h9 := hO.cls
    rw [hvm] at h9
    exact h9
  have hall : s.sameButNew ({ U with vm := s.vm } : State) locs mc ms := by
    subst hA
    obtain ⟨e1, e2⟩ := hsame
    rw [State.setFrames_setFrames] at e1
    have h2 : (T.setVm s.vm).sameButNew ({ U with vm := s.vm } : State) [] (0 + 1) (0 + 6) := ⟨e1, e2⟩
    have h3 := X.same.trans h2
    rw [List.append_nil] at h3
    exact h3.mono hc hs
  refine ⟨U, ?_, .threw T.heap.size, hrun, hend, Or.inr ⟨T.heap.size, rfl, cls, ce, locs, hx U hWs.alike f1 (fun q hq => f2 q hq (fun z hz => nomatch hz)), hce, hO.vm, hcl, hWs, hall, hf⟩⟩
  refine st1 _ ?_
  show Steps p.tables e below (T1.setTop { method := m, pc := pc + 3, locals := ls, stack := .ref T.heap.size :: rest, locked := none }) _
  jvm_step X₁.here [X₁.here.top, hexec, d3', Value.category]
  exact X₁.ldcStringW hexec (own := own) (text := text) (index := is) (a := sa) hown' hstr'.1 hstr'.2
    (g := { method := m, pc := pc + 4, locals := ls, stack := .ref T.heap.size :: .ref T.heap.size :: rest, locked := none }) rfl d4' _ hsteps
end Ends
section Bodies
variable {l : Launch}
theorem vx_ofW {y : MethodName} {ws ws' : List Cond} {rm : Room} {Pc : Array Value → State → Prop} {Qc : Array Value → State → Outcome → State → Prop} {XC : String → State → State → Prop} {mc ms : Nat} {free : Addr → Prop} {cc : ByteArray} {maxL : Nat} {ret : Option FieldType}
    (hy : plainName y.cls = true) (hw : ws = Cond.code y cc maxL ret :: ws')
    (body : ∀ p e s m args below meth c s₁, BodyLoose p l y (headSpec ws rm) cc maxL ret e s m args below meth c s₁ → c.maxLocals = maxL → (∀ x ∈ c.exceptionTable.toList, False) → Pc args s →
      W p l e (headSpec ws rm).room s m args below meth c s.heap [] 0 0 (vx_MQ below Qc XC args s mc ms free) (entryFrame m args maxL)) : vx_Met l y ws rm Pc Qc XC mc ms free := by
  refine MetFree.of_bodyS (code := cc) (maxLocals := maxL) (ret := ret) hy ?_ ?_
  · intro args s m h hn
    obtain ⟨meth, c, h1, h2, h3, h4, h5, h6, -, -⟩ := Cond.code_spec hn (atoms_spec (ws := ws) h _ (by rw [hw]; exact List.mem_cons_self))
    exact ⟨meth, c, h1, h2, h3, h4, h5, h6⟩
  · intro p e s m args below meth c s₁ B hml hP _
    have hh0 : s₁.heap = s.heap := by rw [B.state]; rfl
    have ht : ∀ x ∈ c.exceptionTable.toList, False := by
      obtain ⟨meth9, c9, h1, h2, -, -, -, -, h7, -⟩ := Cond.code_spec B.named (atoms_spec (ws := ws) B.pre _ (by rw [hw]; exact List.mem_cons_self))
      cases Option.some.inj (h1.symm.trans B.method)
      cases Option.some.inj (h2.symm.trans (Stand.of_body B).code)
      intro x hx
      rw [Array.isEmpty_iff.mp h7] at hx
      cases hx
    obtain ⟨t, a1, o, b1, b2, b3⟩ := body p e s m args below meth c s₁ B hml ht hP s₁ hh0 (Stand.of_body B)
    exact ⟨t, o, a1, b1, b2, b3⟩
/-- the table of a body with handlers -/
theorem vx_table {p : Program} {x y : MethodName} {S : Spec} {cc bytes : ByteArray} {maxL maxL' : Nat} {ret ret' : Option FieldType} {e : Env} {s s₁ : State} {m : MethodId} {args : Array Value} {below : List Frame} {meth : Method} {c : Code} {hh : List (Nat × Nat × Nat × Nat)}
    (B : BodyLoose p l y S cc maxL ret e s m args below meth c s₁) (h : (Cond.codeWith y bytes maxL' ret' hh).before args s = true) : c.exceptionTable.toList = tableOf hh := by
  obtain ⟨m9, meth9, c9, hn9, h1, h2, -, -, h6, -⟩ := Cond.codeWith_spec h
  cases Option.some.inj (hn9.symm.trans B.named)
  cases Option.some.inj (h1.symm.trans B.method)
  cases Option.some.inj (h2.symm.trans (Stand.of_body B).code)
  rw [← h6, table_eq]
end Bodies
end VXA
/-! ===== END ===== -/
/-! ===== BEGIN a static call of a method with an exception table ===== -/
section VXS
variable {p : Program} {l : Launch} {e : Env} {R : Room} {s : State} {m : MethodId} {args : Array Value} {below : List Frame} {meth : Method} {c : Code} {T : State} {H : Heap} {locs : List Loc} {cells slots : Nat}
abbrev vx_CSW (R : Room) (s : State) (args : Array Value) (own : String) (index : Nat) (y : MethodName) (bytes : ByteArray) (maxL : Nat) (ret : Option FieldType) (hh : List (Nat × Nat × Nat × Nat)) (ws : List Cond) (rm : Room) (mc ms n : Nat) : Prop :=
  (rm.cells = mc ∧ rm.slots = ms ∧ rm.frames + 1 ≤ R.frames ∧ 8 + (maxL + 11) + rm.locals ≤ R.locals ∧ (∀ w ∈ ws, ∀ (a' : Array Value) (U : State), s.WarmedH U.vm → w.before a' U = true) ∧ Cond.codeWith y bytes maxL ret hh ∈ ws) ∧
  (Cond.codeWith y bytes maxL ret hh).before args s = true ∧ (Cond.initialized y.cls).before args s = true ∧ (y.cls ≠ "java/lang/invoke/MethodHandle" ∧ y.cls ≠ "java/lang/invoke/VarHandle") ∧
  (∀ sig, parseMethodDescriptor y.desc = some sig → n = sig.parameters.length) ∧ (Cond.methodLink own index y).before args s = true ∧ (Cond.static y).before args s = true
theorem vx_cwSW {own : String} {index maxL mc ms : Nat} {y : MethodName} {bytes : ByteArray} {ret : Option FieldType} {hh : List (Nat × Nat × Nat × Nat)} {Ts ws ws' : List Cond} {rm : Room} (n : Nat) (ht : ∀ w ∈ Ts, w.before args s = true) (hT : GoodIn Ts (va_wsS own index y ws)) (hw : ws = Cond.codeWith y bytes maxL ret hh :: ws') (hrc : rm.cells = mc) (hrs : rm.slots = ms)
    (hd : y.cls ≠ "java/lang/invoke/MethodHandle" ∧ y.cls ≠ "java/lang/invoke/VarHandle" ∧ (parseMethodDescriptor y.desc).map (fun d => d.parameters.length) = some n) (hR : rm.frames + 1 ≤ R.frames ∧ 8 + (maxL + 11) + rm.locals ≤ R.locals) :
    vx_CSW R s args own index y bytes maxL ret hh ws rm mc ms n := by
  have ok : ∀ w ∈ va_wsS own index y ws, w.before args s = true := fun w h => ht w (hT w h).1
  have hG : GoodIn Ts ws := fun w h => hT w (by unfold va_wsS; exact List.mem_append_right _ h)
  have hc : Cond.codeWith y bytes maxL ret hh ∈ ws := by rw [hw]; exact List.mem_cons_self
  refine ⟨⟨hrc, hrs, hR.1, hR.2, pay_in ht hG, hc⟩, ht _ (hG _ hc).1, ok _ (by simp [va_wsS]), ⟨hd.1, hd.2.1⟩, fun sig h => ?_, ok _ (by simp [va_wsS]), ok _ (by simp [va_wsS])⟩
  have h2 := hd.2.2
  rw [h] at h2
  exact (Option.some.inj h2).symm
theorem vx_callSW (X : Stand p l e R s m args below meth c T locs cells slots) (hexec : p.tables.exec = Jvm.exec) {own : String} {index : Nat} {y : MethodName} {bytes : ByteArray} {maxL : Nat} {ret : Option FieldType} {hh : List (Nat × Nat × Nat × Nat)}
    (hown : s.vm.findClass own = some m.cls) (hlink : (Cond.methodLink own index y).before args s = true) (hstat : (Cond.static y).before args s = true) (hinit : (Cond.initialized y.cls).before args s = true)
    (hcode : (Cond.codeWith y bytes maxL ret hh).before args s = true) (hy : y.cls ≠ "java/lang/invoke/MethodHandle" ∧ y.cls ≠ "java/lang/invoke/VarHandle")
    {W9 : Nat} {Pre : Pt → Array Value → Prop} {Post : Pt → Array Value → Option Value → Pt → Prop} (hK : Back l R p e below s args y 3 W9 Pre Post)
    {g : JFrame} (hg : g.method = m) (hsize : g.locals.size = c.maxLocals) {argsL rest : List Value} (hlen : ∀ sig, parseMethodDescriptor y.desc = some sig → argsL.length = sig.parameters.length)
    (hstack : g.stack = argsL.reverse ++ rest) (hW : 2 * g.monitorRoom + (rest.map fun v => v.category).sum ≤ W9) (hdg : decode c.code g.pc = .ok (.invokestatic index, 3))
    (hpre : ∀ vm₁, s.WarmedH vm₁ → Pre ⟨T.setVm vm₁, locs, cells, slots⟩ argsL.toArray) :
    ∃ (v : Option Value) (vm₁ : Vm) (B : Pt), s.WarmedH vm₁ ∧ Stand p l e R s m args below meth c B.U B.locs B.cells B.slots ∧ Post ⟨T.setVm vm₁, locs, cells, slots⟩ argsL.toArray v B ∧
      ∀ target, Steps p.tables e below (B.U.setTop { g with pc := g.pc + 3, stack := v.toList ++ rest }) target → Steps p.tables e below (T.setTop g) target := by
  obtain ⟨mk, methM, cM, hnamed, hmethM, -, -, -, -, -, -, hsigM⟩ := Cond.codeWith_spec hcode
  have hstatic : methM.isStatic = true := Cond.static_spec hnamed hmethM hstat
  obtain ⟨kP, hkP, -⟩ := className_of_methodNamed hnamed
  have hinitP : kP.init = .initialized := Cond.initialized_spec (findClass_of_methodNamed hnamed) hkP hinit
  obtain ⟨vm₁, X₁, hstep₁⟩ := X.invokestatic hexec hown hlink hnamed hmethM hstatic hkP hinitP hy (g := g) hg (argsL := argsL) (rest := rest) (hlen _ hsigM) hstack hdg
  obtain ⟨v, B, X', hpost, hsteps⟩ := hK m meth c ⟨T.setVm vm₁, locs, cells, slots⟩ { g with stack := rest } (.invokestatic index) mk argsL.toArray X₁ hg hsize hdg hW (X₁.named hnamed) (hpre vm₁ X₁.warmed)
  exact ⟨v, vm₁, B, X₁.warmed, X', hpost, fun target h => hstep₁ _ fun acts => by rw [doInvoke_state]; exact hsteps.trans h⟩
theorem vx_runSW {y : MethodName} {bytes cc : ByteArray} {maxL nL mc ms n index : Nat} {ret : Option FieldType} {hh : List (Nat × Nat × Nat × Nat)} {ws : List Cond} {rm : Room} {Pc : Array Value → State → Prop} {Qc : Array Value → State → Outcome → State → Prop} {free : Addr → Prop} {Ts : List Cond} {own : String} {As rest : List Value} {g : JFrame}
    (S : CallFix p m c cc nL s args Ts own) (hM : Met l y ws rm Pc Qc mc ms free) (cw : vx_CSW R s args own index y bytes maxL ret hh ws rm mc ms n) (hp : PreS s H Pc As)
    (hg : g.method = m) (hn : As.length = n) (hsize : g.locals.size = nL) (hstack : g.stack = As.reverse ++ rest) (hW : 2 * g.monitorRoom + (rest.map fun v => v.category).sum ≤ 8) (hdg : decode cc g.pc = .ok (.invokestatic index, 3)) (hf : cells + mc ≤ R.cells ∧ slots + ms ≤ R.slots) :
    va_Run p l e R s m args below meth c H locs cells slots mc ms g rest (Qc As.toArray) (free) := by
  obtain ⟨⟨hrc, hrs, hfr, hlo, hws, hcw⟩, hcode, hini, hy, hlen, hl, hstt⟩ := cw
  have hK : Back l R p e below s args y 3 8 (PreOf R mc ms Pc) (PostOf Qc mc ms free) := va_backW (hh := hh) (bytes := bytes) (maxL := maxL) (ret := ret) hM hp.1 hrc hrs hfr hlo hws hcw (fun a' U hW => word_at hW (Or.inl (by first | rfl | simp [Cond.onTables, Cond.keeps, Cond.steady])) hini)
  obtain ⟨hx, hb, hml, ho, -⟩ := S
  intro T hT X
  obtain ⟨v, vm₁, ⟨U', l2, c2, s2⟩, hW₁, X', ⟨g', mk, t, L, e1, e2, hq, h1, hL, h2, h3⟩, st⟩ := vx_callSW X hx (hh := hh) (bytes := bytes) (maxL := maxL) (ret := ret) ho hl hstt hini hcode hy hK hg (hsize.trans hml.symm) (argsL := As) (rest := rest) (fun sig h => hn.trans (hlen sig h)) hstack hW (by rw [hb]; exact hdg)
    (fun vm₁ hW₁ => ⟨hf.1, hf.2, hp.2 (T.setVm vm₁) hT hW₁⟩)
  dsimp only [Pt.U, Pt.locs, Pt.cells, Pt.slots] at X' e1 e2 h1 h2 h3 st
  subst h1; subst h2; subst h3
  exact ⟨v, (T.setVm vm₁).calling g' mk As.toArray, t, U', L, hT, X', hL, e1, e2, hq, st⟩
/-- not caught here, past rows that name other classes: it goes on to the caller -/
theorem vx_outP {p : Program} {l : Launch} {e : Env} {R : Room} {s : State} {m : MethodId} {args : Array Value} {below : List Frame} {meth : Method} {c : Code} {H : Heap} {locs : List Loc} {cells slots : Nat} {free : Addr → Prop} {ls : Array Slot} {rest : List Value} {Qc : Array Value → State → Outcome → State → Prop} {XC : String → State → State → Prop}
    {pc : Nat} {own E : String} {ce : Cell} {q : Addr} {mc ms : Nat} (hown : s.vm.findClass own = some m.cls) (hlocks : meth.locks = false)
    (hpass : ∀ z ∈ c.exceptionTable.toList, covers z pc = false ∨ (z.catchType ≠ 0 ∧ ∃ nm : String, (Cond.classLink own z.catchType nm).before args s = true ∧ va_Nc E nm s)) (hcell : H[q]? = some ce) (hv : ce.vm = .none) (hcl : s.vm.findClass E = some ce.cls)
    (hx : ∀ t : State, t.heap = H → s.vm.Alike t.vm → XC E s t) (hf : ∀ z ∈ locs, free z.base) (hc : cells ≤ mc) (hs : slots ≤ ms) :
    vx_W p l e R s m args below meth c H locs cells slots (vx_MQ below Qc XC args s mc ms free) (F0 m pc ls rest) q := by
  intro T hT X
  have hpl : e.platform.magicAccessors = ({} : Platform).magicAccessors := by rw [X.admits.platform]
  obtain ⟨vm', hW', X', st⟩ := X.outThrough hlocks q (g := F0 m pc ls rest) rfl rfl rfl (cell := ce) (by rw [hT]; exact hcell) (by rw [hv]; rfl)
    (by obtain ⟨k9, h9, -⟩ := Vm.findClass_spec hcl; exact ⟨k9, h9⟩) (fun z hz => by
      rcases hpass z hz with h | ⟨hz0, nm, hl1, hn1⟩
      · exact Or.inl h
      · obtain ⟨c6, hc6, hcl6⟩ := Cond.classLink_spec hown hl1 e.platform hpl
        obtain ⟨a8, b8, h1, h2, h3⟩ := hn1
        cases Option.some.inj (h1.symm.trans hcl)
        cases Option.some.inj (h2.symm.trans hc6)
        exact Or.inr ⟨hz0, _, hcl6, h3⟩)
  obtain ⟨g₀, hfr⟩ := X'.frames_eq
  have hcell9 : ((T.setVm vm').setFrames (.throwing q :: below)).heap[q]? = some ce := by
    show T.heap[q]? = some ce
    rw [hT]; exact hcell
  have hend : Ended ((T.setVm vm').setFrames (.throwing q :: below)) below (.threw q) := State.frames_setFrames _ (State.cur_lt_of_frames hfr)
  refine ⟨(T.setVm vm').setFrames (.throwing q :: below), ?_, .threw q, X'.here.running, hend, Or.inr ⟨q, rfl, E, ce, locs, hx _ hT (X'.ends _).1.alike, hcell9, hv, hcl, (X'.ends _).1, (X'.ends _).2.mono hc hs, hf⟩⟩
  rw [X.pushThrowing_eq]
  exact st
/-- a thing of a world lies in the heap -/
theorem vx_lt {D : va_G} {cl : List vw_C} {ws : va_W} {H1 : Heap} (h : va_P D cl ws H1) {k : Nat} {q : Nat × va_E} (hk : ws[k]? = some q) : q.1 < H1.size := (h k q hk).lt
end VXS
/-! ===== END ===== -/
/-! ===== BEGIN methods with a table of their own: called by a name, returning or throwing ===== -/
section VXH
/-! vx_backW, vx_callVX, vx_callSX, vx_callVW, vx_runVW, vx_runVX, vx_runSX, vx_ofWH follow the same proofs as their sisters above (Free/Laws.lean, Shelf42/LK1.lean); vx_outP calls Shelf42/NT130.lean (outThrough). -/
section
variable {l : Launch} {R : Room} {p : Program} {e : Env} {below : List Frame} {s : State} {sargs : Array Value} {y : MethodName} {len W9 : Nat}
theorem vx_backW {ws : List Cond} {rm : Room} {Pc : Array Value → State → Prop} {Qc : Array Value → State → Outcome → State → Prop} {XC : String → State → State → Prop} {mc ms : Nat} {free : Addr → Prop} {bytes : ByteArray} {maxL : Nat} {ret : Option FieldType} {hh : List (Nat × Nat × Nat × Nat)}
    (hM : vx_Met l y ws rm Pc Qc XC mc ms free) (hblind : FrameBlind Pc) (hrc : rm.cells = mc) (hrs : rm.slots = ms)
    (hframes : rm.frames + 1 ≤ R.frames) (hlocals : W9 + (maxL + 11) + rm.locals ≤ R.locals)
    (hws : ∀ w ∈ ws, ∀ a' U, s.WarmedH U.vm → w.before a' U = true) (hcode : Cond.codeWith y bytes maxL ret hh ∈ ws) (hinit : ∀ a' U, s.WarmedH U.vm → (Cond.initialized y.cls).before a' U = true) :
    vx_Back l R p e below s sargs y len W9 (PreOf R mc ms Pc) (PostOf Qc mc ms free) (vx_Post XC mc ms free) := by
  intro m meth c A g ig mk a X hg hsize hdg hW hn hp
  have h1 : (headSpec ws rm).pre.before a A.U = true := atoms_intro fun w hw => hws w hw _ _ X.warmed
  have h2 : (Cond.codeWith y bytes maxL ret hh).before a A.U = true := hws _ hcode _ _ X.warmed
  have h3 : (Cond.initialized y.cls).before a A.U = true := hinit _ _ X.warmed
  have h4 : A.cells + (headSpec ws rm).room.cells ≤ R.cells := by rw [show (headSpec ws rm).room.cells = mc from hrc]; exact hp.1
  have h5 : A.slots + (headSpec ws rm).room.slots ≤ R.slots := by rw [show (headSpec ws rm).room.slots = ms from hrs]; exact hp.2.1
  have hPc : Pc a (A.U.calling g mk a) := hblind _ _ _ _ hp.2.2
  obtain ⟨U, Ls, c0, s0⟩ := A
  dsimp only [Pt.U, Pt.locs, Pt.cells, Pt.slots] at h1 h2 h3 h4 h5 X hn hPc ⊢
  obtain ⟨m9, methY, cY, hn9, hmY, hcY, -, hlY, -⟩ := Cond.codeWith_spec h2
  cases Option.some.inj (hn9.symm.trans hn)
  obtain ⟨kY, hkY, -⟩ := className_of_methodNamed hn
  have hinitY : kY.init = .initialized := Cond.initialized_spec (findClass_of_methodNamed hn) hkY h3
  have h : At U g.method c below := by rw [hg]; exact X.here
  have hlocals9 : W9 + (maxL + 11) + (headSpec ws rm).room.locals ≤ R.locals := hlocals
  have happ : (headSpec ws rm).appliesLoose y e.platform (U.calling g mk a) = true :=
    Spec.appliesLoose_calling (g := g) h hdg hn hkY hinitY
      (X.room_calling (g := g) (R' := (headSpec ws rm).room) hsize hmY hcY hframes (by rw [hlY]; omega) h4 h5) h1
  obtain ⟨mid, hmid⟩ := h.above
  have hfr : (U.setTop g).frames = (.java g :: mid) ++ below := by rw [State.frames_setTop' g h.top, hmid]; rfl
  obtain ⟨o, s₂, hsteps, -, hend, hq⟩ := Steps.callFree hM p X.admits X.cas X.clock (acts := []) hfr happ hPc trivial
  have hq' : vx_Q Qc XC mc ms free a (U.calling g mk a) o s₂ := hq
  rw [State.frames_setTop' g h.top] at hend
  obtain ⟨g₀, hg0⟩ := Option.isSome_iff_exists.mp h.top
  obtain ⟨r, hr⟩ := State.topJava?_eq_some.mp hg0
  have hr' : (({ U with heap := s₂.heap, slotsUsed := s₂.slotsUsed } : State).setVm s₂.vm).frames = .java g₀ :: r := hr
  rcases hq' with ⟨hqc, L, hfe, hL⟩ | ⟨q, rfl, E, ce, L, hx, hce, hcv, hcl, hW₂, hsm, hL⟩
  · obtain ⟨⟨v, rfl⟩, hW₂, e2, q2, q3, q4, q5, q6⟩ := id hfe
    have e3 : s₂ = ({ (U.calling g mk a).setFrames s₂.frames with heap := s₂.heap, slotsUsed := s₂.slotsUsed } : State).setVm s₂.vm := by
      have : s₂ = ({ s₂ with vm := (U.calling g mk a).vm } : State).setVm s₂.vm := rfl
      rw [e2] at this
      exact this
    obtain ⟨c₂, i₂, len₂, hc₂, hd₂, hf₂⟩ := hend
    have hW' : U.WarmedH s₂.vm := hW₂
    have hcc : c₂ = c := by
      have h1 : s₂.code? g.method = U.code? g.method := by
        rw [State.code?_eq, State.code?_eq, hW'.alike.method?]
      exact Option.some.inj (hc₂.symm.trans (h1.trans h.code))
    subst hcc
    have hlen : len₂ = len := by rw [hdg] at hd₂; cases hd₂; rfl
    subst hlen
    have hs₂ : s₂ = (({ U with heap := s₂.heap, slotsUsed := s₂.slotsUsed } : State).setVm s₂.vm).setTop { g with pc := g.pc + len₂, stack := v.toList ++ g.stack } := by
      refine e3.trans ?_
      rw [hf₂, State.calling_eq h.top, State.setFrames_setFrames, State.setTop_of_frames _ hr', hr]
      rfl
    have hsame : U.sameButNew ({ U with heap := s₂.heap, slotsUsed := s₂.slotsUsed } : State) L mc ms := by
      refine ⟨?_, q2, q3, q4, q5, q6⟩
      obtain ⟨t, ht, -⟩ := State.frames_cons hr
      show ({ U with heap := s₂.heap, slotsUsed := s₂.slotsUsed } : State) = { U.setFrames U.frames with heap := s₂.heap, slotsUsed := s₂.slotsUsed }
      rw [State.setFrames_self ht]
    subst hg
    refine Or.inl ⟨v, ⟨(({ U with heap := s₂.heap, slotsUsed := s₂.slotsUsed } : State).setVm s₂.vm), Ls ++ L, c0 + mc, s0 + ms⟩,
      ⟨X.admits, X.cas, X.clock, X.frames, X.room, X.hears, X.method, X.code, (X.here.setHeapUsed s₂.heap s₂.slotsUsed).setVm hW'.alike, X.tail, State.WarmedH.trans X.warmed hW', X.limits, X.bytes, X.same.trans (hsame.setVm s.vm)⟩,
      ⟨g, mk, s₂, L, rfl, rfl, hqc, rfl, hL, rfl, rfl⟩, ?_⟩
    show Steps p.tables e below _ ((({ U with heap := s₂.heap, slotsUsed := s₂.slotsUsed } : State).setVm s₂.vm).setTop { g with pc := g.pc + len₂, stack := v.toList ++ g.stack })
    rw [← hs₂]
    exact hsteps
  · obtain ⟨e2, q2, q3, q4, q5, q6⟩ := id hsm
    have e3 : s₂ = ({ (U.calling g mk a).setFrames s₂.frames with heap := s₂.heap, slotsUsed := s₂.slotsUsed } : State).setVm s₂.vm := by
      have : s₂ = ({ s₂ with vm := (U.calling g mk a).vm } : State).setVm s₂.vm := rfl
      rw [e2] at this
      exact this
    have hf₂ : s₂.frames = .throwing q :: .java g :: U.frames.tail := hend
    have hW' : U.WarmedH s₂.vm := hW₂
    have hs₂ : s₂ = ((({ U with heap := s₂.heap, slotsUsed := s₂.slotsUsed } : State).setVm s₂.vm).setTop g).pushFrame (.throwing q) := by
      refine e3.trans ?_
      rw [hf₂, State.calling_eq h.top, State.setFrames_setFrames, State.pushFrame, State.frames_setTop _ hr', State.setTop_of_frames _ hr', State.setFrames_setFrames, hr]
      rfl
    have hsame : U.sameButNew ({ U with heap := s₂.heap, slotsUsed := s₂.slotsUsed } : State) L mc ms := by
      refine ⟨?_, q2, q3, q4, q5, q6⟩
      obtain ⟨t, ht, -⟩ := State.frames_cons hr
      show ({ U with heap := s₂.heap, slotsUsed := s₂.slotsUsed } : State) = { U.setFrames U.frames with heap := s₂.heap, slotsUsed := s₂.slotsUsed }
      rw [State.setFrames_self ht]
    subst hg
    refine Or.inr ⟨q, ⟨(({ U with heap := s₂.heap, slotsUsed := s₂.slotsUsed } : State).setVm s₂.vm), Ls ++ L, c0 + mc, s0 + ms⟩,
      ⟨X.admits, X.cas, X.clock, X.frames, X.room, X.hears, X.method, X.code, (X.here.setHeapUsed s₂.heap s₂.slotsUsed).setVm hW'.alike, X.tail, State.WarmedH.trans X.warmed hW', X.limits, X.bytes, X.same.trans (hsame.setVm s.vm)⟩,
      ⟨g, mk, s₂, L, E, ce, rfl, rfl, hx, hce, hcv, hcl, rfl, hL, rfl, rfl⟩, ?_⟩
    show Steps p.tables e below _ (((({ U with heap := s₂.heap, slotsUsed := s₂.slotsUsed } : State).setVm s₂.vm).setTop g).pushFrame (.throwing q))
    rw [← hs₂]
    exact hsteps
end
variable {p : Program} {l : Launch} {e : Env} {R : Room} {s : State} {m : MethodId} {args : Array Value} {below : List Frame} {meth : Method} {c : Code} {T : State} {H : Heap} {locs : List Loc} {cells slots : Nat}
theorem vx_callVX (X : Stand p l e R s m args below meth c T locs cells slots) (hexec : p.tables.exec = Jvm.exec) {own C : String} {index : Nat} {y : MethodName} {bytes : ByteArray} {maxL : Nat} {ret : Option FieldType} {hh : List (Nat × Nat × Nat × Nat)}
    (hown : s.vm.findClass own = some m.cls) (hlink : (Cond.methodLink own index y).before args s = true) (hinst : (Cond.instanceMethod y).before args s = true) (hsel : (Cond.selects C y y).before args s = true)
    (hcode : (Cond.codeWith y bytes maxL ret hh).before args s = true) (hy : y.cls ≠ "java/lang/invoke/MethodHandle" ∧ y.cls ≠ "java/lang/invoke/VarHandle")
    {W9 : Nat} {Pre : Pt → Array Value → Prop} {Post : Pt → Array Value → Option Value → Pt → Prop} {PostX : Pt → Array Value → Addr → Pt → Prop} (hK : vx_Back l R p e below s args y 3 W9 Pre Post PostX)
    {b : Addr} {cellB : Cell} (hcell : T.heap[b]? = some cellB) (hobj : cellB.vm.isStatics = false) (hcls : s.vm.findClass C = some cellB.cls)
    {g : JFrame} (hg : g.method = m) (hsize : g.locals.size = c.maxLocals) {argsL rest : List Value} (hlen : ∀ sig, parseMethodDescriptor y.desc = some sig → argsL.length = sig.parameters.length)
    (hstack : g.stack = argsL.reverse ++ .ref b :: rest) (hW : 2 * g.monitorRoom + (rest.map fun v => v.category).sum ≤ W9) (hdg : decode c.code g.pc = .ok (.invokevirtual index, 3))
    (hpre : ∀ vm₁, s.WarmedH vm₁ → Pre ⟨T.setVm vm₁, locs, cells, slots⟩ (Value.ref b :: argsL).toArray) :
    (∃ (v : Option Value) (vm₁ : Vm) (B : Pt), s.WarmedH vm₁ ∧ Stand p l e R s m args below meth c B.U B.locs B.cells B.slots ∧ Post ⟨T.setVm vm₁, locs, cells, slots⟩ (Value.ref b :: argsL).toArray v B ∧
      ∀ target, Steps p.tables e below (B.U.setTop { g with pc := g.pc + 3, stack := v.toList ++ rest }) target → Steps p.tables e below (T.setTop g) target) ∨
    (∃ (q : Addr) (vm₁ : Vm) (B : Pt), s.WarmedH vm₁ ∧ Stand p l e R s m args below meth c B.U B.locs B.cells B.slots ∧ PostX ⟨T.setVm vm₁, locs, cells, slots⟩ (Value.ref b :: argsL).toArray q B ∧
      Steps p.tables e below (T.setTop g) ((B.U.setTop { g with stack := rest }).pushFrame (.throwing q))) := by
  obtain ⟨mk, methM, hnamed, hmethM, hstM, habM⟩ := Cond.instanceMethod_spec hinst
  obtain ⟨m8, methM', cM, hn8, hmethM', -, -, -, -, -, -, hsigM⟩ := Cond.codeWith_spec hcode
  cases Option.some.inj (hn8.symm.trans hnamed)
  cases hmethM.symm.trans hmethM'
  obtain ⟨c2, r2, m2, q1, q2, q3, q4, kP, hkP, hkPi⟩ := Cond.selects_spec hsel
  cases hcls.symm.trans q1
  cases (State.methodFound?_of_named hnamed hy).symm.trans q2
  cases hnamed.symm.trans q3
  have hselP : selectMethod e.platform s.vm cellB.cls mk = .method mk := by rw [Launch.admits_selectMethod X.admits]; exact q4
  obtain ⟨vm₁, X₁, hstep₁⟩ := X.invokevirtual hexec hown hlink hnamed hmethM hstM hkP hkPi hy (a := b) (cell := cellB) hcell
    (fun z h => by rw [h] at hobj; cases hobj) hselP hmethM habM hkP hkPi (g := g) hg (argsL := argsL) (rest := rest) (hlen _ hsigM) hstack hdg
  rcases hK m meth c ⟨T.setVm vm₁, locs, cells, slots⟩ { g with stack := rest } (.invokevirtual index) mk (Value.ref b :: argsL).toArray X₁ hg hsize hdg hW (X₁.named hnamed) (hpre vm₁ X₁.warmed) with ⟨v, B, X', hpost, hsteps⟩ | ⟨q, B, X', hpost, hsteps⟩
  · exact Or.inl ⟨v, vm₁, B, X₁.warmed, X', hpost, fun target h => hstep₁ _ fun acts => by rw [doInvoke_state]; exact hsteps.trans h⟩
  · exact Or.inr ⟨q, vm₁, B, X₁.warmed, X', hpost, hstep₁ _ fun acts => by rw [doInvoke_state]; exact hsteps⟩
theorem vx_callSX (X : Stand p l e R s m args below meth c T locs cells slots) (hexec : p.tables.exec = Jvm.exec) {own : String} {index : Nat} {y : MethodName} {bytes : ByteArray} {maxL : Nat} {ret : Option FieldType} {hh : List (Nat × Nat × Nat × Nat)}
    (hown : s.vm.findClass own = some m.cls) (hlink : (Cond.methodLink own index y).before args s = true) (hstat : (Cond.static y).before args s = true) (hinit : (Cond.initialized y.cls).before args s = true)
    (hcode : (Cond.codeWith y bytes maxL ret hh).before args s = true) (hy : y.cls ≠ "java/lang/invoke/MethodHandle" ∧ y.cls ≠ "java/lang/invoke/VarHandle")
    {W9 : Nat} {Pre : Pt → Array Value → Prop} {Post : Pt → Array Value → Option Value → Pt → Prop} {PostX : Pt → Array Value → Addr → Pt → Prop} (hK : vx_Back l R p e below s args y 3 W9 Pre Post PostX)
    {g : JFrame} (hg : g.method = m) (hsize : g.locals.size = c.maxLocals) {argsL rest : List Value} (hlen : ∀ sig, parseMethodDescriptor y.desc = some sig → argsL.length = sig.parameters.length)
    (hstack : g.stack = argsL.reverse ++ rest) (hW : 2 * g.monitorRoom + (rest.map fun v => v.category).sum ≤ W9) (hdg : decode c.code g.pc = .ok (.invokestatic index, 3))
    (hpre : ∀ vm₁, s.WarmedH vm₁ → Pre ⟨T.setVm vm₁, locs, cells, slots⟩ argsL.toArray) :
    (∃ (v : Option Value) (vm₁ : Vm) (B : Pt), s.WarmedH vm₁ ∧ Stand p l e R s m args below meth c B.U B.locs B.cells B.slots ∧ Post ⟨T.setVm vm₁, locs, cells, slots⟩ argsL.toArray v B ∧
      ∀ target, Steps p.tables e below (B.U.setTop { g with pc := g.pc + 3, stack := v.toList ++ rest }) target → Steps p.tables e below (T.setTop g) target) ∨
    (∃ (q : Addr) (vm₁ : Vm) (B : Pt), s.WarmedH vm₁ ∧ Stand p l e R s m args below meth c B.U B.locs B.cells B.slots ∧ PostX ⟨T.setVm vm₁, locs, cells, slots⟩ argsL.toArray q B ∧
      Steps p.tables e below (T.setTop g) ((B.U.setTop { g with stack := rest }).pushFrame (.throwing q))) := by
  obtain ⟨mk, methM, cM, hnamed, hmethM, -, -, -, -, -, -, hsigM⟩ := Cond.codeWith_spec hcode
  have hstatic : methM.isStatic = true := Cond.static_spec hnamed hmethM hstat
  obtain ⟨kP, hkP, -⟩ := className_of_methodNamed hnamed
  have hinitP : kP.init = .initialized := Cond.initialized_spec (findClass_of_methodNamed hnamed) hkP hinit
  obtain ⟨vm₁, X₁, hstep₁⟩ := X.invokestatic hexec hown hlink hnamed hmethM hstatic hkP hinitP hy (g := g) hg (argsL := argsL) (rest := rest) (hlen _ hsigM) hstack hdg
  rcases hK m meth c ⟨T.setVm vm₁, locs, cells, slots⟩ { g with stack := rest } (.invokestatic index) mk argsL.toArray X₁ hg hsize hdg hW (X₁.named hnamed) (hpre vm₁ X₁.warmed) with ⟨v, B, X', hpost, hsteps⟩ | ⟨q, B, X', hpost, hsteps⟩
  · exact Or.inl ⟨v, vm₁, B, X₁.warmed, X', hpost, fun target h => hstep₁ _ fun acts => by rw [doInvoke_state]; exact hsteps.trans h⟩
  · exact Or.inr ⟨q, vm₁, B, X₁.warmed, X', hpost, hstep₁ _ fun acts => by rw [doInvoke_state]; exact hsteps⟩
theorem vx_callVW (X : Stand p l e R s m args below meth c T locs cells slots) (hexec : p.tables.exec = Jvm.exec) {own C : String} {index : Nat} {y : MethodName} {bytes : ByteArray} {maxL : Nat} {ret : Option FieldType} {hh : List (Nat × Nat × Nat × Nat)}
    (hown : s.vm.findClass own = some m.cls) (hlink : (Cond.methodLink own index y).before args s = true) (hinst : (Cond.instanceMethod y).before args s = true) (hsel : (Cond.selects C y y).before args s = true)
    (hcode : (Cond.codeWith y bytes maxL ret hh).before args s = true) (hy : y.cls ≠ "java/lang/invoke/MethodHandle" ∧ y.cls ≠ "java/lang/invoke/VarHandle")
    {W9 : Nat} {Pre : Pt → Array Value → Prop} {Post : Pt → Array Value → Option Value → Pt → Prop} (hK : Back l R p e below s args y 3 W9 Pre Post)
    {b : Addr} {cellB : Cell} (hcell : T.heap[b]? = some cellB) (hobj : cellB.vm.isStatics = false) (hcls : s.vm.findClass C = some cellB.cls)
    {g : JFrame} (hg : g.method = m) (hsize : g.locals.size = c.maxLocals) {argsL rest : List Value} (hlen : ∀ sig, parseMethodDescriptor y.desc = some sig → argsL.length = sig.parameters.length)
    (hstack : g.stack = argsL.reverse ++ .ref b :: rest) (hW : 2 * g.monitorRoom + (rest.map fun v => v.category).sum ≤ W9) (hdg : decode c.code g.pc = .ok (.invokevirtual index, 3))
    (hpre : ∀ vm₁, s.WarmedH vm₁ → Pre ⟨T.setVm vm₁, locs, cells, slots⟩ (Value.ref b :: argsL).toArray) :
    ∃ (v : Option Value) (vm₁ : Vm) (B : Pt), s.WarmedH vm₁ ∧ Stand p l e R s m args below meth c B.U B.locs B.cells B.slots ∧ Post ⟨T.setVm vm₁, locs, cells, slots⟩ (Value.ref b :: argsL).toArray v B ∧
      ∀ target, Steps p.tables e below (B.U.setTop { g with pc := g.pc + 3, stack := v.toList ++ rest }) target → Steps p.tables e below (T.setTop g) target := by
  obtain ⟨mk, methM, hnamed, hmethM, hstM, habM⟩ := Cond.instanceMethod_spec hinst
  obtain ⟨m8, methM', cM, hn8, hmethM', -, -, -, -, -, -, hsigM⟩ := Cond.codeWith_spec hcode
  cases Option.some.inj (hn8.symm.trans hnamed)
  cases hmethM.symm.trans hmethM'
  obtain ⟨c2, r2, m2, q1, q2, q3, q4, kP, hkP, hkPi⟩ := Cond.selects_spec hsel
  cases hcls.symm.trans q1
  cases (State.methodFound?_of_named hnamed hy).symm.trans q2
  cases hnamed.symm.trans q3
  have hselP : selectMethod e.platform s.vm cellB.cls mk = .method mk := by rw [Launch.admits_selectMethod X.admits]; exact q4
  obtain ⟨vm₁, X₁, hstep₁⟩ := X.invokevirtual hexec hown hlink hnamed hmethM hstM hkP hkPi hy (a := b) (cell := cellB) hcell
    (fun z h => by rw [h] at hobj; cases hobj) hselP hmethM habM hkP hkPi (g := g) hg (argsL := argsL) (rest := rest) (hlen _ hsigM) hstack hdg
  obtain ⟨v, B, X', hpost, hsteps⟩ := hK m meth c ⟨T.setVm vm₁, locs, cells, slots⟩ { g with stack := rest } (.invokevirtual index) mk (Value.ref b :: argsL).toArray X₁ hg hsize hdg hW (X₁.named hnamed) (hpre vm₁ X₁.warmed)
  exact ⟨v, vm₁, B, X₁.warmed, X', hpost, fun target h => hstep₁ _ fun acts => by rw [doInvoke_state]; exact hsteps.trans h⟩
abbrev vx_CVW (R : Room) (s : State) (args : Array Value) (own C : String) (index : Nat) (y : MethodName) (bytes : ByteArray) (maxL : Nat) (ret : Option FieldType) (hh : List (Nat × Nat × Nat × Nat)) (ws : List Cond) (rm : Room) (mc ms n : Nat) : Prop :=
  (rm.cells = mc ∧ rm.slots = ms ∧ rm.frames + 1 ≤ R.frames ∧ 8 + (maxL + 11) + rm.locals ≤ R.locals ∧ (∀ w ∈ ws, ∀ (a' : Array Value) (U : State), s.WarmedH U.vm → w.before a' U = true) ∧ Cond.codeWith y bytes maxL ret hh ∈ ws) ∧
  (Cond.codeWith y bytes maxL ret hh).before args s = true ∧ (Cond.initialized y.cls).before args s = true ∧ (y.cls ≠ "java/lang/invoke/MethodHandle" ∧ y.cls ≠ "java/lang/invoke/VarHandle") ∧
  (∀ sig, parseMethodDescriptor y.desc = some sig → n = sig.parameters.length) ∧ (Cond.methodLink own index y).before args s = true ∧ (Cond.instanceMethod y).before args s = true ∧ (Cond.selects C y y).before args s = true
theorem vx_cwVW {own C : String} {index maxL mc ms : Nat} {y : MethodName} {bytes : ByteArray} {ret : Option FieldType} {hh : List (Nat × Nat × Nat × Nat)} {Ts ws ws' : List Cond} {rm : Room} (n : Nat) (ht : ∀ w ∈ Ts, w.before args s = true) (hT : GoodIn Ts (wsV own index C y ws)) (hw : ws = Cond.codeWith y bytes maxL ret hh :: ws') (hrc : rm.cells = mc) (hrs : rm.slots = ms)
    (hd : y.cls = C ∧ y.cls ≠ "java/lang/invoke/MethodHandle" ∧ y.cls ≠ "java/lang/invoke/VarHandle" ∧ (parseMethodDescriptor y.desc).map (fun d => d.parameters.length) = some n) (hR : rm.frames + 1 ≤ R.frames ∧ 8 + (maxL + 11) + rm.locals ≤ R.locals) :
    vx_CVW R s args own C index y bytes maxL ret hh ws rm mc ms n := by
  obtain ⟨hC, hd⟩ := hd
  subst hC
  have ok : ∀ w ∈ wsV own index y.cls y ws, w.before args s = true := fun w h => ht w (hT w h).1
  have hG : GoodIn Ts ws := fun w h => hT w (by unfold wsV; exact List.mem_append_right _ h)
  have hc : Cond.codeWith y bytes maxL ret hh ∈ ws := by rw [hw]; exact List.mem_cons_self
  refine ⟨⟨hrc, hrs, hR.1, hR.2, pay_in ht hG, hc⟩, ht _ (hG _ hc).1, ok _ (by simp [wsV]), ⟨hd.1, hd.2.1⟩, fun sig h => ?_, ok _ (by simp [wsV]), ok _ (by simp [wsV]), ok _ (by simp [wsV])⟩
  have h2 := hd.2.2
  rw [h] at h2
  exact (Option.some.inj h2).symm
theorem vx_runVW {y : MethodName} {bytes cc : ByteArray} {maxL nL mc ms n index : Nat} {ret : Option FieldType} {hh : List (Nat × Nat × Nat × Nat)} {ws : List Cond} {rm : Room} {Pc : Array Value → State → Prop} {Qc : Array Value → State → Outcome → State → Prop} {free : Addr → Prop} {Ts : List Cond} {own C : String} {b : Addr} {As rest : List Value} {g : JFrame}
    (S : CallFix p m c cc nL s args Ts own) (hM : Met l y ws rm Pc Qc mc ms free) (cw : vx_CVW R s args own C index y bytes maxL ret hh ws rm mc ms n) (hp : PreV s H C b Pc As)
    (hg : g.method = m) (hn : As.length = n) (hsize : g.locals.size = nL) (hstack : g.stack = As.reverse ++ .ref b :: rest) (hW : 2 * g.monitorRoom + (rest.map fun v => v.category).sum ≤ 8) (hdg : decode cc g.pc = .ok (.invokevirtual index, 3)) (hf : cells + mc ≤ R.cells ∧ slots + ms ≤ R.slots) :
    va_Run p l e R s m args below meth c H locs cells slots mc ms g rest (Qc (Value.ref b :: As).toArray) free := by
  obtain ⟨⟨hrc, hrs, hfr, hlo, hws, hcw⟩, hcode, hini, hy, hlen, hl, hin, hse⟩ := cw
  have hK : Back l R p e below s args y 3 8 (PreOf R mc ms Pc) (PostOf Qc mc ms free) := va_backW (hh := hh) (bytes := bytes) (maxL := maxL) (ret := ret) hM hp.1 hrc hrs hfr hlo hws hcw (fun a' U hW => word_at hW (Or.inl (by first | rfl | simp [Cond.onTables, Cond.keeps, Cond.steady])) hini)
  obtain ⟨hx, hb, hml, ho, -⟩ := S
  obtain ⟨-, ⟨cellB, hcB, hoB, hclB⟩, hPc⟩ := hp
  intro T hT X
  obtain ⟨v, vm₁, ⟨U', l2, c2, s2⟩, hW₁, X', ⟨g', mk, t, L, e1, e2, hq, h1, hL, h2, h3⟩, st⟩ := vx_callVW X hx (C := C) (hh := hh) (bytes := bytes) (maxL := maxL) (ret := ret) ho hl hin hse hcode hy hK (by rw [hT]; exact hcB) hoB hclB hg (hsize.trans hml.symm) (argsL := As) (rest := rest) (fun sig h => hn.trans (hlen sig h)) hstack hW (by rw [hb]; exact hdg)
    (fun vm₁ hW₁ => ⟨hf.1, hf.2, hPc (T.setVm vm₁) hT hW₁⟩)
  dsimp only [Pt.U, Pt.locs, Pt.cells, Pt.slots] at X' e1 e2 h1 h2 h3 st
  subst h1; subst h2; subst h3
  exact ⟨v, (T.setVm vm₁).calling g' mk (Value.ref b :: As).toArray, t, U', L, hT, X', hL, e1, e2, hq, st⟩
section
variable {y : MethodName} {bytes cc : ByteArray} {maxL nL mc ms n index : Nat} {ret : Option FieldType} {ws : List Cond} {rm : Room} {Pc : Array Value → State → Prop} {Qc : Array Value → State → Outcome → State → Prop} {XC : String → State → State → Prop} {free : Addr → Prop} {Ts : List Cond} {own C : String} {b : Addr} {As rest : List Value} {g : JFrame}
theorem vx_runVX {hh : List (Nat × Nat × Nat × Nat)} (S : CallFix p m c cc nL s args Ts own) (hM : vx_Met l y ws rm Pc Qc XC mc ms free) (cw : vx_CVW R s args own C index y bytes maxL ret hh ws rm mc ms n) (hp : PreV s H C b Pc As)
    (hg : g.method = m) (hn : As.length = n) (hsize : g.locals.size = nL) (hstack : g.stack = As.reverse ++ .ref b :: rest) (hW : 2 * g.monitorRoom + (rest.map fun v => v.category).sum ≤ 8) (hdg : decode cc g.pc = .ok (.invokevirtual index, 3)) (hf : cells + mc ≤ R.cells ∧ slots + ms ≤ R.slots) :
    vx_Run p l e R s m args below meth c H locs cells slots mc ms g rest (Qc (Value.ref b :: As).toArray) XC free := by
  obtain ⟨⟨hrc, hrs, hfr, hlo, hws, hcw⟩, hcode, hini, hy, hlen, hl, hin, hse⟩ := cw
  have hK : vx_Back l R p e below s args y 3 8 (PreOf R mc ms Pc) (PostOf Qc mc ms free) (vx_Post XC mc ms free) := vx_backW (hh := hh) (bytes := bytes) (maxL := maxL) (ret := ret) hM hp.1 hrc hrs hfr hlo hws hcw (fun a' U hW => word_at hW (Or.inl (by first | rfl | simp [Cond.onTables, Cond.keeps, Cond.steady])) hini)
  obtain ⟨hx, hb, hml, ho, -⟩ := S
  obtain ⟨-, ⟨cellB, hcB, hoB, hclB⟩, hPc⟩ := hp
  intro T hT X
  rcases vx_callVX X hx (C := C) (hh := hh) (bytes := bytes) (maxL := maxL) (ret := ret) ho hl hin hse hcode hy hK (by rw [hT]; exact hcB) hoB hclB hg (hsize.trans hml.symm) (argsL := As) (rest := rest) (fun sig h => hn.trans (hlen sig h)) hstack hW (by rw [hb]; exact hdg)
    (fun vm₁ hW₁ => ⟨hf.1, hf.2, hPc (T.setVm vm₁) hT hW₁⟩) with ⟨v, vm₁, ⟨U', l2, c2, s2⟩, hW₁, X', ⟨g', mk, t, L, e1, e2, hq, h1, hL, h2, h3⟩, st⟩ | ⟨q, vm₁, ⟨U', l2, c2, s2⟩, hW₁, X', ⟨g', mk, t, L, E, ce, e1, e2, hq, hce, hcv, hcl, h1, hL, h2, h3⟩, st⟩
  · dsimp only [Pt.U, Pt.locs, Pt.cells, Pt.slots] at X' e1 e2 h1 h2 h3 st
    subst h1; subst h2; subst h3
    exact Or.inl ⟨v, (T.setVm vm₁).calling g' mk (Value.ref b :: As).toArray, t, U', L, hT, X', hL, e1, e2, hq, st⟩
  · dsimp only [Pt.U, Pt.locs, Pt.cells, Pt.slots] at X' e1 e2 h1 h2 h3 st hcl
    subst h1; subst h2; subst h3
    exact Or.inr ⟨q, (T.setVm vm₁).calling g' mk (Value.ref b :: As).toArray, t, U', L, E, ce, hT, X', hL, e1, e2, hq, hce, hcv, vx_cls hW₁ hcl, st⟩
theorem vx_runSX {hh : List (Nat × Nat × Nat × Nat)} (S : CallFix p m c cc nL s args Ts own) (hM : vx_Met l y ws rm Pc Qc XC mc ms free) (cw : vx_CSW R s args own index y bytes maxL ret hh ws rm mc ms n) (hp : PreS s H Pc As)
    (hg : g.method = m) (hn : As.length = n) (hsize : g.locals.size = nL) (hstack : g.stack = As.reverse ++ rest) (hW : 2 * g.monitorRoom + (rest.map fun v => v.category).sum ≤ 8) (hdg : decode cc g.pc = .ok (.invokestatic index, 3)) (hf : cells + mc ≤ R.cells ∧ slots + ms ≤ R.slots) :
    vx_Run p l e R s m args below meth c H locs cells slots mc ms g rest (Qc As.toArray) XC free := by
  obtain ⟨⟨hrc, hrs, hfr, hlo, hws, hcw⟩, hcode, hini, hy, hlen, hl, hstt⟩ := cw
  have hK : vx_Back l R p e below s args y 3 8 (PreOf R mc ms Pc) (PostOf Qc mc ms free) (vx_Post XC mc ms free) := vx_backW (hh := hh) (bytes := bytes) (maxL := maxL) (ret := ret) hM hp.1 hrc hrs hfr hlo hws hcw (fun a' U hW => word_at hW (Or.inl (by first | rfl | simp [Cond.onTables, Cond.keeps, Cond.steady])) hini)
  obtain ⟨hx, hb, hml, ho, -⟩ := S
  intro T hT X
  rcases vx_callSX X hx (hh := hh) (bytes := bytes) (maxL := maxL) (ret := ret) ho hl hstt hini hcode hy hK hg (hsize.trans hml.symm) (argsL := As) (rest := rest) (fun sig h => hn.trans (hlen sig h)) hstack hW (by rw [hb]; exact hdg)
    (fun vm₁ hW₁ => ⟨hf.1, hf.2, hp.2 (T.setVm vm₁) hT hW₁⟩) with ⟨v, vm₁, ⟨U', l2, c2, s2⟩, hW₁, X', ⟨g', mk, t, L, e1, e2, hq, h1, hL, h2, h3⟩, st⟩ | ⟨q, vm₁, ⟨U', l2, c2, s2⟩, hW₁, X', ⟨g', mk, t, L, E, ce, e1, e2, hq, hce, hcv, hcl, h1, hL, h2, h3⟩, st⟩
  · dsimp only [Pt.U, Pt.locs, Pt.cells, Pt.slots] at X' e1 e2 h1 h2 h3 st
    subst h1; subst h2; subst h3
    exact Or.inl ⟨v, (T.setVm vm₁).calling g' mk As.toArray, t, U', L, hT, X', hL, e1, e2, hq, st⟩
  · dsimp only [Pt.U, Pt.locs, Pt.cells, Pt.slots] at X' e1 e2 h1 h2 h3 st hcl
    subst h1; subst h2; subst h3
    exact Or.inr ⟨q, (T.setVm vm₁).calling g' mk As.toArray, t, U', L, E, ce, hT, X', hL, e1, e2, hq, hce, hcv, vx_cls hW₁ hcl, st⟩
end
end VXH
theorem vx_ofWH {l : Launch} {y : MethodName} {ws ws' : List Cond} {rm : Room} {Pc : Array Value → State → Prop} {Qc : Array Value → State → Outcome → State → Prop} {XC : String → State → State → Prop} {mc ms : Nat} {free : Addr → Prop} {cc : ByteArray} {maxL : Nat} {ret : Option FieldType} {hh : List (Nat × Nat × Nat × Nat)}
    (hy : plainName y.cls = true) (hw : ws = Cond.codeWith y cc maxL ret hh :: ws')
    (body : ∀ p e s m args below meth c s₁, BodyLoose p l y (headSpec ws rm) cc maxL ret e s m args below meth c s₁ → c.maxLocals = maxL → Pc args s →
      W p l e (headSpec ws rm).room s m args below meth c s.heap [] 0 0 (vx_MQ below Qc XC args s mc ms free) (entryFrame m args maxL)) : vx_Met l y ws rm Pc Qc XC mc ms free := by
  refine MetFree.of_bodyS (code := cc) (maxLocals := maxL) (ret := ret) hy ?_ ?_
  · intro args s m h hn
    obtain ⟨m9, meth, c, hn9, h1, h2, h3, h4, -, h5, h6, -⟩ := Cond.codeWith_spec (atoms_spec (ws := ws) h _ (by rw [hw]; exact List.mem_cons_self))
    cases hn.symm.trans hn9
    exact ⟨meth, c, h1, h2, h3, h4, h5, h6⟩
  · intro p e s m args below meth c s₁ B hml hP _
    have hh0 : s₁.heap = s.heap := by rw [B.state]; rfl
    obtain ⟨t, a1, o, b1, b2, b3⟩ := body p e s m args below meth c s₁ B hml hP s₁ hh0 (Stand.of_body B)
    exact ⟨t, o, a1, b1, b2, b3⟩
/-! ===== END ===== -/
end
section
/-! names: classes, methods, words -/
abbrev R_Q : String := "QuoteGraph"
abbrev R_Qt : String := "QuoteGraph$Quote"
abbrev R_Bl : String := "QuoteGraph$Blend"
abbrev R_Gr : String := "QuoteGraph$Greater"
abbrev R_Op : String := "QuoteGraph$Option"
abbrev R_La : String := "QuoteGraph$Lattice"
abbrev R_Pa : String := "QuoteGraph$Paths"
abbrev R_Ne : String := "QuoteGraph$Net"
abbrev R_M : String := "QuoteGraphModel"
abbrev R_Nd : String := "QuoteGraph$Node"
abbrev R_En : String := "QuoteGraph$Engine"
abbrev R_Tr : String := "QuoteGraph$Trouble"
abbrev R_L : String := "QuoteGraphLaw"
def F_Q : u_T := fun k => match k with
  | 0 => ("QuoteGraph", "nodes", "[LQuoteGraph$Node;", true)
  | 1 => ("QuoteGraph", "engines", "[LQuoteGraph$Engine;", true)
  | 2 => ("QuoteGraph", "nodeCount", "I", false)
  | 3 => ("QuoteGraph", "toldCount", "I", false)
  | 4 => ("QuoteGraph", "workedCount", "I", false)
  | _ => ("QuoteGraph", "failureCount", "I", false)
def t_Q : Nat → FieldType := fun k => match k with
  | 0 => .array (.object "QuoteGraph$Node")
  | 1 => .array (.object "QuoteGraph$Engine")
  | 2 => .int
  | 3 => .int
  | 4 => .int
  | _ => .int
theorem n_Q : ∀ a, a < 6 → ∀ b, b < 6 → a ≠ b → (F_Q a).2.1 ≠ (F_Q b).2.1 := by decide +kernel
theorem t_Q_ok : ∀ k, k < 6 → parseFieldDescriptor (F_Q k).2.2.1 = some (t_Q k) := by decide +kernel
def F_Qt : u_T := fun k => match k with
  | 0 => ("QuoteGraph$Node", "number", "I", true)
  | 1 => ("QuoteGraph$Node", "parts", "[LQuoteGraph$Node;", true)
  | 2 => ("QuoteGraph$Node", "partCount", "I", false)
  | 3 => ("QuoteGraph$Node", "amount", "J", false)
  | 4 => ("QuoteGraph$Node", "valid", "Z", false)
  | 5 => ("QuoteGraph$Node", "frozen", "Z", false)
  | 6 => ("QuoteGraph$Node", "missed", "Z", false)
  | 7 => ("QuoteGraph$Node", "timesWorked", "I", false)
  | 8 => ("QuoteGraph$Node", "rememberedAmount", "J", false)
  | _ => ("QuoteGraph$Node", "rememberedValid", "Z", false)
def t_Qt : Nat → FieldType := fun k => match k with
  | 0 => .int
  | 1 => .array (.object "QuoteGraph$Node")
  | 2 => .int
  | 3 => .long
  | 4 => .boolean
  | 5 => .boolean
  | 6 => .boolean
  | 7 => .int
  | 8 => .long
  | _ => .boolean
theorem n_Qt : ∀ a, a < 10 → ∀ b, b < 10 → a ≠ b → (F_Qt a).2.1 ≠ (F_Qt b).2.1 := by decide +kernel
theorem t_Qt_ok : ∀ k, k < 10 → parseFieldDescriptor (F_Qt k).2.2.1 = some (t_Qt k) := by decide +kernel
def F_Bl : u_T := fun k => match k with
  | 0 => ("QuoteGraph$Node", "number", "I", true)
  | 1 => ("QuoteGraph$Node", "parts", "[LQuoteGraph$Node;", true)
  | 2 => ("QuoteGraph$Node", "partCount", "I", false)
  | 3 => ("QuoteGraph$Node", "amount", "J", false)
  | 4 => ("QuoteGraph$Node", "valid", "Z", false)
  | 5 => ("QuoteGraph$Node", "frozen", "Z", false)
  | 6 => ("QuoteGraph$Node", "missed", "Z", false)
  | 7 => ("QuoteGraph$Node", "timesWorked", "I", false)
  | 8 => ("QuoteGraph$Node", "rememberedAmount", "J", false)
  | 9 => ("QuoteGraph$Node", "rememberedValid", "Z", false)
  | 10 => ("QuoteGraph$Blend", "firstEighths", "J", true)
  | _ => ("QuoteGraph$Blend", "secondEighths", "J", true)
def t_Bl : Nat → FieldType := fun k => match k with
  | 0 => .int
  | 1 => .array (.object "QuoteGraph$Node")
  | 2 => .int
  | 3 => .long
  | 4 => .boolean
  | 5 => .boolean
  | 6 => .boolean
  | 7 => .int
  | 8 => .long
  | 9 => .boolean
  | 10 => .long
  | _ => .long
theorem n_Bl : ∀ a, a < 12 → ∀ b, b < 12 → a ≠ b → (F_Bl a).2.1 ≠ (F_Bl b).2.1 := by decide +kernel
theorem t_Bl_ok : ∀ k, k < 12 → parseFieldDescriptor (F_Bl k).2.2.1 = some (t_Bl k) := by decide +kernel
def F_Gr : u_T := fun k => match k with
  | 0 => ("QuoteGraph$Node", "number", "I", true)
  | 1 => ("QuoteGraph$Node", "parts", "[LQuoteGraph$Node;", true)
  | 2 => ("QuoteGraph$Node", "partCount", "I", false)
  | 3 => ("QuoteGraph$Node", "amount", "J", false)
  | 4 => ("QuoteGraph$Node", "valid", "Z", false)
  | 5 => ("QuoteGraph$Node", "frozen", "Z", false)
  | 6 => ("QuoteGraph$Node", "missed", "Z", false)
  | 7 => ("QuoteGraph$Node", "timesWorked", "I", false)
  | 8 => ("QuoteGraph$Node", "rememberedAmount", "J", false)
  | _ => ("QuoteGraph$Node", "rememberedValid", "Z", false)
def t_Gr : Nat → FieldType := fun k => match k with
  | 0 => .int
  | 1 => .array (.object "QuoteGraph$Node")
  | 2 => .int
  | 3 => .long
  | 4 => .boolean
  | 5 => .boolean
  | 6 => .boolean
  | 7 => .int
  | 8 => .long
  | _ => .boolean
theorem n_Gr : ∀ a, a < 10 → ∀ b, b < 10 → a ≠ b → (F_Gr a).2.1 ≠ (F_Gr b).2.1 := by decide +kernel
theorem t_Gr_ok : ∀ k, k < 10 → parseFieldDescriptor (F_Gr k).2.2.1 = some (t_Gr k) := by decide +kernel
def F_Op : u_T := fun k => match k with
  | 0 => ("QuoteGraph$Node", "number", "I", true)
  | 1 => ("QuoteGraph$Node", "parts", "[LQuoteGraph$Node;", true)
  | 2 => ("QuoteGraph$Node", "partCount", "I", false)
  | 3 => ("QuoteGraph$Node", "amount", "J", false)
  | 4 => ("QuoteGraph$Node", "valid", "Z", false)
  | 5 => ("QuoteGraph$Node", "frozen", "Z", false)
  | 6 => ("QuoteGraph$Node", "missed", "Z", false)
  | 7 => ("QuoteGraph$Node", "timesWorked", "I", false)
  | 8 => ("QuoteGraph$Node", "rememberedAmount", "J", false)
  | 9 => ("QuoteGraph$Node", "rememberedValid", "Z", false)
  | 10 => ("QuoteGraph$Option", "spot", "LQuoteGraph$Node;", true)
  | 11 => ("QuoteGraph$Option", "move", "LQuoteGraph$Node;", true)
  | 12 => ("QuoteGraph$Option", "kind", "I", true)
  | 13 => ("QuoteGraph$Option", "strike", "J", true)
  | 14 => ("QuoteGraph$Option", "steps", "I", true)
  | 15 => ("QuoteGraph$Option", "rate", "LQuoteGraph$Node;", false)
  | 16 => ("QuoteGraph$Option", "knock", "LQuoteGraph$Node;", false)
  | 17 => ("QuoteGraph$Option", "chance", "I", false)
  | 18 => ("QuoteGraph$Option", "american", "Z", false)
  | 19 => ("QuoteGraph$Option", "engine", "LQuoteGraph$Engine;", false)
  | _ => ("QuoteGraph$Option", "size", "I", false)
def t_Op : Nat → FieldType := fun k => match k with
  | 0 => .int
  | 1 => .array (.object "QuoteGraph$Node")
  | 2 => .int
  | 3 => .long
  | 4 => .boolean
  | 5 => .boolean
  | 6 => .boolean
  | 7 => .int
  | 8 => .long
  | 9 => .boolean
  | 10 => .object "QuoteGraph$Node"
  | 11 => .object "QuoteGraph$Node"
  | 12 => .int
  | 13 => .long
  | 14 => .int
  | 15 => .object "QuoteGraph$Node"
  | 16 => .object "QuoteGraph$Node"
  | 17 => .int
  | 18 => .boolean
  | 19 => .object "QuoteGraph$Engine"
  | _ => .int
theorem n_Op : ∀ a, a < 21 → ∀ b, b < 21 → a ≠ b → (F_Op a).2.1 ≠ (F_Op b).2.1 := by decide +kernel
theorem t_Op_ok : ∀ k, k < 21 → parseFieldDescriptor (F_Op k).2.2.1 = some (t_Op k) := by decide +kernel
def F_La : u_T := fun k => match k with
  | 0 => ("QuoteGraph$Engine", "leastSize", "I", true)
  | 1 => ("QuoteGraph$Engine", "mostSize", "I", true)
  | _ => ("QuoteGraph$Lattice", "row", "[J", true)
def t_La : Nat → FieldType := fun k => match k with
  | 0 => .int
  | 1 => .int
  | _ => .array .long
theorem n_La : ∀ a, a < 3 → ∀ b, b < 3 → a ≠ b → (F_La a).2.1 ≠ (F_La b).2.1 := by decide +kernel
theorem t_La_ok : ∀ k, k < 3 → parseFieldDescriptor (F_La k).2.2.1 = some (t_La k) := by decide +kernel
def F_Pa : u_T := fun k => match k with
  | 0 => ("QuoteGraph$Engine", "leastSize", "I", true)
  | 1 => ("QuoteGraph$Engine", "mostSize", "I", true)
  | _ => ("QuoteGraph$Paths", "draw", "J", false)
def t_Pa : Nat → FieldType := fun k => match k with
  | 0 => .int
  | 1 => .int
  | _ => .long
theorem n_Pa : ∀ a, a < 3 → ∀ b, b < 3 → a ≠ b → (F_Pa a).2.1 ≠ (F_Pa b).2.1 := by decide +kernel
theorem t_Pa_ok : ∀ k, k < 3 → parseFieldDescriptor (F_Pa k).2.2.1 = some (t_Pa k) := by decide +kernel
def F_Ne : u_T := fun k => match k with
  | 0 => ("QuoteGraph$Engine", "leastSize", "I", true)
  | 1 => ("QuoteGraph$Engine", "mostSize", "I", true)
  | _ => ("QuoteGraph$Net", "row", "[J", true)
def t_Ne : Nat → FieldType := fun k => match k with
  | 0 => .int
  | 1 => .int
  | _ => .array .long
theorem n_Ne : ∀ a, a < 3 → ∀ b, b < 3 → a ≠ b → (F_Ne a).2.1 ≠ (F_Ne b).2.1 := by decide +kernel
theorem t_Ne_ok : ∀ k, k < 3 → parseFieldDescriptor (F_Ne k).2.2.1 = some (t_Ne k) := by decide +kernel
def F_M : u_T := fun k => match k with
  | 0 => ("QuoteGraphModel", "sort", "[I", true)
  | 1 => ("QuoteGraphModel", "part", "[I", true)
  | 2 => ("QuoteGraphModel", "held", "[J", true)
  | 3 => ("QuoteGraphModel", "valid", "[Z", true)
  | 4 => ("QuoteGraphModel", "frozen", "[Z", true)
  | 5 => ("QuoteGraphModel", "missed", "[Z", true)
  | 6 => ("QuoteGraphModel", "worked", "[I", true)
  | 7 => ("QuoteGraphModel", "weightA", "[J", true)
  | 8 => ("QuoteGraphModel", "weightB", "[J", true)
  | 9 => ("QuoteGraphModel", "kind", "[I", true)
  | 10 => ("QuoteGraphModel", "steps", "[I", true)
  | 11 => ("QuoteGraphModel", "chance", "[I", true)
  | 12 => ("QuoteGraphModel", "american", "[Z", true)
  | 13 => ("QuoteGraphModel", "engine", "[I", true)
  | 14 => ("QuoteGraphModel", "size", "[I", true)
  | 15 => ("QuoteGraphModel", "list", "[I", true)
  | 16 => ("QuoteGraphModel", "next", "[I", true)
  | 17 => ("QuoteGraphModel", "oldHeld", "[J", true)
  | 18 => ("QuoteGraphModel", "oldValid", "[Z", true)
  | 19 => ("QuoteGraphModel", "row", "[J", true)
  | 20 => ("QuoteGraphModel", "fresh", "[J", true)
  | 21 => ("QuoteGraphModel", "nodes", "I", false)
  | 22 => ("QuoteGraphModel", "told", "I", false)
  | 23 => ("QuoteGraphModel", "workedAll", "I", false)
  | 24 => ("QuoteGraphModel", "troubles", "I", false)
  | 25 => ("QuoteGraphModel", "thrown", "I", false)
  | 26 => ("QuoteGraphModel", "trouble", "I", false)
  | 27 => ("QuoteGraphModel", "now", "I", false)
  | 28 => ("QuoteGraphModel", "spot", "J", false)
  | 29 => ("QuoteGraphModel", "move", "J", false)
  | 30 => ("QuoteGraphModel", "knock", "J", false)
  | _ => ("QuoteGraphModel", "discount", "J", false)
def t_M : Nat → FieldType := fun k => match k with
  | 0 => .array .int
  | 1 => .array .int
  | 2 => .array .long
  | 3 => .array .boolean
  | 4 => .array .boolean
  | 5 => .array .boolean
  | 6 => .array .int
  | 7 => .array .long
  | 8 => .array .long
  | 9 => .array .int
  | 10 => .array .int
  | 11 => .array .int
  | 12 => .array .boolean
  | 13 => .array .int
  | 14 => .array .int
  | 15 => .array .int
  | 16 => .array .int
  | 17 => .array .long
  | 18 => .array .boolean
  | 19 => .array .long
  | 20 => .array .long
  | 21 => .int
  | 22 => .int
  | 23 => .int
  | 24 => .int
  | 25 => .int
  | 26 => .int
  | 27 => .int
  | 28 => .long
  | 29 => .long
  | 30 => .long
  | _ => .long
theorem n_M : ∀ a, a < 32 → ∀ b, b < 32 → a ≠ b → (F_M a).2.1 ≠ (F_M b).2.1 := by decide +kernel
theorem t_M_ok : ∀ k, k < 32 → parseFieldDescriptor (F_M k).2.2.1 = some (t_M k) := by decide +kernel
abbrev classes : List vw_C := [(R_Q, F_Q, 6), (R_Qt, F_Qt, 10), (R_Bl, F_Bl, 12), (R_Gr, F_Gr, 10), (R_Op, F_Op, 21), (R_La, F_La, 3), (R_Pa, F_Pa, 3), (R_Ne, F_Ne, 3), (R_M, F_M, 32)]
def y_Bl_init : MethodName := ⟨"QuoteGraph$Blend", "<init>", "(ILQuoteGraph$Node;LQuoteGraph$Node;JJ)V"⟩
abbrev b_Bl_init : ByteArray := prog_2_method_1_code
def y_Bl_sort : MethodName := ⟨"QuoteGraph$Blend", "sort", "()I"⟩
abbrev b_Bl_sort : ByteArray := prog_2_method_2_code
def y_Bl_workOut : MethodName := ⟨"QuoteGraph$Blend", "workOut", "()J"⟩
abbrev b_Bl_workOut : ByteArray := prog_2_method_3_code
def y_En_init : MethodName := ⟨"QuoteGraph$Engine", "<init>", "(II)V"⟩
abbrev b_En_init : ByteArray := prog_3_method_1_code
def y_Gr_init : MethodName := ⟨"QuoteGraph$Greater", "<init>", "(ILQuoteGraph$Node;LQuoteGraph$Node;)V"⟩
abbrev b_Gr_init : ByteArray := prog_4_method_1_code
def y_Gr_sort : MethodName := ⟨"QuoteGraph$Greater", "sort", "()I"⟩
abbrev b_Gr_sort : ByteArray := prog_4_method_2_code
def y_Gr_workOut : MethodName := ⟨"QuoteGraph$Greater", "workOut", "()J"⟩
abbrev b_Gr_workOut : ByteArray := prog_4_method_3_code
def y_L_blend : MethodName := ⟨"QuoteGraphLaw", "blend", "(LQuoteGraph;IIDD[J)I"⟩
abbrev b_L_blend : ByteArray := method_4_code
def y_L_bump : MethodName := ⟨"QuoteGraphLaw", "bump", "(LQuoteGraph;IID[D)I"⟩
abbrev b_L_bump : ByteArray := method_12_code
def y_L_engine : MethodName := ⟨"QuoteGraphLaw", "engine", "(LQuoteGraph;III)I"⟩
abbrev b_L_engine : ByteArray := method_8_code
def y_L_freeze : MethodName := ⟨"QuoteGraphLaw", "freeze", "(LQuoteGraph;IZ)I"⟩
abbrev b_L_freeze : ByteArray := method_11_code
def y_L_greater : MethodName := ⟨"QuoteGraphLaw", "greater", "(LQuoteGraph;II[J)I"⟩
abbrev b_L_greater : ByteArray := method_5_code
def y_L_law : MethodName := ⟨"QuoteGraphLaw", "law", "([I)Z"⟩
abbrev b_L_law : ByteArray := code
def y_L_node : MethodName := ⟨"QuoteGraphLaw", "node", "(LQuoteGraph;II[J)I"⟩
abbrev b_L_node : ByteArray := method_14_code
def y_L_option : MethodName := ⟨"QuoteGraphLaw", "option", "(LQuoteGraph;IIIDI[J)I"⟩
abbrev b_L_option : ByteArray := method_6_code
def y_L_quote : MethodName := ⟨"QuoteGraphLaw", "quote", "(LQuoteGraph;D[J)I"⟩
abbrev b_L_quote : ByteArray := method_3_code
def y_L_set : MethodName := ⟨"QuoteGraphLaw", "set", "(LQuoteGraph;ID[J)I"⟩
abbrev b_L_set : ByteArray := method_9_code
def y_L_terms : MethodName := ⟨"QuoteGraphLaw", "terms", "(LQuoteGraph;IIIZI)I"⟩
abbrev b_L_terms : ByteArray := method_7_code
def y_L_uses : MethodName := ⟨"QuoteGraphLaw", "uses", "(LQuoteGraph;II[J)I"⟩
abbrev b_L_uses : ByteArray := method_13_code
def y_L_value : MethodName := ⟨"QuoteGraphLaw", "value", "(LQuoteGraph;I[D)I"⟩
abbrev b_L_value : ByteArray := method_10_code
def y_La_checkSuits : MethodName := ⟨"QuoteGraph$Lattice", "checkSuits", "(LQuoteGraph$Option;)V"⟩
abbrev b_La_checkSuits : ByteArray := prog_5_method_2_code
def y_La_init : MethodName := ⟨"QuoteGraph$Lattice", "<init>", "()V"⟩
abbrev b_La_init : ByteArray := prog_5_method_1_code
def y_La_price : MethodName := ⟨"QuoteGraph$Lattice", "price", "(LQuoteGraph$Option;J)J"⟩
abbrev b_La_price : ByteArray := prog_5_method_3_code
def y_La_stepBack : MethodName := ⟨"QuoteGraph$Lattice", "stepBack", "(LQuoteGraph$Option;JI)V"⟩
abbrev b_La_stepBack : ByteArray := prog_5_method_4_code
def y_M_ask : MethodName := ⟨"QuoteGraphModel", "ask", "(I)Z"⟩
abbrev b_M_ask : ByteArray := prog_13_method_27_code
def y_M_badPart : MethodName := ⟨"QuoteGraphModel", "badPart", "(II)Z"⟩
abbrev b_M_badPart : ByteArray := prog_13_method_12_code
def y_M_blend : MethodName := ⟨"QuoteGraphModel", "blend", "(IIDD)I"⟩
abbrev b_M_blend : ByteArray := prog_13_method_8_code
def y_M_bounded : MethodName := ⟨"QuoteGraphModel", "bounded", "(J)J"⟩
abbrev b_M_bounded : ByteArray := prog_13_method_19_code
def y_M_bump : MethodName := ⟨"QuoteGraphModel", "bump", "(IID)D"⟩
abbrev b_M_bump : ByteArray := prog_13_method_30_code
def y_M_count : MethodName := ⟨"QuoteGraphModel", "count", "(I)I"⟩
abbrev b_M_count : ByteArray := prog_13_method_33_code
def y_M_create : MethodName := ⟨"QuoteGraphModel", "create", "(III)I"⟩
abbrev b_M_create : ByteArray := prog_13_method_6_code
def y_M_earlier : MethodName := ⟨"QuoteGraphModel", "earlier", "(JJ)J"⟩
abbrev b_M_earlier : ByteArray := prog_13_method_21_code
def y_M_engine : MethodName := ⟨"QuoteGraphModel", "engine", "(III)V"⟩
abbrev b_M_engine : ByteArray := prog_13_method_17_code
def y_M_far : MethodName := ⟨"QuoteGraphModel", "far", "(DD)Z"⟩
abbrev b_M_far : ByteArray := prog_13_method_5_code
def y_M_floored : MethodName := ⟨"QuoteGraphModel", "floored", "(JJ)J"⟩
abbrev b_M_floored : ByteArray := prog_13_method_3_code
def y_M_freeze : MethodName := ⟨"QuoteGraphModel", "freeze", "(IZ)V"⟩
abbrev b_M_freeze : ByteArray := prog_13_method_29_code
def y_M_greater : MethodName := ⟨"QuoteGraphModel", "greater", "(II)I"⟩
abbrev b_M_greater : ByteArray := prog_13_method_9_code
def y_M_hangs : MethodName := ⟨"QuoteGraphModel", "hangs", "(II)Z"⟩
abbrev b_M_hangs : ByteArray := prog_13_method_11_code
def y_M_init : MethodName := ⟨"QuoteGraphModel", "<init>", "()V"⟩
abbrev b_M_init : ByteArray := prog_13_method_1_code
def y_M_lattice : MethodName := ⟨"QuoteGraphModel", "lattice", "()J"⟩
abbrev b_M_lattice : ByteArray := prog_13_method_22_code
def y_M_net : MethodName := ⟨"QuoteGraphModel", "net", "()J"⟩
abbrev b_M_net : ByteArray := prog_13_method_24_code
def y_M_no : MethodName := ⟨"QuoteGraphModel", "no", "(I)Z"⟩
abbrev b_M_no : ByteArray := prog_13_method_4_code
def y_M_noOption : MethodName := ⟨"QuoteGraphModel", "noOption", "(I)Z"⟩
abbrev b_M_noOption : ByteArray := prog_13_method_13_code
def y_M_node : MethodName := ⟨"QuoteGraphModel", "node", "(II)I"⟩
abbrev b_M_node : ByteArray := prog_13_method_32_code
def y_M_option : MethodName := ⟨"QuoteGraphModel", "option", "(IIIDI)I"⟩
abbrev b_M_option : ByteArray := prog_13_method_10_code
def y_M_paths : MethodName := ⟨"QuoteGraphModel", "paths", "()J"⟩
abbrev b_M_paths : ByteArray := prog_13_method_23_code
def y_M_payoff : MethodName := ⟨"QuoteGraphModel", "payoff", "(J)J"⟩
abbrev b_M_payoff : ByteArray := prog_13_method_20_code
def y_M_quote : MethodName := ⟨"QuoteGraphModel", "quote", "(D)I"⟩
abbrev b_M_quote : ByteArray := prog_13_method_7_code
def y_M_result : MethodName := ⟨"QuoteGraphModel", "result", "(I)J"⟩
abbrev b_M_result : ByteArray := prog_13_method_26_code
def y_M_set : MethodName := ⟨"QuoteGraphModel", "set", "(ID)I"⟩
abbrev b_M_set : ByteArray := prog_13_method_18_code
def y_M_tell : MethodName := ⟨"QuoteGraphModel", "tell", "(I)V"⟩
abbrev b_M_tell : ByteArray := prog_13_method_14_code
def y_M_terms : MethodName := ⟨"QuoteGraphModel", "terms", "(IIIZI)V"⟩
abbrev b_M_terms : ByteArray := prog_13_method_16_code
def y_M_thrown : MethodName := ⟨"QuoteGraphModel", "thrown", "()I"⟩
abbrev b_M_thrown : ByteArray := prog_13_method_2_code
def y_M_users : MethodName := ⟨"QuoteGraphModel", "users", "(II)I"⟩
abbrev b_M_users : ByteArray := prog_13_method_15_code
def y_M_uses : MethodName := ⟨"QuoteGraphModel", "uses", "(II)Z"⟩
abbrev b_M_uses : ByteArray := prog_13_method_31_code
def y_M_value : MethodName := ⟨"QuoteGraphModel", "value", "(I)D"⟩
abbrev b_M_value : ByteArray := prog_13_method_28_code
def y_M_valueOfOption : MethodName := ⟨"QuoteGraphModel", "valueOfOption", "(I)J"⟩
abbrev b_M_valueOfOption : ByteArray := prog_13_method_25_code
def y_Nd_bit : MethodName := ⟨"QuoteGraph$Node", "bit", "()I"⟩
abbrev b_Nd_bit : ByteArray := prog_7_method_4_code
def y_Nd_init : MethodName := ⟨"QuoteGraph$Node", "<init>", "(I[LQuoteGraph$Node;I)V"⟩
abbrev b_Nd_init : ByteArray := prog_7_method_1_code
def y_Nd_partBits : MethodName := ⟨"QuoteGraph$Node", "partBits", "()I"⟩
abbrev b_Nd_partBits : ByteArray := prog_7_method_5_code
def y_Nd_remember : MethodName := ⟨"QuoteGraph$Node", "remember", "()V"⟩
abbrev b_Nd_remember : ByteArray := prog_7_method_6_code
def y_Nd_restore : MethodName := ⟨"QuoteGraph$Node", "restore", "()V"⟩
abbrev b_Nd_restore : ByteArray := prog_7_method_7_code
def y_Ne_checkSuits : MethodName := ⟨"QuoteGraph$Net", "checkSuits", "(LQuoteGraph$Option;)V"⟩
abbrev b_Ne_checkSuits : ByteArray := prog_6_method_2_code
def y_Ne_init : MethodName := ⟨"QuoteGraph$Net", "<init>", "()V"⟩
abbrev b_Ne_init : ByteArray := prog_6_method_1_code
def y_Ne_price : MethodName := ⟨"QuoteGraph$Net", "price", "(LQuoteGraph$Option;J)J"⟩
abbrev b_Ne_price : ByteArray := prog_6_method_3_code
def y_Ne_stepBack : MethodName := ⟨"QuoteGraph$Net", "stepBack", "(LQuoteGraph$Option;JI)V"⟩
abbrev b_Ne_stepBack : ByteArray := prog_6_method_4_code
def y_Op_discount : MethodName := ⟨"QuoteGraph$Option", "discount", "()J"⟩
abbrev b_Op_discount : ByteArray := prog_8_method_5_code
def y_Op_heldAt : MethodName := ⟨"QuoteGraph$Option", "heldAt", "(JJ)J"⟩
abbrev b_Op_heldAt : ByteArray := prog_8_method_10_code
def y_Op_init : MethodName := ⟨"QuoteGraph$Option", "<init>", "(ILQuoteGraph$Node;LQuoteGraph$Node;IJI)V"⟩
abbrev b_Op_init : ByteArray := prog_8_method_1_code
def y_Op_isOut : MethodName := ⟨"QuoteGraph$Option", "isOut", "(J)Z"⟩
abbrev b_Op_isOut : ByteArray := prog_8_method_7_code
def y_Op_payoff : MethodName := ⟨"QuoteGraph$Option", "payoff", "(J)J"⟩
abbrev b_Op_payoff : ByteArray := prog_8_method_8_code
def y_Op_payoffInside : MethodName := ⟨"QuoteGraph$Option", "payoffInside", "(J)J"⟩
abbrev b_Op_payoffInside : ByteArray := prog_8_method_9_code
def y_Op_priceAt : MethodName := ⟨"QuoteGraph$Option", "priceAt", "(I)J"⟩
abbrev b_Op_priceAt : ByteArray := prog_8_method_6_code
def y_Op_sort : MethodName := ⟨"QuoteGraph$Option", "sort", "()I"⟩
abbrev b_Op_sort : ByteArray := prog_8_method_2_code
def y_Op_takeParts : MethodName := ⟨"QuoteGraph$Option", "takeParts", "(LQuoteGraph$Node;LQuoteGraph$Node;)V"⟩
abbrev b_Op_takeParts : ByteArray := prog_8_method_3_code
def y_Op_workOut : MethodName := ⟨"QuoteGraph$Option", "workOut", "()J"⟩
abbrev b_Op_workOut : ByteArray := prog_8_method_4_code
def y_Pa_checkSuits : MethodName := ⟨"QuoteGraph$Paths", "checkSuits", "(LQuoteGraph$Option;)V"⟩
abbrev b_Pa_checkSuits : ByteArray := prog_9_method_2_code
def y_Pa_drawsUp : MethodName := ⟨"QuoteGraph$Paths", "drawsUp", "(I)Z"⟩
abbrev b_Pa_drawsUp : ByteArray := prog_9_method_5_code
def y_Pa_endOfPath : MethodName := ⟨"QuoteGraph$Paths", "endOfPath", "(LQuoteGraph$Option;)J"⟩
abbrev b_Pa_endOfPath : ByteArray := prog_9_method_4_code
def y_Pa_init : MethodName := ⟨"QuoteGraph$Paths", "<init>", "()V"⟩
abbrev b_Pa_init : ByteArray := prog_9_method_1_code
def y_Pa_price : MethodName := ⟨"QuoteGraph$Paths", "price", "(LQuoteGraph$Option;J)J"⟩
abbrev b_Pa_price : ByteArray := prog_9_method_3_code
def y_Q_add : MethodName := ⟨"QuoteGraph", "add", "(LQuoteGraph$Node;)I"⟩
abbrev b_Q_add : ByteArray := prog_1_method_15_code
def y_Q_ask : MethodName := ⟨"QuoteGraph", "ask", "(LQuoteGraph$Node;)V"⟩
abbrev b_Q_ask : ByteArray := prog_1_method_30_code
def y_Q_bitsUsedBy : MethodName := ⟨"QuoteGraph", "bitsUsedBy", "(LQuoteGraph$Node;)I"⟩
abbrev b_Q_bitsUsedBy : ByteArray := prog_1_method_27_code
def y_Q_blend : MethodName := ⟨"QuoteGraph", "blend", "(IIDD)I"⟩
abbrev b_Q_blend : ByteArray := prog_1_method_3_code
def y_Q_bump : MethodName := ⟨"QuoteGraph", "bump", "(IID)D"⟩
abbrev b_Q_bump : ByteArray := prog_1_method_11_code
def y_Q_checkNotFrozen : MethodName := ⟨"QuoteGraph", "checkNotFrozen", "(LQuoteGraph$Option;)V"⟩
abbrev b_Q_checkNotFrozen : ByteArray := prog_1_method_17_code
def y_Q_checkRange : MethodName := ⟨"QuoteGraph", "checkRange", "(III)V"⟩
abbrev b_Q_checkRange : ByteArray := prog_1_method_18_code
def y_Q_checkRoom : MethodName := ⟨"QuoteGraph", "checkRoom", "()V"⟩
abbrev b_Q_checkRoom : ByteArray := prog_1_method_16_code
def y_Q_count : MethodName := ⟨"QuoteGraph", "count", "(I)I"⟩
abbrev b_Q_count : ByteArray := prog_1_method_14_code
def y_Q_eighthsOf : MethodName := ⟨"QuoteGraph", "eighthsOf", "(DI)J"⟩
abbrev b_Q_eighthsOf : ByteArray := prog_1_method_19_code
def y_Q_engine : MethodName := ⟨"QuoteGraph", "engine", "(III)V"⟩
abbrev b_Q_engine : ByteArray := prog_1_method_7_code
def y_Q_extraPartAt : MethodName := ⟨"QuoteGraph", "extraPartAt", "(ILQuoteGraph$Option;)LQuoteGraph$Node;"⟩
abbrev b_Q_extraPartAt : ByteArray := prog_1_method_25_code
def y_Q_freeze : MethodName := ⟨"QuoteGraph", "freeze", "(IZ)V"⟩
abbrev b_Q_freeze : ByteArray := prog_1_method_10_code
def y_Q_greater : MethodName := ⟨"QuoteGraph", "greater", "(II)I"⟩
abbrev b_Q_greater : ByteArray := prog_1_method_4_code
def y_Q_hangsOn : MethodName := ⟨"QuoteGraph", "hangsOn", "(LQuoteGraph$Node;LQuoteGraph$Node;)Z"⟩
abbrev b_Q_hangsOn : ByteArray := prog_1_method_26_code
def y_Q_init : MethodName := ⟨"QuoteGraph", "<init>", "()V"⟩
abbrev b_Q_init : ByteArray := prog_1_method_1_code
def y_Q_isThere : MethodName := ⟨"QuoteGraph", "isThere", "(I)Z"⟩
abbrev b_Q_isThere : ByteArray := prog_1_method_21_code
def y_Q_makeUsersStale : MethodName := ⟨"QuoteGraph", "makeUsersStale", "(LQuoteGraph$Node;)V"⟩
abbrev b_Q_makeUsersStale : ByteArray := prog_1_method_33_code
def y_Q_node : MethodName := ⟨"QuoteGraph", "node", "(II)I"⟩
abbrev b_Q_node : ByteArray := prog_1_method_13_code
def y_Q_nodeAt : MethodName := ⟨"QuoteGraph", "nodeAt", "(I)LQuoteGraph$Node;"⟩
abbrev b_Q_nodeAt : ByteArray := prog_1_method_22_code
def y_Q_notTooLarge : MethodName := ⟨"QuoteGraph", "notTooLarge", "(J)J"⟩
abbrev b_Q_notTooLarge : ByteArray := prog_1_method_37_code
def y_Q_numberOf : MethodName := ⟨"QuoteGraph", "numberOf", "(J)D"⟩
abbrev b_Q_numberOf : ByteArray := prog_1_method_20_code
def y_Q_option : MethodName := ⟨"QuoteGraph", "option", "(IIIDI)I"⟩
abbrev b_Q_option : ByteArray := prog_1_method_5_code
def y_Q_optionAt : MethodName := ⟨"QuoteGraph", "optionAt", "(I)LQuoteGraph$Option;"⟩
abbrev b_Q_optionAt : ByteArray := prog_1_method_24_code
def y_Q_quote : MethodName := ⟨"QuoteGraph", "quote", "(D)I"⟩
abbrev b_Q_quote : ByteArray := prog_1_method_2_code
def y_Q_quoteAt : MethodName := ⟨"QuoteGraph", "quoteAt", "(I)LQuoteGraph$Quote;"⟩
abbrev b_Q_quoteAt : ByteArray := prog_1_method_23_code
def y_Q_raise : MethodName := ⟨"QuoteGraph", "raise", "(LQuoteGraph$Trouble;)V"⟩
abbrev b_Q_raise : ByteArray := prog_1_method_32_code
def y_Q_rememberAll : MethodName := ⟨"QuoteGraph", "rememberAll", "()V"⟩
abbrev b_Q_rememberAll : ByteArray := prog_1_method_34_code
def y_Q_restoreAll : MethodName := ⟨"QuoteGraph", "restoreAll", "()V"⟩
abbrev b_Q_restoreAll : ByteArray := prog_1_method_35_code
def y_Q_rounded : MethodName := ⟨"QuoteGraph", "rounded", "(JI)J"⟩
abbrev b_Q_rounded : ByteArray := prog_1_method_36_code
def y_Q_set : MethodName := ⟨"QuoteGraph", "set", "(ID)I"⟩
abbrev b_Q_set : ByteArray := prog_1_method_8_code
def y_Q_tell : MethodName := ⟨"QuoteGraph", "tell", "(LQuoteGraph$Node;)V"⟩
abbrev b_Q_tell : ByteArray := prog_1_method_28_code
def y_Q_tellUsersOf : MethodName := ⟨"QuoteGraph", "tellUsersOf", "(LQuoteGraph$Node;)V"⟩
abbrev b_Q_tellUsersOf : ByteArray := prog_1_method_29_code
def y_Q_terms : MethodName := ⟨"QuoteGraph", "terms", "(IIIZI)V"⟩
abbrev b_Q_terms : ByteArray := prog_1_method_6_code
def y_Q_tryToAsk : MethodName := ⟨"QuoteGraph", "tryToAsk", "(LQuoteGraph$Node;)LQuoteGraph$Trouble;"⟩
abbrev b_Q_tryToAsk : ByteArray := prog_1_method_31_code
def y_Q_uses : MethodName := ⟨"QuoteGraph", "uses", "(II)Z"⟩
abbrev b_Q_uses : ByteArray := prog_1_method_12_code
def y_Q_value : MethodName := ⟨"QuoteGraph", "value", "(I)D"⟩
abbrev b_Q_value : ByteArray := prog_1_method_9_code
def y_Qt_init : MethodName := ⟨"QuoteGraph$Quote", "<init>", "(IJ)V"⟩
abbrev b_Qt_init : ByteArray := prog_10_method_1_code
def y_Qt_sort : MethodName := ⟨"QuoteGraph$Quote", "sort", "()I"⟩
abbrev b_Qt_sort : ByteArray := prog_10_method_2_code
def y_Qt_workOut : MethodName := ⟨"QuoteGraph$Quote", "workOut", "()J"⟩
abbrev b_Qt_workOut : ByteArray := prog_10_method_3_code
def GW : List Cond := lw_tbl.filter goodWord
theorem gw_of (i : Nat) (w : Cond) (h : lw_tbl[i]? = some w) (g : goodWord w = true) : w ∈ GW := List.mem_filter.mpr ⟨List.mem_of_getElem? h, g⟩
theorem GW_good : GW.all goodWord = true := by rw [List.all_eq_true]; intro w h; exact (List.mem_filter.mp h).2
theorem i_Q : ∀ w ∈ u_ws R_Q F_Q 6, w ∈ GW := by intro w h; exact List.mem_filter.mpr ⟨(show ∀ w ∈ u_ws R_Q F_Q 6, w ∈ lw_tbl by decide +kernel) w h, (show ∀ w ∈ u_ws R_Q F_Q 6, goodWord w = true by decide +kernel) w h⟩
theorem i_Qt : ∀ w ∈ u_ws R_Qt F_Qt 10, w ∈ GW := by intro w h; exact List.mem_filter.mpr ⟨(show ∀ w ∈ u_ws R_Qt F_Qt 10, w ∈ lw_tbl by decide +kernel) w h, (show ∀ w ∈ u_ws R_Qt F_Qt 10, goodWord w = true by decide +kernel) w h⟩
theorem i_Bl : ∀ w ∈ u_ws R_Bl F_Bl 12, w ∈ GW := by intro w h; exact List.mem_filter.mpr ⟨(show ∀ w ∈ u_ws R_Bl F_Bl 12, w ∈ lw_tbl by decide +kernel) w h, (show ∀ w ∈ u_ws R_Bl F_Bl 12, goodWord w = true by decide +kernel) w h⟩
theorem i_Gr : ∀ w ∈ u_ws R_Gr F_Gr 10, w ∈ GW := by intro w h; exact List.mem_filter.mpr ⟨(show ∀ w ∈ u_ws R_Gr F_Gr 10, w ∈ lw_tbl by decide +kernel) w h, (show ∀ w ∈ u_ws R_Gr F_Gr 10, goodWord w = true by decide +kernel) w h⟩
theorem i_Op : ∀ w ∈ u_ws R_Op F_Op 21, w ∈ GW := by intro w h; exact List.mem_filter.mpr ⟨(show ∀ w ∈ u_ws R_Op F_Op 21, w ∈ lw_tbl by decide +kernel) w h, (show ∀ w ∈ u_ws R_Op F_Op 21, goodWord w = true by decide +kernel) w h⟩
theorem i_La : ∀ w ∈ u_ws R_La F_La 3, w ∈ GW := by intro w h; exact List.mem_filter.mpr ⟨(show ∀ w ∈ u_ws R_La F_La 3, w ∈ lw_tbl by decide +kernel) w h, (show ∀ w ∈ u_ws R_La F_La 3, goodWord w = true by decide +kernel) w h⟩
theorem i_Pa : ∀ w ∈ u_ws R_Pa F_Pa 3, w ∈ GW := by intro w h; exact List.mem_filter.mpr ⟨(show ∀ w ∈ u_ws R_Pa F_Pa 3, w ∈ lw_tbl by decide +kernel) w h, (show ∀ w ∈ u_ws R_Pa F_Pa 3, goodWord w = true by decide +kernel) w h⟩
theorem i_Ne : ∀ w ∈ u_ws R_Ne F_Ne 3, w ∈ GW := by intro w h; exact List.mem_filter.mpr ⟨(show ∀ w ∈ u_ws R_Ne F_Ne 3, w ∈ lw_tbl by decide +kernel) w h, (show ∀ w ∈ u_ws R_Ne F_Ne 3, goodWord w = true by decide +kernel) w h⟩
theorem i_M : ∀ w ∈ u_ws R_M F_M 32, w ∈ GW := by intro w h; exact List.mem_filter.mpr ⟨(show ∀ w ∈ u_ws R_M F_M 32, w ∈ lw_tbl by decide +kernel) w h, (show ∀ w ∈ u_ws R_M F_M 32, goodWord w = true by decide +kernel) w h⟩
end
section
/-! the words of the tables, by their places -/
theorem gw_0 : (Cond.selects "java/lang/Throwable" ⟨"java/lang/Throwable", "fillInStackTrace", "(I)Ljava/lang/Throwable;"⟩ ⟨"java/lang/Throwable", "fillInStackTrace", "(I)Ljava/lang/Throwable;"⟩) ∈ GW := gw_of 0 _ (by decide +kernel) rfl
theorem gw_1 : (Cond.selects "QuoteGraph" y_Q_checkRoom y_Q_checkRoom) ∈ GW := gw_of 1 _ (by decide +kernel) rfl
theorem gw_2 : (Cond.selects "QuoteGraph" y_Q_add y_Q_add) ∈ GW := gw_of 2 _ (by decide +kernel) rfl
theorem gw_3 : (Cond.selects "QuoteGraph" y_Q_nodeAt y_Q_nodeAt) ∈ GW := gw_of 3 _ (by decide +kernel) rfl
theorem gw_4 : (Cond.selects "QuoteGraph" y_Q_isThere y_Q_isThere) ∈ GW := gw_of 4 _ (by decide +kernel) rfl
theorem gw_5 : (Cond.selects "QuoteGraph" y_Q_optionAt y_Q_optionAt) ∈ GW := gw_of 5 _ (by decide +kernel) rfl
theorem gw_6 : (Cond.selects "QuoteGraph" y_Q_extraPartAt y_Q_extraPartAt) ∈ GW := gw_of 6 _ (by decide +kernel) rfl
theorem gw_7 : (Cond.selects "QuoteGraph" y_Q_hangsOn y_Q_hangsOn) ∈ GW := gw_of 7 _ (by decide +kernel) rfl
theorem gw_8 : (Cond.selects "QuoteGraph" y_Q_bitsUsedBy y_Q_bitsUsedBy) ∈ GW := gw_of 8 _ (by decide +kernel) rfl
theorem gw_9 : (Cond.selects "QuoteGraph" y_Q_tell y_Q_tell) ∈ GW := gw_of 9 _ (by decide +kernel) rfl
theorem gw_10 : (Cond.selects "QuoteGraph" y_Q_tellUsersOf y_Q_tellUsersOf) ∈ GW := gw_of 10 _ (by decide +kernel) rfl
theorem gw_11 : (Cond.selects "QuoteGraph" y_Q_quoteAt y_Q_quoteAt) ∈ GW := gw_of 11 _ (by decide +kernel) rfl
theorem gw_12 : (Cond.selects "QuoteGraph" y_Q_tryToAsk y_Q_tryToAsk) ∈ GW := gw_of 12 _ (by decide +kernel) rfl
theorem gw_13 : (Cond.selects "QuoteGraph" y_Q_ask y_Q_ask) ∈ GW := gw_of 13 _ (by decide +kernel) rfl
theorem gw_14 : (Cond.selects "QuoteGraph$Option" y_Op_discount y_Op_discount) ∈ GW := gw_of 14 _ (by decide +kernel) rfl
theorem gw_15 : (Cond.selects "QuoteGraph$Lattice" y_La_stepBack y_La_stepBack) ∈ GW := gw_of 15 _ (by decide +kernel) rfl
theorem gw_16 : (Cond.selects "QuoteGraph$Net" y_Ne_stepBack y_Ne_stepBack) ∈ GW := gw_of 16 _ (by decide +kernel) rfl
theorem gw_17 : (Cond.selects "QuoteGraph$Paths" y_Pa_endOfPath y_Pa_endOfPath) ∈ GW := gw_of 17 _ (by decide +kernel) rfl
theorem gw_18 : (Cond.selects "QuoteGraph$Paths" y_Pa_drawsUp y_Pa_drawsUp) ∈ GW := gw_of 18 _ (by decide +kernel) rfl
theorem gw_19 : (Cond.selects "QuoteGraph" y_Q_raise y_Q_raise) ∈ GW := gw_of 19 _ (by decide +kernel) rfl
theorem gw_20 : (Cond.selects "QuoteGraph" y_Q_rememberAll y_Q_rememberAll) ∈ GW := gw_of 20 _ (by decide +kernel) rfl
theorem gw_21 : (Cond.selects "QuoteGraph" y_Q_makeUsersStale y_Q_makeUsersStale) ∈ GW := gw_of 21 _ (by decide +kernel) rfl
theorem gw_22 : (Cond.selects "QuoteGraph" y_Q_restoreAll y_Q_restoreAll) ∈ GW := gw_of 22 _ (by decide +kernel) rfl
theorem gw_23 : (Cond.selects "QuoteGraphModel" y_M_far y_M_far) ∈ GW := gw_of 23 _ (by decide +kernel) rfl
theorem gw_24 : (Cond.selects "QuoteGraphModel" y_M_create y_M_create) ∈ GW := gw_of 24 _ (by decide +kernel) rfl
theorem gw_25 : (Cond.selects "QuoteGraphModel" y_M_no y_M_no) ∈ GW := gw_of 25 _ (by decide +kernel) rfl
theorem gw_26 : (Cond.selects "QuoteGraphModel" y_M_noOption y_M_noOption) ∈ GW := gw_of 26 _ (by decide +kernel) rfl
theorem gw_27 : (Cond.selects "QuoteGraphModel" y_M_badPart y_M_badPart) ∈ GW := gw_of 27 _ (by decide +kernel) rfl
theorem gw_28 : (Cond.selects "QuoteGraphModel" y_M_hangs y_M_hangs) ∈ GW := gw_of 28 _ (by decide +kernel) rfl
theorem gw_29 : (Cond.selects "QuoteGraphModel" y_M_tell y_M_tell) ∈ GW := gw_of 29 _ (by decide +kernel) rfl
theorem gw_30 : (Cond.selects "QuoteGraphModel" y_M_users y_M_users) ∈ GW := gw_of 30 _ (by decide +kernel) rfl
theorem gw_31 : (Cond.selects "QuoteGraphModel" y_M_ask y_M_ask) ∈ GW := gw_of 31 _ (by decide +kernel) rfl
theorem gw_32 : (Cond.selects "QuoteGraphModel" y_M_result y_M_result) ∈ GW := gw_of 32 _ (by decide +kernel) rfl
theorem gw_33 : (Cond.selects "QuoteGraphModel" y_M_floored y_M_floored) ∈ GW := gw_of 33 _ (by decide +kernel) rfl
theorem gw_34 : (Cond.selects "QuoteGraphModel" y_M_valueOfOption y_M_valueOfOption) ∈ GW := gw_of 34 _ (by decide +kernel) rfl
theorem gw_35 : (Cond.selects "QuoteGraphModel" y_M_lattice y_M_lattice) ∈ GW := gw_of 35 _ (by decide +kernel) rfl
theorem gw_36 : (Cond.selects "QuoteGraphModel" y_M_payoff y_M_payoff) ∈ GW := gw_of 36 _ (by decide +kernel) rfl
theorem gw_37 : (Cond.selects "QuoteGraphModel" y_M_earlier y_M_earlier) ∈ GW := gw_of 37 _ (by decide +kernel) rfl
theorem gw_38 : (Cond.selects "QuoteGraphModel" y_M_bounded y_M_bounded) ∈ GW := gw_of 38 _ (by decide +kernel) rfl
theorem gw_39 : (Cond.selects "QuoteGraphModel" y_M_paths y_M_paths) ∈ GW := gw_of 39 _ (by decide +kernel) rfl
theorem gw_40 : (Cond.selects "QuoteGraphModel" y_M_net y_M_net) ∈ GW := gw_of 40 _ (by decide +kernel) rfl
theorem gw_41 : (Cond.initialized "QuoteGraphLaw") ∈ GW := gw_of 41 _ (by decide +kernel) rfl
theorem gw_42 : (Cond.initialized "QuoteGraph") ∈ GW := gw_of 42 _ (by decide +kernel) rfl
theorem gw_43 : (Cond.initialized "QuoteGraph$Engine") ∈ GW := gw_of 43 _ (by decide +kernel) rfl
theorem gw_44 : (Cond.initialized "QuoteGraph$Lattice") ∈ GW := gw_of 44 _ (by decide +kernel) rfl
theorem gw_45 : (Cond.initialized "QuoteGraph$Paths") ∈ GW := gw_of 45 _ (by decide +kernel) rfl
theorem gw_46 : (Cond.initialized "QuoteGraph$Net") ∈ GW := gw_of 46 _ (by decide +kernel) rfl
theorem gw_47 : (Cond.initialized "QuoteGraphModel") ∈ GW := gw_of 47 _ (by decide +kernel) rfl
theorem gw_48 : (Cond.initialized "java/lang/Throwable") ∈ GW := gw_of 48 _ (by decide +kernel) rfl
theorem gw_49 : (Cond.initialized "java/lang/Exception") ∈ GW := gw_of 49 _ (by decide +kernel) rfl
theorem gw_50 : (Cond.initialized "java/lang/RuntimeException") ∈ GW := gw_of 50 _ (by decide +kernel) rfl
theorem gw_51 : (Cond.initialized "java/lang/IllegalArgumentException") ∈ GW := gw_of 51 _ (by decide +kernel) rfl
theorem gw_52 : (Cond.initialized "java/lang/IllegalStateException") ∈ GW := gw_of 52 _ (by decide +kernel) rfl
theorem gw_53 : (Cond.initialized "QuoteGraph$Node") ∈ GW := gw_of 53 _ (by decide +kernel) rfl
theorem gw_54 : (Cond.initialized "QuoteGraph$Quote") ∈ GW := gw_of 54 _ (by decide +kernel) rfl
theorem gw_55 : (Cond.initialized "QuoteGraph$Blend") ∈ GW := gw_of 55 _ (by decide +kernel) rfl
theorem gw_56 : (Cond.initialized "QuoteGraph$Greater") ∈ GW := gw_of 56 _ (by decide +kernel) rfl
theorem gw_57 : (Cond.initialized "QuoteGraph$Option") ∈ GW := gw_of 57 _ (by decide +kernel) rfl
theorem gw_58 : (Cond.initialized "java/lang/ArithmeticException") ∈ GW := gw_of 58 _ (by decide +kernel) rfl
theorem gw_59 : (Cond.initialized "java/lang/Math") ∈ GW := gw_of 59 _ (by decide +kernel) rfl
theorem gw_60 : (Cond.initialized "java/lang/UnsupportedOperationException") ∈ GW := gw_of 60 _ (by decide +kernel) rfl
theorem gw_61 : (Cond.initialized "java/lang/Enum") ∈ GW := gw_of 61 _ (by decide +kernel) rfl
theorem gw_62 : (Cond.initialized "QuoteGraph$Trouble") ∈ GW := gw_of 62 _ (by decide +kernel) rfl
theorem gw_63 : (Cond.classLink "QuoteGraphLaw" 8 "QuoteGraph") ∈ GW := gw_of 63 _ (by decide +kernel) rfl
theorem gw_64 : (Cond.instantiable "QuoteGraph" 6) ∈ GW := gw_of 64 _ (by decide +kernel) rfl
theorem gw_65 : (Cond.methodLink "QuoteGraphLaw" 64 y_Q_init) ∈ GW := gw_of 65 _ (by decide +kernel) rfl
theorem gw_66 : (Cond.instanceMethod y_Q_init) ∈ GW := gw_of 66 _ (by decide +kernel) rfl
theorem gw_67 : (Cond.code y_Q_init b_Q_init 1 none) ∈ GW := gw_of 67 _ (by decide +kernel) rfl
theorem gw_68 : (Cond.methodLink "QuoteGraph" 3 ⟨"java/lang/Object", "<init>", "()V"⟩) ∈ GW := gw_of 68 _ (by decide +kernel) rfl
theorem gw_69 : (Cond.instanceMethod ⟨"java/lang/Object", "<init>", "()V"⟩) ∈ GW := gw_of 69 _ (by decide +kernel) rfl
theorem gw_70 : (Cond.code ⟨"java/lang/Object", "<init>", "()V"⟩ object_method_1_code 1 none) ∈ GW := gw_of 70 _ (by decide +kernel) rfl
theorem gw_71 : (Cond.classLink "QuoteGraph" 9 "QuoteGraph$Node") ∈ GW := gw_of 71 _ (by decide +kernel) rfl
theorem gw_73 : (Cond.classLink "QuoteGraph" 15 "QuoteGraph$Engine") ∈ GW := gw_of 73 _ (by decide +kernel) rfl
theorem gw_75 : (Cond.classLink "QuoteGraph" 17 "QuoteGraph$Lattice") ∈ GW := gw_of 75 _ (by decide +kernel) rfl
theorem gw_76 : (Cond.instantiable "QuoteGraph$Lattice" 3) ∈ GW := gw_of 76 _ (by decide +kernel) rfl
theorem gw_77 : (Cond.methodLink "QuoteGraph" 19 y_La_init) ∈ GW := gw_of 77 _ (by decide +kernel) rfl
theorem gw_78 : (Cond.instanceMethod y_La_init) ∈ GW := gw_of 78 _ (by decide +kernel) rfl
theorem gw_79 : (Cond.code y_La_init b_La_init 1 none) ∈ GW := gw_of 79 _ (by decide +kernel) rfl
theorem gw_80 : (Cond.methodLink "QuoteGraph$Lattice" 3 y_En_init) ∈ GW := gw_of 80 _ (by decide +kernel) rfl
theorem gw_81 : (Cond.instanceMethod y_En_init) ∈ GW := gw_of 81 _ (by decide +kernel) rfl
theorem gw_82 : (Cond.code y_En_init b_En_init 3 none) ∈ GW := gw_of 82 _ (by decide +kernel) rfl
theorem gw_83 : (Cond.methodLink "QuoteGraph$Engine" 1 ⟨"java/lang/Object", "<init>", "()V"⟩) ∈ GW := gw_of 83 _ (by decide +kernel) rfl
theorem gw_84 : (Cond.fieldLink "QuoteGraph$Lattice" 9 "QuoteGraph$Lattice" "row" "[J") ∈ GW := gw_of 84 _ (by decide +kernel) rfl
theorem gw_85 : (Cond.fieldLink "QuoteGraph$Engine" 7 "QuoteGraph$Engine" "leastSize" "I") ∈ GW := gw_of 85 _ (by decide +kernel) rfl
theorem gw_86 : (Cond.fieldLink "QuoteGraph" 107 "QuoteGraph$Engine" "leastSize" "I") ∈ GW := gw_of 86 _ (by decide +kernel) rfl
theorem gw_87 : (Cond.fieldLink "QuoteGraph$Engine" 13 "QuoteGraph$Engine" "mostSize" "I") ∈ GW := gw_of 87 _ (by decide +kernel) rfl
theorem gw_88 : (Cond.fieldLink "QuoteGraph" 110 "QuoteGraph$Engine" "mostSize" "I") ∈ GW := gw_of 88 _ (by decide +kernel) rfl
theorem gw_89 : (Cond.laysFinal "QuoteGraph$Lattice" "QuoteGraph$Lattice" "row" "[J") ∈ GW := gw_of 89 _ (by decide +kernel) rfl
theorem gw_91 : (Cond.laysFinal "QuoteGraph$Lattice" "QuoteGraph$Engine" "leastSize" "I") ∈ GW := gw_of 91 _ (by decide +kernel) rfl
theorem gw_93 : (Cond.laysFinal "QuoteGraph$Lattice" "QuoteGraph$Engine" "mostSize" "I") ∈ GW := gw_of 93 _ (by decide +kernel) rfl
theorem gw_96 : (Cond.arrayClass .long) ∈ GW := gw_of 96 _ (by decide +kernel) rfl
theorem gw_97 : (Cond.classLink "QuoteGraph" 20 "QuoteGraph$Paths") ∈ GW := gw_of 97 _ (by decide +kernel) rfl
theorem gw_98 : (Cond.instantiable "QuoteGraph$Paths" 3) ∈ GW := gw_of 98 _ (by decide +kernel) rfl
theorem gw_99 : (Cond.methodLink "QuoteGraph" 22 y_Pa_init) ∈ GW := gw_of 99 _ (by decide +kernel) rfl
theorem gw_100 : (Cond.instanceMethod y_Pa_init) ∈ GW := gw_of 100 _ (by decide +kernel) rfl
theorem gw_101 : (Cond.code y_Pa_init b_Pa_init 1 none) ∈ GW := gw_of 101 _ (by decide +kernel) rfl
theorem gw_102 : (Cond.methodLink "QuoteGraph$Paths" 3 y_En_init) ∈ GW := gw_of 102 _ (by decide +kernel) rfl
theorem gw_103 : (Cond.fieldLink "QuoteGraph$Paths" 26 "QuoteGraph$Paths" "draw" "J") ∈ GW := gw_of 103 _ (by decide +kernel) rfl
theorem gw_104 : (Cond.lays "QuoteGraph$Paths" "QuoteGraph$Paths" "draw" "J") ∈ GW := gw_of 104 _ (by decide +kernel) rfl
theorem gw_106 : (Cond.laysFinal "QuoteGraph$Paths" "QuoteGraph$Engine" "leastSize" "I") ∈ GW := gw_of 106 _ (by decide +kernel) rfl
theorem gw_107 : (Cond.laysFinal "QuoteGraph$Paths" "QuoteGraph$Engine" "mostSize" "I") ∈ GW := gw_of 107 _ (by decide +kernel) rfl
theorem gw_109 : (Cond.classLink "QuoteGraph" 23 "QuoteGraph$Net") ∈ GW := gw_of 109 _ (by decide +kernel) rfl
theorem gw_110 : (Cond.instantiable "QuoteGraph$Net" 3) ∈ GW := gw_of 110 _ (by decide +kernel) rfl
theorem gw_111 : (Cond.methodLink "QuoteGraph" 25 y_Ne_init) ∈ GW := gw_of 111 _ (by decide +kernel) rfl
theorem gw_112 : (Cond.instanceMethod y_Ne_init) ∈ GW := gw_of 112 _ (by decide +kernel) rfl
theorem gw_113 : (Cond.code y_Ne_init b_Ne_init 1 none) ∈ GW := gw_of 113 _ (by decide +kernel) rfl
theorem gw_114 : (Cond.methodLink "QuoteGraph$Net" 3 y_En_init) ∈ GW := gw_of 114 _ (by decide +kernel) rfl
theorem gw_115 : (Cond.fieldLink "QuoteGraph$Net" 9 "QuoteGraph$Net" "row" "[J") ∈ GW := gw_of 115 _ (by decide +kernel) rfl
theorem gw_116 : (Cond.laysFinal "QuoteGraph$Net" "QuoteGraph$Net" "row" "[J") ∈ GW := gw_of 116 _ (by decide +kernel) rfl
theorem gw_118 : (Cond.laysFinal "QuoteGraph$Net" "QuoteGraph$Engine" "leastSize" "I") ∈ GW := gw_of 118 _ (by decide +kernel) rfl
theorem gw_119 : (Cond.laysFinal "QuoteGraph$Net" "QuoteGraph$Engine" "mostSize" "I") ∈ GW := gw_of 119 _ (by decide +kernel) rfl
theorem gw_121 : (Cond.fieldLink "QuoteGraph" 11 "QuoteGraph" "nodes" "[LQuoteGraph$Node;") ∈ GW := gw_of 121 _ (by decide +kernel) rfl
theorem gw_122 : (Cond.fieldLink "QuoteGraph" 26 "QuoteGraph" "engines" "[LQuoteGraph$Engine;") ∈ GW := gw_of 122 _ (by decide +kernel) rfl
theorem gw_123 : (Cond.fieldLink "QuoteGraph" 42 "QuoteGraph" "nodeCount" "I") ∈ GW := gw_of 123 _ (by decide +kernel) rfl
theorem gw_124 : (Cond.fieldLink "QuoteGraph" 120 "QuoteGraph" "toldCount" "I") ∈ GW := gw_of 124 _ (by decide +kernel) rfl
theorem gw_125 : (Cond.fieldLink "QuoteGraph" 189 "QuoteGraph" "workedCount" "I") ∈ GW := gw_of 125 _ (by decide +kernel) rfl
theorem gw_126 : (Cond.fieldLink "QuoteGraph" 192 "QuoteGraph" "failureCount" "I") ∈ GW := gw_of 126 _ (by decide +kernel) rfl
theorem gw_127 : (Cond.laysFinal "QuoteGraph" "QuoteGraph" "nodes" "[LQuoteGraph$Node;") ∈ GW := gw_of 127 _ (by decide +kernel) rfl
theorem gw_129 : (Cond.laysFinal "QuoteGraph" "QuoteGraph" "engines" "[LQuoteGraph$Engine;") ∈ GW := gw_of 129 _ (by decide +kernel) rfl
theorem gw_131 : (Cond.lays "QuoteGraph" "QuoteGraph" "nodeCount" "I") ∈ GW := gw_of 131 _ (by decide +kernel) rfl
theorem gw_133 : (Cond.lays "QuoteGraph" "QuoteGraph" "toldCount" "I") ∈ GW := gw_of 133 _ (by decide +kernel) rfl
theorem gw_135 : (Cond.lays "QuoteGraph" "QuoteGraph" "workedCount" "I") ∈ GW := gw_of 135 _ (by decide +kernel) rfl
theorem gw_137 : (Cond.lays "QuoteGraph" "QuoteGraph" "failureCount" "I") ∈ GW := gw_of 137 _ (by decide +kernel) rfl
theorem gw_140 : (Cond.methodLink "QuoteGraphLaw" 122 y_Q_count) ∈ GW := gw_of 140 _ (by decide +kernel) rfl
theorem gw_141 : (Cond.instanceMethod y_Q_count) ∈ GW := gw_of 141 _ (by decide +kernel) rfl
theorem gw_142 : (Cond.selects "QuoteGraph" y_Q_count y_Q_count) ∈ GW := gw_of 142 _ (by decide +kernel) rfl
theorem gw_143 : (Cond.code y_Q_count b_Q_count 2 (some .int)) ∈ GW := gw_of 143 _ (by decide +kernel) rfl
theorem gw_144 : (Cond.methodLink "QuoteGraphLaw" 70 y_L_quote) ∈ GW := gw_of 144 _ (by decide +kernel) rfl
theorem gw_145 : (Cond.static y_L_quote) ∈ GW := gw_of 145 _ (by decide +kernel) rfl
theorem gw_146 : (Cond.codeWith y_L_quote b_L_quote 5 (some .int) [(0, 9, 12, 13), (0, 9, 16, 15)]) ∈ GW := gw_of 146 _ (by decide +kernel) rfl
theorem gw_147 : (Cond.classLink "QuoteGraphLaw" 13 "java/lang/IllegalArgumentException") ∈ GW := gw_of 147 _ (by decide +kernel) rfl
theorem gw_148 : (Cond.classLink "QuoteGraphLaw" 15 "java/lang/IllegalStateException") ∈ GW := gw_of 148 _ (by decide +kernel) rfl
theorem gw_149 : (Cond.methodLink "QuoteGraphLaw" 7 y_Q_quote) ∈ GW := gw_of 149 _ (by decide +kernel) rfl
theorem gw_150 : (Cond.instanceMethod y_Q_quote) ∈ GW := gw_of 150 _ (by decide +kernel) rfl
theorem gw_151 : (Cond.selects "QuoteGraph" y_Q_quote y_Q_quote) ∈ GW := gw_of 151 _ (by decide +kernel) rfl
theorem gw_152 : (Cond.code y_Q_quote b_Q_quote 5 (some .int)) ∈ GW := gw_of 152 _ (by decide +kernel) rfl
theorem gw_153 : (Cond.constantLong "QuoteGraph" 30 128) ∈ GW := gw_of 153 _ (by decide +kernel) rfl
theorem gw_154 : (Cond.constant "QuoteGraph" 32 100000) ∈ GW := gw_of 154 _ (by decide +kernel) rfl
theorem gw_155 : (Cond.methodLink "QuoteGraph" 33 y_Q_eighthsOf) ∈ GW := gw_of 155 _ (by decide +kernel) rfl
theorem gw_156 : (Cond.static y_Q_eighthsOf) ∈ GW := gw_of 156 _ (by decide +kernel) rfl
theorem gw_157 : (Cond.code y_Q_eighthsOf b_Q_eighthsOf 5 (some .long)) ∈ GW := gw_of 157 _ (by decide +kernel) rfl
theorem gw_158 : (Cond.constantDouble "QuoteGraph" 205 4620693217682128896) ∈ GW := gw_of 158 _ (by decide +kernel) rfl
theorem gw_159 : (Cond.classLink "QuoteGraph" 143 "java/lang/IllegalArgumentException") ∈ GW := gw_of 159 _ (by decide +kernel) rfl
theorem gw_160 : (Cond.instantiable "java/lang/IllegalArgumentException" 6) ∈ GW := gw_of 160 _ (by decide +kernel) rfl
theorem gw_168 : (Cond.selects "java/lang/IllegalArgumentException" ⟨"java/lang/Throwable", "fillInStackTrace", "(I)Ljava/lang/Throwable;"⟩ ⟨"java/lang/Throwable", "fillInStackTrace", "(I)Ljava/lang/Throwable;"⟩) ∈ GW := gw_of 168 _ (by decide +kernel) rfl
theorem gw_169 : (Cond.selects "java/lang/IllegalArgumentException" ⟨"java/lang/Throwable", "fillInStackTrace", "()Ljava/lang/Throwable;"⟩ ⟨"java/lang/Throwable", "fillInStackTrace", "()Ljava/lang/Throwable;"⟩) ∈ GW := gw_of 169 _ (by decide +kernel) rfl
theorem gw_170 : (Cond.lays "java/lang/IllegalArgumentException" "java/lang/Throwable" "cause" "Ljava/lang/Throwable;") ∈ GW := gw_of 170 _ (by decide +kernel) rfl
theorem gw_171 : (Cond.lays "java/lang/Throwable" "java/lang/Throwable" "cause" "Ljava/lang/Throwable;") ∈ GW := gw_of 171 _ (by decide +kernel) rfl
theorem gw_172 : (Cond.lays "java/lang/IllegalArgumentException" "java/lang/Throwable" "stackTrace" "[Ljava/lang/StackTraceElement;") ∈ GW := gw_of 172 _ (by decide +kernel) rfl
theorem gw_173 : (Cond.lays "java/lang/Throwable" "java/lang/Throwable" "stackTrace" "[Ljava/lang/StackTraceElement;") ∈ GW := gw_of 173 _ (by decide +kernel) rfl
theorem gw_174 : (Cond.lays "java/lang/IllegalArgumentException" "java/lang/Throwable" "suppressedExceptions" "Ljava/util/List;") ∈ GW := gw_of 174 _ (by decide +kernel) rfl
theorem gw_175 : (Cond.lays "java/lang/Throwable" "java/lang/Throwable" "suppressedExceptions" "Ljava/util/List;") ∈ GW := gw_of 175 _ (by decide +kernel) rfl
theorem gw_176 : (Cond.lays "java/lang/IllegalArgumentException" "java/lang/Throwable" "detailMessage" "Ljava/lang/String;") ∈ GW := gw_of 176 _ (by decide +kernel) rfl
theorem gw_177 : (Cond.lays "java/lang/Throwable" "java/lang/Throwable" "detailMessage" "Ljava/lang/String;") ∈ GW := gw_of 177 _ (by decide +kernel) rfl
theorem gw_178 : (Cond.lays "java/lang/IllegalArgumentException" "java/lang/Throwable" "backtrace" "Ljava/lang/Object;") ∈ GW := gw_of 178 _ (by decide +kernel) rfl
theorem gw_179 : (Cond.lays "java/lang/Throwable" "java/lang/Throwable" "backtrace" "Ljava/lang/Object;") ∈ GW := gw_of 179 _ (by decide +kernel) rfl
theorem gw_180 : (Cond.fieldLink "java/lang/Throwable" 198 "java/lang/Throwable" "backtrace" "Ljava/lang/Object;") ∈ GW := gw_of 180 _ (by decide +kernel) rfl
theorem gw_182 : (Cond.instanceMethod ⟨"java/lang/Throwable", "<init>", "()V"⟩) ∈ GW := gw_of 182 _ (by decide +kernel) rfl
theorem gw_183 : (Cond.code ⟨"java/lang/Throwable", "<init>", "()V"⟩ prog_22_method_1_code 1 none) ∈ GW := gw_of 183 _ (by decide +kernel) rfl
theorem gw_184 : (Cond.methodLink "java/lang/Throwable" 1 ⟨"java/lang/Object", "<init>", "()V"⟩) ∈ GW := gw_of 184 _ (by decide +kernel) rfl
theorem gw_185 : (Cond.fieldLink "java/lang/Throwable" 13 "java/lang/Throwable" "UNASSIGNED_STACK" "[Ljava/lang/StackTraceElement;") ∈ GW := gw_of 185 _ (by decide +kernel) rfl
theorem gw_187 : (Cond.fieldLink "java/lang/Throwable" 20 "java/lang/Throwable" "SUPPRESSED_SENTINEL" "Ljava/util/List;") ∈ GW := gw_of 187 _ (by decide +kernel) rfl
theorem gw_189 : (Cond.methodLink "java/lang/Throwable" 27 ⟨"java/lang/Throwable", "fillInStackTrace", "()Ljava/lang/Throwable;"⟩) ∈ GW := gw_of 189 _ (by decide +kernel) rfl
theorem gw_190 : (Cond.instanceMethod ⟨"java/lang/Throwable", "fillInStackTrace", "()Ljava/lang/Throwable;"⟩) ∈ GW := gw_of 190 _ (by decide +kernel) rfl
theorem gw_192 : (Cond.selects "java/lang/ArithmeticException" ⟨"java/lang/Throwable", "fillInStackTrace", "()Ljava/lang/Throwable;"⟩ ⟨"java/lang/Throwable", "fillInStackTrace", "()Ljava/lang/Throwable;"⟩) ∈ GW := gw_of 192 _ (by decide +kernel) rfl
theorem gw_193 : (Cond.selects "java/lang/IllegalStateException" ⟨"java/lang/Throwable", "fillInStackTrace", "()Ljava/lang/Throwable;"⟩ ⟨"java/lang/Throwable", "fillInStackTrace", "()Ljava/lang/Throwable;"⟩) ∈ GW := gw_of 193 _ (by decide +kernel) rfl
theorem gw_194 : (Cond.selects "java/lang/UnsupportedOperationException" ⟨"java/lang/Throwable", "fillInStackTrace", "()Ljava/lang/Throwable;"⟩ ⟨"java/lang/Throwable", "fillInStackTrace", "()Ljava/lang/Throwable;"⟩) ∈ GW := gw_of 194 _ (by decide +kernel) rfl
theorem gw_196 : (Cond.methodLink "java/lang/Throwable" 202 ⟨"java/lang/Throwable", "fillInStackTrace", "(I)Ljava/lang/Throwable;"⟩) ∈ GW := gw_of 196 _ (by decide +kernel) rfl
theorem gw_198 : (Cond.instanceMethod ⟨"java/lang/Throwable", "fillInStackTrace", "(I)Ljava/lang/Throwable;"⟩) ∈ GW := gw_of 198 _ (by decide +kernel) rfl
theorem gw_199 : (Cond.instantiable "java/lang/Throwable" 6) ∈ GW := gw_of 199 _ (by decide +kernel) rfl
theorem gw_202 : (Cond.methodLink "QuoteGraph" 147 ⟨"java/lang/IllegalArgumentException", "<init>", "(Ljava/lang/String;)V"⟩) ∈ GW := gw_of 202 _ (by decide +kernel) rfl
theorem gw_203 : (Cond.instanceMethod ⟨"java/lang/IllegalArgumentException", "<init>", "(Ljava/lang/String;)V"⟩) ∈ GW := gw_of 203 _ (by decide +kernel) rfl
theorem gw_204 : (Cond.code ⟨"java/lang/IllegalArgumentException", "<init>", "(Ljava/lang/String;)V"⟩ prog_17_method_2_code 2 none) ∈ GW := gw_of 204 _ (by decide +kernel) rfl
theorem gw_205 : (Cond.methodLink "java/lang/IllegalArgumentException" 7 ⟨"java/lang/RuntimeException", "<init>", "(Ljava/lang/String;)V"⟩) ∈ GW := gw_of 205 _ (by decide +kernel) rfl
theorem gw_206 : (Cond.instanceMethod ⟨"java/lang/RuntimeException", "<init>", "(Ljava/lang/String;)V"⟩) ∈ GW := gw_of 206 _ (by decide +kernel) rfl
theorem gw_207 : (Cond.code ⟨"java/lang/RuntimeException", "<init>", "(Ljava/lang/String;)V"⟩ prog_20_method_2_code 2 none) ∈ GW := gw_of 207 _ (by decide +kernel) rfl
theorem gw_208 : (Cond.methodLink "java/lang/RuntimeException" 7 ⟨"java/lang/Exception", "<init>", "(Ljava/lang/String;)V"⟩) ∈ GW := gw_of 208 _ (by decide +kernel) rfl
theorem gw_209 : (Cond.instanceMethod ⟨"java/lang/Exception", "<init>", "(Ljava/lang/String;)V"⟩) ∈ GW := gw_of 209 _ (by decide +kernel) rfl
theorem gw_210 : (Cond.code ⟨"java/lang/Exception", "<init>", "(Ljava/lang/String;)V"⟩ prog_16_method_2_code 2 none) ∈ GW := gw_of 210 _ (by decide +kernel) rfl
theorem gw_211 : (Cond.methodLink "java/lang/Exception" 7 ⟨"java/lang/Throwable", "<init>", "(Ljava/lang/String;)V"⟩) ∈ GW := gw_of 211 _ (by decide +kernel) rfl
theorem gw_212 : (Cond.instanceMethod ⟨"java/lang/Throwable", "<init>", "(Ljava/lang/String;)V"⟩) ∈ GW := gw_of 212 _ (by decide +kernel) rfl
theorem gw_213 : (Cond.code ⟨"java/lang/Throwable", "<init>", "(Ljava/lang/String;)V"⟩ prog_22_method_2_code 2 none) ∈ GW := gw_of 213 _ (by decide +kernel) rfl
theorem gw_215 : (Cond.fieldLink "java/lang/Throwable" 31 "java/lang/Throwable" "detailMessage" "Ljava/lang/String;") ∈ GW := gw_of 215 _ (by decide +kernel) rfl
theorem gw_216 : (Cond.fieldLink "java/lang/Throwable" 7 "java/lang/Throwable" "cause" "Ljava/lang/Throwable;") ∈ GW := gw_of 216 _ (by decide +kernel) rfl
theorem gw_217 : (Cond.fieldLink "java/lang/Throwable" 17 "java/lang/Throwable" "stackTrace" "[Ljava/lang/StackTraceElement;") ∈ GW := gw_of 217 _ (by decide +kernel) rfl
theorem gw_218 : (Cond.fieldLink "java/lang/Throwable" 24 "java/lang/Throwable" "suppressedExceptions" "Ljava/util/List;") ∈ GW := gw_of 218 _ (by decide +kernel) rfl
theorem gw_223 : (Cond.lays "java/lang/IllegalArgumentException" "java/lang/Throwable" "depth" "I") ∈ GW := gw_of 223 _ (by decide +kernel) rfl
theorem gw_227 : (Cond.arrayClass .byte) ∈ GW := gw_of 227 _ (by decide +kernel) rfl
theorem gw_228 : (Cond.methodLink "QuoteGraph" 37 y_Q_checkRoom) ∈ GW := gw_of 228 _ (by decide +kernel) rfl
theorem gw_230 : (Cond.instanceMethod y_Q_checkRoom) ∈ GW := gw_of 230 _ (by decide +kernel) rfl
theorem gw_231 : (Cond.code y_Q_checkRoom b_Q_checkRoom 1 none) ∈ GW := gw_of 231 _ (by decide +kernel) rfl
theorem gw_232 : (Cond.classLink "QuoteGraph" 153 "java/lang/IllegalStateException") ∈ GW := gw_of 232 _ (by decide +kernel) rfl
theorem gw_233 : (Cond.instantiable "java/lang/IllegalStateException" 6) ∈ GW := gw_of 233 _ (by decide +kernel) rfl
theorem gw_235 : (Cond.selects "java/lang/IllegalStateException" ⟨"java/lang/Throwable", "fillInStackTrace", "(I)Ljava/lang/Throwable;"⟩ ⟨"java/lang/Throwable", "fillInStackTrace", "(I)Ljava/lang/Throwable;"⟩) ∈ GW := gw_of 235 _ (by decide +kernel) rfl
theorem gw_236 : (Cond.lays "java/lang/IllegalStateException" "java/lang/Throwable" "cause" "Ljava/lang/Throwable;") ∈ GW := gw_of 236 _ (by decide +kernel) rfl
theorem gw_237 : (Cond.lays "java/lang/IllegalStateException" "java/lang/Throwable" "stackTrace" "[Ljava/lang/StackTraceElement;") ∈ GW := gw_of 237 _ (by decide +kernel) rfl
theorem gw_238 : (Cond.lays "java/lang/IllegalStateException" "java/lang/Throwable" "suppressedExceptions" "Ljava/util/List;") ∈ GW := gw_of 238 _ (by decide +kernel) rfl
theorem gw_239 : (Cond.lays "java/lang/IllegalStateException" "java/lang/Throwable" "detailMessage" "Ljava/lang/String;") ∈ GW := gw_of 239 _ (by decide +kernel) rfl
theorem gw_240 : (Cond.lays "java/lang/IllegalStateException" "java/lang/Throwable" "backtrace" "Ljava/lang/Object;") ∈ GW := gw_of 240 _ (by decide +kernel) rfl
theorem gw_242 : (Cond.methodLink "QuoteGraph" 157 ⟨"java/lang/IllegalStateException", "<init>", "(Ljava/lang/String;)V"⟩) ∈ GW := gw_of 242 _ (by decide +kernel) rfl
theorem gw_243 : (Cond.instanceMethod ⟨"java/lang/IllegalStateException", "<init>", "(Ljava/lang/String;)V"⟩) ∈ GW := gw_of 243 _ (by decide +kernel) rfl
theorem gw_244 : (Cond.code ⟨"java/lang/IllegalStateException", "<init>", "(Ljava/lang/String;)V"⟩ prog_18_method_2_code 2 none) ∈ GW := gw_of 244 _ (by decide +kernel) rfl
theorem gw_245 : (Cond.methodLink "java/lang/IllegalStateException" 7 ⟨"java/lang/RuntimeException", "<init>", "(Ljava/lang/String;)V"⟩) ∈ GW := gw_of 245 _ (by decide +kernel) rfl
theorem gw_246 : (Cond.lays "java/lang/IllegalStateException" "java/lang/Throwable" "depth" "I") ∈ GW := gw_of 246 _ (by decide +kernel) rfl
theorem gw_248 : (Cond.classLink "QuoteGraph" 40 "QuoteGraph$Quote") ∈ GW := gw_of 248 _ (by decide +kernel) rfl
theorem gw_249 : (Cond.instantiable "QuoteGraph$Quote" 10) ∈ GW := gw_of 249 _ (by decide +kernel) rfl
theorem gw_250 : (Cond.methodLink "QuoteGraph" 46 y_Qt_init) ∈ GW := gw_of 250 _ (by decide +kernel) rfl
theorem gw_251 : (Cond.instanceMethod y_Qt_init) ∈ GW := gw_of 251 _ (by decide +kernel) rfl
theorem gw_252 : (Cond.code y_Qt_init b_Qt_init 4 none) ∈ GW := gw_of 252 _ (by decide +kernel) rfl
theorem gw_253 : (Cond.classLink "QuoteGraph$Quote" 3 "QuoteGraph$Node") ∈ GW := gw_of 253 _ (by decide +kernel) rfl
theorem gw_254 : (Cond.methodLink "QuoteGraph$Quote" 5 y_Nd_init) ∈ GW := gw_of 254 _ (by decide +kernel) rfl
theorem gw_255 : (Cond.instanceMethod y_Nd_init) ∈ GW := gw_of 255 _ (by decide +kernel) rfl
theorem gw_256 : (Cond.code y_Nd_init b_Nd_init 4 none) ∈ GW := gw_of 256 _ (by decide +kernel) rfl
theorem gw_257 : (Cond.methodLink "QuoteGraph$Node" 1 ⟨"java/lang/Object", "<init>", "()V"⟩) ∈ GW := gw_of 257 _ (by decide +kernel) rfl
theorem gw_258 : (Cond.fieldLink "QuoteGraph$Node" 7 "QuoteGraph$Node" "number" "I") ∈ GW := gw_of 258 _ (by decide +kernel) rfl
theorem gw_259 : (Cond.fieldLink "QuoteGraph" 195 "QuoteGraph$Node" "number" "I") ∈ GW := gw_of 259 _ (by decide +kernel) rfl
theorem gw_260 : (Cond.fieldLink "QuoteGraph$Node" 13 "QuoteGraph$Node" "parts" "[LQuoteGraph$Node;") ∈ GW := gw_of 260 _ (by decide +kernel) rfl
theorem gw_261 : (Cond.fieldLink "QuoteGraph$Greater" 9 "QuoteGraph$Greater" "parts" "[LQuoteGraph$Node;") ∈ GW := gw_of 261 _ (by decide +kernel) rfl
theorem gw_263 : (Cond.fieldLink "QuoteGraph$Blend" 18 "QuoteGraph$Blend" "parts" "[LQuoteGraph$Node;") ∈ GW := gw_of 263 _ (by decide +kernel) rfl
theorem gw_265 : (Cond.fieldLink "QuoteGraph$Option" 41 "QuoteGraph$Option" "parts" "[LQuoteGraph$Node;") ∈ GW := gw_of 265 _ (by decide +kernel) rfl
theorem gw_267 : (Cond.fieldLink "QuoteGraph" 232 "QuoteGraph$Node" "parts" "[LQuoteGraph$Node;") ∈ GW := gw_of 267 _ (by decide +kernel) rfl
theorem gw_268 : (Cond.fieldLink "QuoteGraph$Node" 17 "QuoteGraph$Node" "partCount" "I") ∈ GW := gw_of 268 _ (by decide +kernel) rfl
theorem gw_269 : (Cond.fieldLink "QuoteGraph$Option" 38 "QuoteGraph$Option" "partCount" "I") ∈ GW := gw_of 269 _ (by decide +kernel) rfl
theorem gw_271 : (Cond.fieldLink "QuoteGraph" 181 "QuoteGraph$Node" "partCount" "I") ∈ GW := gw_of 271 _ (by decide +kernel) rfl
theorem gw_272 : (Cond.fieldLink "QuoteGraph$Quote" 9 "QuoteGraph$Quote" "amount" "J") ∈ GW := gw_of 272 _ (by decide +kernel) rfl
theorem gw_274 : (Cond.fieldLink "QuoteGraph$Greater" 15 "QuoteGraph$Node" "amount" "J") ∈ GW := gw_of 274 _ (by decide +kernel) rfl
theorem gw_275 : (Cond.fieldLink "QuoteGraph$Blend" 22 "QuoteGraph$Node" "amount" "J") ∈ GW := gw_of 275 _ (by decide +kernel) rfl
theorem gw_276 : (Cond.fieldLink "QuoteGraph$Paths" 49 "QuoteGraph$Node" "amount" "J") ∈ GW := gw_of 276 _ (by decide +kernel) rfl
theorem gw_277 : (Cond.fieldLink "QuoteGraph$Option" 55 "QuoteGraph$Node" "amount" "J") ∈ GW := gw_of 277 _ (by decide +kernel) rfl
theorem gw_278 : (Cond.fieldLink "QuoteGraph$Node" 24 "QuoteGraph$Node" "amount" "J") ∈ GW := gw_of 278 _ (by decide +kernel) rfl
theorem gw_279 : (Cond.fieldLink "QuoteGraph" 123 "QuoteGraph$Quote" "amount" "J") ∈ GW := gw_of 279 _ (by decide +kernel) rfl
theorem gw_280 : (Cond.fieldLink "QuoteGraph" 138 "QuoteGraph$Node" "amount" "J") ∈ GW := gw_of 280 _ (by decide +kernel) rfl
theorem gw_281 : (Cond.fieldLink "QuoteGraph$Quote" 15 "QuoteGraph$Quote" "valid" "Z") ∈ GW := gw_of 281 _ (by decide +kernel) rfl
theorem gw_283 : (Cond.fieldLink "QuoteGraph$Node" 31 "QuoteGraph$Node" "valid" "Z") ∈ GW := gw_of 283 _ (by decide +kernel) rfl
theorem gw_284 : (Cond.fieldLink "QuoteGraph" 150 "QuoteGraph$Node" "valid" "Z") ∈ GW := gw_of 284 _ (by decide +kernel) rfl
theorem gw_285 : (Cond.fieldLink "QuoteGraph" 158 "QuoteGraph$Node" "frozen" "Z") ∈ GW := gw_of 285 _ (by decide +kernel) rfl
theorem gw_286 : (Cond.fieldLink "QuoteGraph" 200 "QuoteGraph$Option" "frozen" "Z") ∈ GW := gw_of 286 _ (by decide +kernel) rfl
theorem gw_288 : (Cond.fieldLink "QuoteGraph" 161 "QuoteGraph$Node" "missed" "Z") ∈ GW := gw_of 288 _ (by decide +kernel) rfl
theorem gw_289 : (Cond.fieldLink "QuoteGraph" 184 "QuoteGraph$Node" "timesWorked" "I") ∈ GW := gw_of 289 _ (by decide +kernel) rfl
theorem gw_290 : (Cond.fieldLink "QuoteGraph$Node" 28 "QuoteGraph$Node" "rememberedAmount" "J") ∈ GW := gw_of 290 _ (by decide +kernel) rfl
theorem gw_291 : (Cond.fieldLink "QuoteGraph$Node" 35 "QuoteGraph$Node" "rememberedValid" "Z") ∈ GW := gw_of 291 _ (by decide +kernel) rfl
theorem gw_292 : (Cond.laysFinal "QuoteGraph$Quote" "QuoteGraph$Node" "number" "I") ∈ GW := gw_of 292 _ (by decide +kernel) rfl
theorem gw_294 : (Cond.laysFinal "QuoteGraph$Quote" "QuoteGraph$Node" "parts" "[LQuoteGraph$Node;") ∈ GW := gw_of 294 _ (by decide +kernel) rfl
theorem gw_296 : (Cond.lays "QuoteGraph$Quote" "QuoteGraph$Node" "partCount" "I") ∈ GW := gw_of 296 _ (by decide +kernel) rfl
theorem gw_298 : (Cond.lays "QuoteGraph$Quote" "QuoteGraph$Node" "amount" "J") ∈ GW := gw_of 298 _ (by decide +kernel) rfl
theorem gw_300 : (Cond.lays "QuoteGraph$Quote" "QuoteGraph$Node" "valid" "Z") ∈ GW := gw_of 300 _ (by decide +kernel) rfl
theorem gw_302 : (Cond.lays "QuoteGraph$Quote" "QuoteGraph$Node" "frozen" "Z") ∈ GW := gw_of 302 _ (by decide +kernel) rfl
theorem gw_304 : (Cond.lays "QuoteGraph$Quote" "QuoteGraph$Node" "missed" "Z") ∈ GW := gw_of 304 _ (by decide +kernel) rfl
theorem gw_306 : (Cond.lays "QuoteGraph$Quote" "QuoteGraph$Node" "timesWorked" "I") ∈ GW := gw_of 306 _ (by decide +kernel) rfl
theorem gw_308 : (Cond.lays "QuoteGraph$Quote" "QuoteGraph$Node" "rememberedAmount" "J") ∈ GW := gw_of 308 _ (by decide +kernel) rfl
theorem gw_310 : (Cond.lays "QuoteGraph$Quote" "QuoteGraph$Node" "rememberedValid" "Z") ∈ GW := gw_of 310 _ (by decide +kernel) rfl
theorem gw_313 : (Cond.methodLink "QuoteGraph" 49 y_Q_add) ∈ GW := gw_of 313 _ (by decide +kernel) rfl
theorem gw_315 : (Cond.instanceMethod y_Q_add) ∈ GW := gw_of 315 _ (by decide +kernel) rfl
theorem gw_316 : (Cond.code y_Q_add b_Q_add 2 (some .int)) ∈ GW := gw_of 316 _ (by decide +kernel) rfl
theorem gw_317 : (Cond.methodLink "QuoteGraphLaw" 80 y_L_blend) ∈ GW := gw_of 317 _ (by decide +kernel) rfl
theorem gw_318 : (Cond.static y_L_blend) ∈ GW := gw_of 318 _ (by decide +kernel) rfl
theorem gw_319 : (Cond.codeWith y_L_blend b_L_blend 9 (some .int) [(0, 14, 17, 13), (0, 14, 21, 15)]) ∈ GW := gw_of 319 _ (by decide +kernel) rfl
theorem gw_320 : (Cond.methodLink "QuoteGraphLaw" 17 y_Q_blend) ∈ GW := gw_of 320 _ (by decide +kernel) rfl
theorem gw_321 : (Cond.instanceMethod y_Q_blend) ∈ GW := gw_of 321 _ (by decide +kernel) rfl
theorem gw_322 : (Cond.selects "QuoteGraph" y_Q_blend y_Q_blend) ∈ GW := gw_of 322 _ (by decide +kernel) rfl
theorem gw_323 : (Cond.code y_Q_blend b_Q_blend 13 (some .int)) ∈ GW := gw_of 323 _ (by decide +kernel) rfl
theorem gw_324 : (Cond.methodLink "QuoteGraph" 53 y_Q_nodeAt) ∈ GW := gw_of 324 _ (by decide +kernel) rfl
theorem gw_326 : (Cond.instanceMethod y_Q_nodeAt) ∈ GW := gw_of 326 _ (by decide +kernel) rfl
theorem gw_327 : (Cond.code y_Q_nodeAt b_Q_nodeAt 2 (some (.object "QuoteGraph$Node"))) ∈ GW := gw_of 327 _ (by decide +kernel) rfl
theorem gw_328 : (Cond.methodLink "QuoteGraph" 211 y_Q_isThere) ∈ GW := gw_of 328 _ (by decide +kernel) rfl
theorem gw_330 : (Cond.instanceMethod y_Q_isThere) ∈ GW := gw_of 330 _ (by decide +kernel) rfl
theorem gw_331 : (Cond.code y_Q_isThere b_Q_isThere 2 (some .boolean)) ∈ GW := gw_of 331 _ (by decide +kernel) rfl
theorem gw_333 : (Cond.classLink "QuoteGraph" 57 "QuoteGraph$Blend") ∈ GW := gw_of 333 _ (by decide +kernel) rfl
theorem gw_334 : (Cond.instantiable "QuoteGraph$Blend" 12) ∈ GW := gw_of 334 _ (by decide +kernel) rfl
theorem gw_335 : (Cond.methodLink "QuoteGraph" 59 y_Bl_init) ∈ GW := gw_of 335 _ (by decide +kernel) rfl
theorem gw_336 : (Cond.instanceMethod y_Bl_init) ∈ GW := gw_of 336 _ (by decide +kernel) rfl
theorem gw_337 : (Cond.code y_Bl_init b_Bl_init 8 none) ∈ GW := gw_of 337 _ (by decide +kernel) rfl
theorem gw_338 : (Cond.classLink "QuoteGraph$Blend" 3 "QuoteGraph$Node") ∈ GW := gw_of 338 _ (by decide +kernel) rfl
theorem gw_339 : (Cond.methodLink "QuoteGraph$Blend" 5 y_Nd_init) ∈ GW := gw_of 339 _ (by decide +kernel) rfl
theorem gw_340 : (Cond.fieldLink "QuoteGraph$Blend" 9 "QuoteGraph$Blend" "firstEighths" "J") ∈ GW := gw_of 340 _ (by decide +kernel) rfl
theorem gw_341 : (Cond.fieldLink "QuoteGraph$Blend" 15 "QuoteGraph$Blend" "secondEighths" "J") ∈ GW := gw_of 341 _ (by decide +kernel) rfl
theorem gw_342 : (Cond.laysFinal "QuoteGraph$Blend" "QuoteGraph$Blend" "firstEighths" "J") ∈ GW := gw_of 342 _ (by decide +kernel) rfl
theorem gw_344 : (Cond.laysFinal "QuoteGraph$Blend" "QuoteGraph$Blend" "secondEighths" "J") ∈ GW := gw_of 344 _ (by decide +kernel) rfl
theorem gw_346 : (Cond.laysFinal "QuoteGraph$Blend" "QuoteGraph$Node" "number" "I") ∈ GW := gw_of 346 _ (by decide +kernel) rfl
theorem gw_347 : (Cond.laysFinal "QuoteGraph$Blend" "QuoteGraph$Node" "parts" "[LQuoteGraph$Node;") ∈ GW := gw_of 347 _ (by decide +kernel) rfl
theorem gw_348 : (Cond.lays "QuoteGraph$Blend" "QuoteGraph$Node" "partCount" "I") ∈ GW := gw_of 348 _ (by decide +kernel) rfl
theorem gw_349 : (Cond.lays "QuoteGraph$Blend" "QuoteGraph$Node" "amount" "J") ∈ GW := gw_of 349 _ (by decide +kernel) rfl
theorem gw_350 : (Cond.lays "QuoteGraph$Blend" "QuoteGraph$Node" "valid" "Z") ∈ GW := gw_of 350 _ (by decide +kernel) rfl
theorem gw_351 : (Cond.lays "QuoteGraph$Blend" "QuoteGraph$Node" "frozen" "Z") ∈ GW := gw_of 351 _ (by decide +kernel) rfl
theorem gw_352 : (Cond.lays "QuoteGraph$Blend" "QuoteGraph$Node" "missed" "Z") ∈ GW := gw_of 352 _ (by decide +kernel) rfl
theorem gw_353 : (Cond.lays "QuoteGraph$Blend" "QuoteGraph$Node" "timesWorked" "I") ∈ GW := gw_of 353 _ (by decide +kernel) rfl
theorem gw_354 : (Cond.lays "QuoteGraph$Blend" "QuoteGraph$Node" "rememberedAmount" "J") ∈ GW := gw_of 354 _ (by decide +kernel) rfl
theorem gw_355 : (Cond.lays "QuoteGraph$Blend" "QuoteGraph$Node" "rememberedValid" "Z") ∈ GW := gw_of 355 _ (by decide +kernel) rfl
theorem gw_357 : (Cond.methodLink "QuoteGraphLaw" 84 y_L_greater) ∈ GW := gw_of 357 _ (by decide +kernel) rfl
theorem gw_358 : (Cond.static y_L_greater) ∈ GW := gw_of 358 _ (by decide +kernel) rfl
theorem gw_359 : (Cond.codeWith y_L_greater b_L_greater 5 (some .int) [(0, 10, 13, 13), (0, 10, 17, 15)]) ∈ GW := gw_of 359 _ (by decide +kernel) rfl
theorem gw_360 : (Cond.methodLink "QuoteGraphLaw" 21 y_Q_greater) ∈ GW := gw_of 360 _ (by decide +kernel) rfl
theorem gw_361 : (Cond.instanceMethod y_Q_greater) ∈ GW := gw_of 361 _ (by decide +kernel) rfl
theorem gw_362 : (Cond.selects "QuoteGraph" y_Q_greater y_Q_greater) ∈ GW := gw_of 362 _ (by decide +kernel) rfl
theorem gw_363 : (Cond.code y_Q_greater b_Q_greater 5 (some .int)) ∈ GW := gw_of 363 _ (by decide +kernel) rfl
theorem gw_364 : (Cond.classLink "QuoteGraph" 62 "QuoteGraph$Greater") ∈ GW := gw_of 364 _ (by decide +kernel) rfl
theorem gw_365 : (Cond.instantiable "QuoteGraph$Greater" 10) ∈ GW := gw_of 365 _ (by decide +kernel) rfl
theorem gw_366 : (Cond.methodLink "QuoteGraph" 64 y_Gr_init) ∈ GW := gw_of 366 _ (by decide +kernel) rfl
theorem gw_367 : (Cond.instanceMethod y_Gr_init) ∈ GW := gw_of 367 _ (by decide +kernel) rfl
theorem gw_368 : (Cond.code y_Gr_init b_Gr_init 4 none) ∈ GW := gw_of 368 _ (by decide +kernel) rfl
theorem gw_369 : (Cond.classLink "QuoteGraph$Greater" 3 "QuoteGraph$Node") ∈ GW := gw_of 369 _ (by decide +kernel) rfl
theorem gw_370 : (Cond.methodLink "QuoteGraph$Greater" 5 y_Nd_init) ∈ GW := gw_of 370 _ (by decide +kernel) rfl
theorem gw_371 : (Cond.laysFinal "QuoteGraph$Greater" "QuoteGraph$Node" "number" "I") ∈ GW := gw_of 371 _ (by decide +kernel) rfl
theorem gw_372 : (Cond.laysFinal "QuoteGraph$Greater" "QuoteGraph$Node" "parts" "[LQuoteGraph$Node;") ∈ GW := gw_of 372 _ (by decide +kernel) rfl
theorem gw_373 : (Cond.lays "QuoteGraph$Greater" "QuoteGraph$Node" "partCount" "I") ∈ GW := gw_of 373 _ (by decide +kernel) rfl
theorem gw_374 : (Cond.lays "QuoteGraph$Greater" "QuoteGraph$Node" "amount" "J") ∈ GW := gw_of 374 _ (by decide +kernel) rfl
theorem gw_375 : (Cond.lays "QuoteGraph$Greater" "QuoteGraph$Node" "valid" "Z") ∈ GW := gw_of 375 _ (by decide +kernel) rfl
theorem gw_376 : (Cond.lays "QuoteGraph$Greater" "QuoteGraph$Node" "frozen" "Z") ∈ GW := gw_of 376 _ (by decide +kernel) rfl
theorem gw_377 : (Cond.lays "QuoteGraph$Greater" "QuoteGraph$Node" "missed" "Z") ∈ GW := gw_of 377 _ (by decide +kernel) rfl
theorem gw_378 : (Cond.lays "QuoteGraph$Greater" "QuoteGraph$Node" "timesWorked" "I") ∈ GW := gw_of 378 _ (by decide +kernel) rfl
theorem gw_379 : (Cond.lays "QuoteGraph$Greater" "QuoteGraph$Node" "rememberedAmount" "J") ∈ GW := gw_of 379 _ (by decide +kernel) rfl
theorem gw_380 : (Cond.lays "QuoteGraph$Greater" "QuoteGraph$Node" "rememberedValid" "Z") ∈ GW := gw_of 380 _ (by decide +kernel) rfl
theorem gw_382 : (Cond.methodLink "QuoteGraphLaw" 88 y_L_option) ∈ GW := gw_of 382 _ (by decide +kernel) rfl
theorem gw_383 : (Cond.static y_L_option) ∈ GW := gw_of 383 _ (by decide +kernel) rfl
theorem gw_384 : (Cond.codeWith y_L_option b_L_option 9 (some .int) [(0, 16, 19, 13), (0, 16, 23, 15)]) ∈ GW := gw_of 384 _ (by decide +kernel) rfl
theorem gw_385 : (Cond.methodLink "QuoteGraphLaw" 25 y_Q_option) ∈ GW := gw_of 385 _ (by decide +kernel) rfl
theorem gw_386 : (Cond.instanceMethod y_Q_option) ∈ GW := gw_of 386 _ (by decide +kernel) rfl
theorem gw_387 : (Cond.selects "QuoteGraph" y_Q_option y_Q_option) ∈ GW := gw_of 387 _ (by decide +kernel) rfl
theorem gw_388 : (Cond.code y_Q_option b_Q_option 12 (some .int)) ∈ GW := gw_of 388 _ (by decide +kernel) rfl
theorem gw_389 : (Cond.methodLink "QuoteGraph" 67 y_Q_checkRange) ∈ GW := gw_of 389 _ (by decide +kernel) rfl
theorem gw_390 : (Cond.static y_Q_checkRange) ∈ GW := gw_of 390 _ (by decide +kernel) rfl
theorem gw_391 : (Cond.code y_Q_checkRange b_Q_checkRange 3 none) ∈ GW := gw_of 391 _ (by decide +kernel) rfl
theorem gw_393 : (Cond.classLink "QuoteGraph" 71 "QuoteGraph$Option") ∈ GW := gw_of 393 _ (by decide +kernel) rfl
theorem gw_394 : (Cond.instantiable "QuoteGraph$Option" 21) ∈ GW := gw_of 394 _ (by decide +kernel) rfl
theorem gw_395 : (Cond.methodLink "QuoteGraph" 73 y_Op_init) ∈ GW := gw_of 395 _ (by decide +kernel) rfl
theorem gw_396 : (Cond.instanceMethod y_Op_init) ∈ GW := gw_of 396 _ (by decide +kernel) rfl
theorem gw_397 : (Cond.code y_Op_init b_Op_init 8 none) ∈ GW := gw_of 397 _ (by decide +kernel) rfl
theorem gw_398 : (Cond.classLink "QuoteGraph$Option" 3 "QuoteGraph$Node") ∈ GW := gw_of 398 _ (by decide +kernel) rfl
theorem gw_399 : (Cond.methodLink "QuoteGraph$Option" 5 y_Nd_init) ∈ GW := gw_of 399 _ (by decide +kernel) rfl
theorem gw_400 : (Cond.fieldLink "QuoteGraph$Option" 9 "QuoteGraph$Option" "spot" "LQuoteGraph$Node;") ∈ GW := gw_of 400 _ (by decide +kernel) rfl
theorem gw_401 : (Cond.fieldLink "QuoteGraph$Paths" 45 "QuoteGraph$Option" "spot" "LQuoteGraph$Node;") ∈ GW := gw_of 401 _ (by decide +kernel) rfl
theorem gw_402 : (Cond.fieldLink "QuoteGraph$Option" 15 "QuoteGraph$Option" "move" "LQuoteGraph$Node;") ∈ GW := gw_of 402 _ (by decide +kernel) rfl
theorem gw_403 : (Cond.fieldLink "QuoteGraph$Paths" 65 "QuoteGraph$Option" "move" "LQuoteGraph$Node;") ∈ GW := gw_of 403 _ (by decide +kernel) rfl
theorem gw_404 : (Cond.fieldLink "QuoteGraph$Option" 18 "QuoteGraph$Option" "kind" "I") ∈ GW := gw_of 404 _ (by decide +kernel) rfl
theorem gw_405 : (Cond.fieldLink "QuoteGraph$Option" 22 "QuoteGraph$Option" "strike" "J") ∈ GW := gw_of 405 _ (by decide +kernel) rfl
theorem gw_406 : (Cond.fieldLink "QuoteGraph$Option" 26 "QuoteGraph$Option" "steps" "I") ∈ GW := gw_of 406 _ (by decide +kernel) rfl
theorem gw_407 : (Cond.fieldLink "QuoteGraph$Lattice" 15 "QuoteGraph$Option" "steps" "I") ∈ GW := gw_of 407 _ (by decide +kernel) rfl
theorem gw_408 : (Cond.fieldLink "QuoteGraph$Net" 39 "QuoteGraph$Option" "steps" "I") ∈ GW := gw_of 408 _ (by decide +kernel) rfl
theorem gw_409 : (Cond.fieldLink "QuoteGraph$Paths" 42 "QuoteGraph$Option" "steps" "I") ∈ GW := gw_of 409 _ (by decide +kernel) rfl
theorem gw_410 : (Cond.fieldLink "QuoteGraph$Option" 32 "QuoteGraph$Option" "rate" "LQuoteGraph$Node;") ∈ GW := gw_of 410 _ (by decide +kernel) rfl
theorem gw_411 : (Cond.fieldLink "QuoteGraph$Option" 35 "QuoteGraph$Option" "knock" "LQuoteGraph$Node;") ∈ GW := gw_of 411 _ (by decide +kernel) rfl
theorem gw_412 : (Cond.fieldLink "QuoteGraph$Option" 29 "QuoteGraph$Option" "chance" "I") ∈ GW := gw_of 412 _ (by decide +kernel) rfl
theorem gw_413 : (Cond.fieldLink "QuoteGraph$Net" 15 "QuoteGraph$Option" "chance" "I") ∈ GW := gw_of 413 _ (by decide +kernel) rfl
theorem gw_414 : (Cond.fieldLink "QuoteGraph$Lattice" 33 "QuoteGraph$Option" "chance" "I") ∈ GW := gw_of 414 _ (by decide +kernel) rfl
theorem gw_415 : (Cond.fieldLink "QuoteGraph$Paths" 58 "QuoteGraph$Option" "chance" "I") ∈ GW := gw_of 415 _ (by decide +kernel) rfl
theorem gw_416 : (Cond.fieldLink "QuoteGraph" 96 "QuoteGraph$Option" "chance" "I") ∈ GW := gw_of 416 _ (by decide +kernel) rfl
theorem gw_417 : (Cond.fieldLink "QuoteGraph$Paths" 9 "QuoteGraph$Option" "american" "Z") ∈ GW := gw_of 417 _ (by decide +kernel) rfl
theorem gw_418 : (Cond.fieldLink "QuoteGraph" 99 "QuoteGraph$Option" "american" "Z") ∈ GW := gw_of 418 _ (by decide +kernel) rfl
theorem gw_419 : (Cond.fieldLink "QuoteGraph$Option" 93 "QuoteGraph$Option" "american" "Z") ∈ GW := gw_of 419 _ (by decide +kernel) rfl
theorem gw_420 : (Cond.fieldLink "QuoteGraph$Option" 45 "QuoteGraph$Option" "engine" "LQuoteGraph$Engine;") ∈ GW := gw_of 420 _ (by decide +kernel) rfl
theorem gw_421 : (Cond.fieldLink "QuoteGraph" 76 "QuoteGraph$Option" "engine" "LQuoteGraph$Engine;") ∈ GW := gw_of 421 _ (by decide +kernel) rfl
theorem gw_422 : (Cond.fieldLink "QuoteGraph$Net" 28 "QuoteGraph$Option" "size" "I") ∈ GW := gw_of 422 _ (by decide +kernel) rfl
theorem gw_423 : (Cond.fieldLink "QuoteGraph$Paths" 30 "QuoteGraph$Option" "size" "I") ∈ GW := gw_of 423 _ (by decide +kernel) rfl
theorem gw_424 : (Cond.fieldLink "QuoteGraph" 113 "QuoteGraph$Option" "size" "I") ∈ GW := gw_of 424 _ (by decide +kernel) rfl
theorem gw_425 : (Cond.laysFinal "QuoteGraph$Option" "QuoteGraph$Option" "spot" "LQuoteGraph$Node;") ∈ GW := gw_of 425 _ (by decide +kernel) rfl
theorem gw_427 : (Cond.laysFinal "QuoteGraph$Option" "QuoteGraph$Option" "move" "LQuoteGraph$Node;") ∈ GW := gw_of 427 _ (by decide +kernel) rfl
theorem gw_429 : (Cond.laysFinal "QuoteGraph$Option" "QuoteGraph$Option" "kind" "I") ∈ GW := gw_of 429 _ (by decide +kernel) rfl
theorem gw_431 : (Cond.laysFinal "QuoteGraph$Option" "QuoteGraph$Option" "strike" "J") ∈ GW := gw_of 431 _ (by decide +kernel) rfl
theorem gw_433 : (Cond.laysFinal "QuoteGraph$Option" "QuoteGraph$Option" "steps" "I") ∈ GW := gw_of 433 _ (by decide +kernel) rfl
theorem gw_435 : (Cond.lays "QuoteGraph$Option" "QuoteGraph$Option" "rate" "LQuoteGraph$Node;") ∈ GW := gw_of 435 _ (by decide +kernel) rfl
theorem gw_437 : (Cond.lays "QuoteGraph$Option" "QuoteGraph$Option" "knock" "LQuoteGraph$Node;") ∈ GW := gw_of 437 _ (by decide +kernel) rfl
theorem gw_439 : (Cond.lays "QuoteGraph$Option" "QuoteGraph$Option" "chance" "I") ∈ GW := gw_of 439 _ (by decide +kernel) rfl
theorem gw_441 : (Cond.lays "QuoteGraph$Option" "QuoteGraph$Option" "american" "Z") ∈ GW := gw_of 441 _ (by decide +kernel) rfl
theorem gw_443 : (Cond.lays "QuoteGraph$Option" "QuoteGraph$Option" "engine" "LQuoteGraph$Engine;") ∈ GW := gw_of 443 _ (by decide +kernel) rfl
theorem gw_445 : (Cond.lays "QuoteGraph$Option" "QuoteGraph$Option" "size" "I") ∈ GW := gw_of 445 _ (by decide +kernel) rfl
theorem gw_447 : (Cond.laysFinal "QuoteGraph$Option" "QuoteGraph$Node" "number" "I") ∈ GW := gw_of 447 _ (by decide +kernel) rfl
theorem gw_448 : (Cond.laysFinal "QuoteGraph$Option" "QuoteGraph$Node" "parts" "[LQuoteGraph$Node;") ∈ GW := gw_of 448 _ (by decide +kernel) rfl
theorem gw_449 : (Cond.lays "QuoteGraph$Option" "QuoteGraph$Node" "partCount" "I") ∈ GW := gw_of 449 _ (by decide +kernel) rfl
theorem gw_450 : (Cond.lays "QuoteGraph$Option" "QuoteGraph$Node" "amount" "J") ∈ GW := gw_of 450 _ (by decide +kernel) rfl
theorem gw_451 : (Cond.lays "QuoteGraph$Option" "QuoteGraph$Node" "valid" "Z") ∈ GW := gw_of 451 _ (by decide +kernel) rfl
theorem gw_452 : (Cond.lays "QuoteGraph$Option" "QuoteGraph$Node" "frozen" "Z") ∈ GW := gw_of 452 _ (by decide +kernel) rfl
theorem gw_453 : (Cond.lays "QuoteGraph$Option" "QuoteGraph$Node" "missed" "Z") ∈ GW := gw_of 453 _ (by decide +kernel) rfl
theorem gw_454 : (Cond.lays "QuoteGraph$Option" "QuoteGraph$Node" "timesWorked" "I") ∈ GW := gw_of 454 _ (by decide +kernel) rfl
theorem gw_455 : (Cond.lays "QuoteGraph$Option" "QuoteGraph$Node" "rememberedAmount" "J") ∈ GW := gw_of 455 _ (by decide +kernel) rfl
theorem gw_456 : (Cond.lays "QuoteGraph$Option" "QuoteGraph$Node" "rememberedValid" "Z") ∈ GW := gw_of 456 _ (by decide +kernel) rfl
theorem gw_458 : (Cond.methodLink "QuoteGraphLaw" 92 y_L_terms) ∈ GW := gw_of 458 _ (by decide +kernel) rfl
theorem gw_459 : (Cond.static y_L_terms) ∈ GW := gw_of 459 _ (by decide +kernel) rfl
theorem gw_460 : (Cond.codeWith y_L_terms b_L_terms 7 (some .int) [(0, 11, 14, 13), (0, 11, 18, 15)]) ∈ GW := gw_of 460 _ (by decide +kernel) rfl
theorem gw_461 : (Cond.methodLink "QuoteGraphLaw" 29 y_Q_terms) ∈ GW := gw_of 461 _ (by decide +kernel) rfl
theorem gw_462 : (Cond.instanceMethod y_Q_terms) ∈ GW := gw_of 462 _ (by decide +kernel) rfl
theorem gw_463 : (Cond.selects "QuoteGraph" y_Q_terms y_Q_terms) ∈ GW := gw_of 463 _ (by decide +kernel) rfl
theorem gw_464 : (Cond.code y_Q_terms b_Q_terms 9 none) ∈ GW := gw_of 464 _ (by decide +kernel) rfl
theorem gw_465 : (Cond.methodLink "QuoteGraph" 80 y_Q_optionAt) ∈ GW := gw_of 465 _ (by decide +kernel) rfl
theorem gw_467 : (Cond.instanceMethod y_Q_optionAt) ∈ GW := gw_of 467 _ (by decide +kernel) rfl
theorem gw_468 : (Cond.code y_Q_optionAt b_Q_optionAt 4 (some (.object "QuoteGraph$Option"))) ∈ GW := gw_of 468 _ (by decide +kernel) rfl
theorem gw_470 : (Cond.methodLink "QuoteGraph" 84 y_Q_extraPartAt) ∈ GW := gw_of 470 _ (by decide +kernel) rfl
theorem gw_472 : (Cond.instanceMethod y_Q_extraPartAt) ∈ GW := gw_of 472 _ (by decide +kernel) rfl
theorem gw_473 : (Cond.code y_Q_extraPartAt b_Q_extraPartAt 4 (some (.object "QuoteGraph$Node"))) ∈ GW := gw_of 473 _ (by decide +kernel) rfl
theorem gw_474 : (Cond.methodLink "QuoteGraph" 173 y_Q_hangsOn) ∈ GW := gw_of 474 _ (by decide +kernel) rfl
theorem gw_476 : (Cond.instanceMethod y_Q_hangsOn) ∈ GW := gw_of 476 _ (by decide +kernel) rfl
theorem gw_477 : (Cond.code y_Q_hangsOn b_Q_hangsOn 3 (some .boolean)) ∈ GW := gw_of 477 _ (by decide +kernel) rfl
theorem gw_478 : (Cond.methodLink "QuoteGraph" 223 y_Q_bitsUsedBy) ∈ GW := gw_of 478 _ (by decide +kernel) rfl
theorem gw_480 : (Cond.instanceMethod y_Q_bitsUsedBy) ∈ GW := gw_of 480 _ (by decide +kernel) rfl
theorem gw_481 : (Cond.code y_Q_bitsUsedBy b_Q_bitsUsedBy 5 (some .int)) ∈ GW := gw_of 481 _ (by decide +kernel) rfl
theorem gw_482 : (Cond.methodLink "QuoteGraph" 229 y_Nd_partBits) ∈ GW := gw_of 482 _ (by decide +kernel) rfl
theorem gw_483 : (Cond.instanceMethod y_Nd_partBits) ∈ GW := gw_of 483 _ (by decide +kernel) rfl
theorem gw_485 : (Cond.selects "QuoteGraph$Blend" y_Nd_partBits y_Nd_partBits) ∈ GW := gw_of 485 _ (by decide +kernel) rfl
theorem gw_486 : (Cond.selects "QuoteGraph$Greater" y_Nd_partBits y_Nd_partBits) ∈ GW := gw_of 486 _ (by decide +kernel) rfl
theorem gw_487 : (Cond.selects "QuoteGraph$Option" y_Nd_partBits y_Nd_partBits) ∈ GW := gw_of 487 _ (by decide +kernel) rfl
theorem gw_488 : (Cond.selects "QuoteGraph$Quote" y_Nd_partBits y_Nd_partBits) ∈ GW := gw_of 488 _ (by decide +kernel) rfl
theorem gw_489 : (Cond.code y_Nd_partBits b_Nd_partBits 3 (some .int)) ∈ GW := gw_of 489 _ (by decide +kernel) rfl
theorem gw_490 : (Cond.methodLink "QuoteGraph$Node" 20 y_Nd_bit) ∈ GW := gw_of 490 _ (by decide +kernel) rfl
theorem gw_491 : (Cond.instanceMethod y_Nd_bit) ∈ GW := gw_of 491 _ (by decide +kernel) rfl
theorem gw_493 : (Cond.selects "QuoteGraph$Blend" y_Nd_bit y_Nd_bit) ∈ GW := gw_of 493 _ (by decide +kernel) rfl
theorem gw_494 : (Cond.selects "QuoteGraph$Greater" y_Nd_bit y_Nd_bit) ∈ GW := gw_of 494 _ (by decide +kernel) rfl
theorem gw_495 : (Cond.selects "QuoteGraph$Option" y_Nd_bit y_Nd_bit) ∈ GW := gw_of 495 _ (by decide +kernel) rfl
theorem gw_496 : (Cond.selects "QuoteGraph$Quote" y_Nd_bit y_Nd_bit) ∈ GW := gw_of 496 _ (by decide +kernel) rfl
theorem gw_497 : (Cond.code y_Nd_bit b_Nd_bit 1 (some .int)) ∈ GW := gw_of 497 _ (by decide +kernel) rfl
theorem gw_498 : (Cond.methodLink "QuoteGraph" 226 y_Nd_bit) ∈ GW := gw_of 498 _ (by decide +kernel) rfl
theorem gw_500 : (Cond.methodLink "QuoteGraph" 88 y_Q_checkNotFrozen) ∈ GW := gw_of 500 _ (by decide +kernel) rfl
theorem gw_501 : (Cond.static y_Q_checkNotFrozen) ∈ GW := gw_of 501 _ (by decide +kernel) rfl
theorem gw_502 : (Cond.code y_Q_checkNotFrozen b_Q_checkNotFrozen 1 none) ∈ GW := gw_of 502 _ (by decide +kernel) rfl
theorem gw_504 : (Cond.methodLink "QuoteGraph" 92 y_Op_takeParts) ∈ GW := gw_of 504 _ (by decide +kernel) rfl
theorem gw_505 : (Cond.instanceMethod y_Op_takeParts) ∈ GW := gw_of 505 _ (by decide +kernel) rfl
theorem gw_506 : (Cond.selects "QuoteGraph$Option" y_Op_takeParts y_Op_takeParts) ∈ GW := gw_of 506 _ (by decide +kernel) rfl
theorem gw_507 : (Cond.code y_Op_takeParts b_Op_takeParts 3 none) ∈ GW := gw_of 507 _ (by decide +kernel) rfl
theorem gw_508 : (Cond.methodLink "QuoteGraph" 103 y_Q_tell) ∈ GW := gw_of 508 _ (by decide +kernel) rfl
theorem gw_510 : (Cond.instanceMethod y_Q_tell) ∈ GW := gw_of 510 _ (by decide +kernel) rfl
theorem gw_511 : (Cond.code y_Q_tell b_Q_tell 2 none) ∈ GW := gw_of 511 _ (by decide +kernel) rfl
theorem gw_512 : (Cond.methodLink "QuoteGraph" 127 y_Q_tellUsersOf) ∈ GW := gw_of 512 _ (by decide +kernel) rfl
theorem gw_514 : (Cond.instanceMethod y_Q_tellUsersOf) ∈ GW := gw_of 514 _ (by decide +kernel) rfl
theorem gw_515 : (Cond.code y_Q_tellUsersOf b_Q_tellUsersOf 3 none) ∈ GW := gw_of 515 _ (by decide +kernel) rfl
theorem gw_516 : (Cond.methodLink "QuoteGraphLaw" 96 y_L_engine) ∈ GW := gw_of 516 _ (by decide +kernel) rfl
theorem gw_517 : (Cond.static y_L_engine) ∈ GW := gw_of 517 _ (by decide +kernel) rfl
theorem gw_518 : (Cond.codeWith y_L_engine b_L_engine 5 (some .int) [(0, 7, 10, 13), (0, 7, 14, 15)]) ∈ GW := gw_of 518 _ (by decide +kernel) rfl
theorem gw_519 : (Cond.methodLink "QuoteGraphLaw" 33 y_Q_engine) ∈ GW := gw_of 519 _ (by decide +kernel) rfl
theorem gw_520 : (Cond.instanceMethod y_Q_engine) ∈ GW := gw_of 520 _ (by decide +kernel) rfl
theorem gw_521 : (Cond.selects "QuoteGraph" y_Q_engine y_Q_engine) ∈ GW := gw_of 521 _ (by decide +kernel) rfl
theorem gw_522 : (Cond.code y_Q_engine b_Q_engine 6 none) ∈ GW := gw_of 522 _ (by decide +kernel) rfl
theorem gw_523 : (Cond.methodLink "QuoteGraphLaw" 100 y_L_set) ∈ GW := gw_of 523 _ (by decide +kernel) rfl
theorem gw_524 : (Cond.static y_L_set) ∈ GW := gw_of 524 _ (by decide +kernel) rfl
theorem gw_525 : (Cond.codeWith y_L_set b_L_set 6 (some .int) [(0, 11, 14, 13)]) ∈ GW := gw_of 525 _ (by decide +kernel) rfl
theorem gw_526 : (Cond.methodLink "QuoteGraphLaw" 37 y_Q_set) ∈ GW := gw_of 526 _ (by decide +kernel) rfl
theorem gw_527 : (Cond.instanceMethod y_Q_set) ∈ GW := gw_of 527 _ (by decide +kernel) rfl
theorem gw_528 : (Cond.selects "QuoteGraph" y_Q_set y_Q_set) ∈ GW := gw_of 528 _ (by decide +kernel) rfl
theorem gw_529 : (Cond.code y_Q_set b_Q_set 8 (some .int)) ∈ GW := gw_of 529 _ (by decide +kernel) rfl
theorem gw_530 : (Cond.methodLink "QuoteGraph" 116 y_Q_quoteAt) ∈ GW := gw_of 530 _ (by decide +kernel) rfl
theorem gw_532 : (Cond.instanceMethod y_Q_quoteAt) ∈ GW := gw_of 532 _ (by decide +kernel) rfl
theorem gw_533 : (Cond.code y_Q_quoteAt b_Q_quoteAt 4 (some (.object "QuoteGraph$Quote"))) ∈ GW := gw_of 533 _ (by decide +kernel) rfl
theorem gw_535 : (Cond.methodLink "QuoteGraphLaw" 104 y_L_value) ∈ GW := gw_of 535 _ (by decide +kernel) rfl
theorem gw_536 : (Cond.static y_L_value) ∈ GW := gw_of 536 _ (by decide +kernel) rfl
theorem gw_537 : (Cond.codeWith y_L_value b_L_value 4 (some .int) [(0, 8, 11, 13), (0, 8, 14, 45), (0, 8, 17, 47)]) ∈ GW := gw_of 537 _ (by decide +kernel) rfl
theorem gw_538 : (Cond.classLink "QuoteGraphLaw" 45 "java/lang/ArithmeticException") ∈ GW := gw_of 538 _ (by decide +kernel) rfl
theorem gw_539 : (Cond.classLink "QuoteGraphLaw" 47 "java/lang/UnsupportedOperationException") ∈ GW := gw_of 539 _ (by decide +kernel) rfl
theorem gw_540 : (Cond.methodLink "QuoteGraphLaw" 41 y_Q_value) ∈ GW := gw_of 540 _ (by decide +kernel) rfl
theorem gw_541 : (Cond.instanceMethod y_Q_value) ∈ GW := gw_of 541 _ (by decide +kernel) rfl
theorem gw_542 : (Cond.selects "QuoteGraph" y_Q_value y_Q_value) ∈ GW := gw_of 542 _ (by decide +kernel) rfl
theorem gw_543 : (Cond.code y_Q_value b_Q_value 3 (some .double)) ∈ GW := gw_of 543 _ (by decide +kernel) rfl
theorem gw_544 : (Cond.methodLink "QuoteGraph" 130 y_Q_tryToAsk) ∈ GW := gw_of 544 _ (by decide +kernel) rfl
theorem gw_546 : (Cond.instanceMethod y_Q_tryToAsk) ∈ GW := gw_of 546 _ (by decide +kernel) rfl
theorem gw_547 : (Cond.codeWith y_Q_tryToAsk b_Q_tryToAsk 3 (some (.object "QuoteGraph$Trouble")) [(0, 5, 8, 246), (0, 5, 13, 254)]) ∈ GW := gw_of 547 _ (by decide +kernel) rfl
theorem gw_548 : (Cond.classLink "QuoteGraph" 246 "java/lang/ArithmeticException") ∈ GW := gw_of 548 _ (by decide +kernel) rfl
theorem gw_549 : (Cond.classLink "QuoteGraph" 254 "java/lang/UnsupportedOperationException") ∈ GW := gw_of 549 _ (by decide +kernel) rfl
theorem gw_550 : (Cond.methodLink "QuoteGraph" 235 y_Q_ask) ∈ GW := gw_of 550 _ (by decide +kernel) rfl
theorem gw_552 : (Cond.instanceMethod y_Q_ask) ∈ GW := gw_of 552 _ (by decide +kernel) rfl
theorem gw_553 : (Cond.code y_Q_ask b_Q_ask 3 none) ∈ GW := gw_of 553 _ (by decide +kernel) rfl
theorem gw_554 : (Cond.methodLink "QuoteGraph" 238 ⟨"QuoteGraph$Node", "workOut", "()J"⟩) ∈ GW := gw_of 554 _ (by decide +kernel) rfl
theorem gw_557 : (Cond.selects "QuoteGraph$Blend" ⟨"QuoteGraph$Node", "workOut", "()J"⟩ y_Bl_workOut) ∈ GW := gw_of 557 _ (by decide +kernel) rfl
theorem gw_558 : (Cond.instanceMethod y_Bl_workOut) ∈ GW := gw_of 558 _ (by decide +kernel) rfl
theorem gw_559 : (Cond.code y_Bl_workOut b_Bl_workOut 3 (some .long)) ∈ GW := gw_of 559 _ (by decide +kernel) rfl
theorem gw_560 : (Cond.methodLinkNest "QuoteGraph$Blend" 25 y_Q_rounded "QuoteGraph") ∈ GW := gw_of 560 _ (by decide +kernel) rfl
theorem gw_561 : (Cond.static y_Q_rounded) ∈ GW := gw_of 561 _ (by decide +kernel) rfl
theorem gw_562 : (Cond.code y_Q_rounded b_Q_rounded 3 (some .long)) ∈ GW := gw_of 562 _ (by decide +kernel) rfl
theorem gw_563 : (Cond.constantLong "QuoteGraph" 274 2) ∈ GW := gw_of 563 _ (by decide +kernel) rfl
theorem gw_564 : (Cond.methodLink "QuoteGraph" 242 y_Q_notTooLarge) ∈ GW := gw_of 564 _ (by decide +kernel) rfl
theorem gw_565 : (Cond.static y_Q_notTooLarge) ∈ GW := gw_of 565 _ (by decide +kernel) rfl
theorem gw_566 : (Cond.code y_Q_notTooLarge b_Q_notTooLarge 2 (some .long)) ∈ GW := gw_of 566 _ (by decide +kernel) rfl
theorem gw_567 : (Cond.constantLong "QuoteGraph" 276 1024000000) ∈ GW := gw_of 567 _ (by decide +kernel) rfl
theorem gw_568 : (Cond.constantLong "QuoteGraph" 278 (-1024000000)) ∈ GW := gw_of 568 _ (by decide +kernel) rfl
theorem gw_569 : (Cond.instantiable "java/lang/ArithmeticException" 6) ∈ GW := gw_of 569 _ (by decide +kernel) rfl
theorem gw_571 : (Cond.selects "java/lang/ArithmeticException" ⟨"java/lang/Throwable", "fillInStackTrace", "(I)Ljava/lang/Throwable;"⟩ ⟨"java/lang/Throwable", "fillInStackTrace", "(I)Ljava/lang/Throwable;"⟩) ∈ GW := gw_of 571 _ (by decide +kernel) rfl
theorem gw_572 : (Cond.lays "java/lang/ArithmeticException" "java/lang/Throwable" "cause" "Ljava/lang/Throwable;") ∈ GW := gw_of 572 _ (by decide +kernel) rfl
theorem gw_573 : (Cond.lays "java/lang/ArithmeticException" "java/lang/Throwable" "stackTrace" "[Ljava/lang/StackTraceElement;") ∈ GW := gw_of 573 _ (by decide +kernel) rfl
theorem gw_574 : (Cond.lays "java/lang/ArithmeticException" "java/lang/Throwable" "suppressedExceptions" "Ljava/util/List;") ∈ GW := gw_of 574 _ (by decide +kernel) rfl
theorem gw_575 : (Cond.lays "java/lang/ArithmeticException" "java/lang/Throwable" "detailMessage" "Ljava/lang/String;") ∈ GW := gw_of 575 _ (by decide +kernel) rfl
theorem gw_576 : (Cond.lays "java/lang/ArithmeticException" "java/lang/Throwable" "backtrace" "Ljava/lang/Object;") ∈ GW := gw_of 576 _ (by decide +kernel) rfl
theorem gw_578 : (Cond.methodLink "QuoteGraph" 267 ⟨"java/lang/ArithmeticException", "<init>", "(Ljava/lang/String;)V"⟩) ∈ GW := gw_of 578 _ (by decide +kernel) rfl
theorem gw_579 : (Cond.instanceMethod ⟨"java/lang/ArithmeticException", "<init>", "(Ljava/lang/String;)V"⟩) ∈ GW := gw_of 579 _ (by decide +kernel) rfl
theorem gw_580 : (Cond.code ⟨"java/lang/ArithmeticException", "<init>", "(Ljava/lang/String;)V"⟩ prog_14_method_2_code 2 none) ∈ GW := gw_of 580 _ (by decide +kernel) rfl
theorem gw_581 : (Cond.methodLink "java/lang/ArithmeticException" 7 ⟨"java/lang/RuntimeException", "<init>", "(Ljava/lang/String;)V"⟩) ∈ GW := gw_of 581 _ (by decide +kernel) rfl
theorem gw_582 : (Cond.lays "java/lang/ArithmeticException" "java/lang/Throwable" "depth" "I") ∈ GW := gw_of 582 _ (by decide +kernel) rfl
theorem gw_584 : (Cond.selects "QuoteGraph$Greater" ⟨"QuoteGraph$Node", "workOut", "()J"⟩ y_Gr_workOut) ∈ GW := gw_of 584 _ (by decide +kernel) rfl
theorem gw_585 : (Cond.instanceMethod y_Gr_workOut) ∈ GW := gw_of 585 _ (by decide +kernel) rfl
theorem gw_586 : (Cond.code y_Gr_workOut b_Gr_workOut 1 (some .long)) ∈ GW := gw_of 586 _ (by decide +kernel) rfl
theorem gw_587 : (Cond.methodLink "QuoteGraph$Greater" 19 ⟨"java/lang/Math", "max", "(JJ)J"⟩) ∈ GW := gw_of 587 _ (by decide +kernel) rfl
theorem gw_588 : (Cond.static ⟨"java/lang/Math", "max", "(JJ)J"⟩) ∈ GW := gw_of 588 _ (by decide +kernel) rfl
theorem gw_589 : (Cond.code ⟨"java/lang/Math", "max", "(JJ)J"⟩ prog_19_method_66_code 4 (some .long)) ∈ GW := gw_of 589 _ (by decide +kernel) rfl
theorem gw_590 : (Cond.selects "QuoteGraph$Option" ⟨"QuoteGraph$Node", "workOut", "()J"⟩ y_Op_workOut) ∈ GW := gw_of 590 _ (by decide +kernel) rfl
theorem gw_591 : (Cond.instanceMethod y_Op_workOut) ∈ GW := gw_of 591 _ (by decide +kernel) rfl
theorem gw_592 : (Cond.code y_Op_workOut b_Op_workOut 1 (some .long)) ∈ GW := gw_of 592 _ (by decide +kernel) rfl
theorem gw_593 : (Cond.methodLink "QuoteGraph$Option" 49 ⟨"QuoteGraph$Engine", "checkSuits", "(LQuoteGraph$Option;)V"⟩) ∈ GW := gw_of 593 _ (by decide +kernel) rfl
theorem gw_596 : (Cond.selects "QuoteGraph$Lattice" ⟨"QuoteGraph$Engine", "checkSuits", "(LQuoteGraph$Option;)V"⟩ y_La_checkSuits) ∈ GW := gw_of 596 _ (by decide +kernel) rfl
theorem gw_597 : (Cond.instanceMethod y_La_checkSuits) ∈ GW := gw_of 597 _ (by decide +kernel) rfl
theorem gw_598 : (Cond.code y_La_checkSuits b_La_checkSuits 2 none) ∈ GW := gw_of 598 _ (by decide +kernel) rfl
theorem gw_599 : (Cond.selects "QuoteGraph$Net" ⟨"QuoteGraph$Engine", "checkSuits", "(LQuoteGraph$Option;)V"⟩ y_Ne_checkSuits) ∈ GW := gw_of 599 _ (by decide +kernel) rfl
theorem gw_600 : (Cond.instanceMethod y_Ne_checkSuits) ∈ GW := gw_of 600 _ (by decide +kernel) rfl
theorem gw_601 : (Cond.code y_Ne_checkSuits b_Ne_checkSuits 2 none) ∈ GW := gw_of 601 _ (by decide +kernel) rfl
theorem gw_602 : (Cond.classLink "QuoteGraph$Net" 21 "java/lang/ArithmeticException") ∈ GW := gw_of 602 _ (by decide +kernel) rfl
theorem gw_604 : (Cond.methodLink "QuoteGraph$Net" 25 ⟨"java/lang/ArithmeticException", "<init>", "(Ljava/lang/String;)V"⟩) ∈ GW := gw_of 604 _ (by decide +kernel) rfl
theorem gw_605 : (Cond.selects "QuoteGraph$Paths" ⟨"QuoteGraph$Engine", "checkSuits", "(LQuoteGraph$Option;)V"⟩ y_Pa_checkSuits) ∈ GW := gw_of 605 _ (by decide +kernel) rfl
theorem gw_606 : (Cond.instanceMethod y_Pa_checkSuits) ∈ GW := gw_of 606 _ (by decide +kernel) rfl
theorem gw_607 : (Cond.code y_Pa_checkSuits b_Pa_checkSuits 2 none) ∈ GW := gw_of 607 _ (by decide +kernel) rfl
theorem gw_608 : (Cond.classLink "QuoteGraph$Paths" 15 "java/lang/UnsupportedOperationException") ∈ GW := gw_of 608 _ (by decide +kernel) rfl
theorem gw_609 : (Cond.instantiable "java/lang/UnsupportedOperationException" 6) ∈ GW := gw_of 609 _ (by decide +kernel) rfl
theorem gw_611 : (Cond.selects "java/lang/UnsupportedOperationException" ⟨"java/lang/Throwable", "fillInStackTrace", "(I)Ljava/lang/Throwable;"⟩ ⟨"java/lang/Throwable", "fillInStackTrace", "(I)Ljava/lang/Throwable;"⟩) ∈ GW := gw_of 611 _ (by decide +kernel) rfl
theorem gw_612 : (Cond.lays "java/lang/UnsupportedOperationException" "java/lang/Throwable" "cause" "Ljava/lang/Throwable;") ∈ GW := gw_of 612 _ (by decide +kernel) rfl
theorem gw_613 : (Cond.lays "java/lang/UnsupportedOperationException" "java/lang/Throwable" "stackTrace" "[Ljava/lang/StackTraceElement;") ∈ GW := gw_of 613 _ (by decide +kernel) rfl
theorem gw_614 : (Cond.lays "java/lang/UnsupportedOperationException" "java/lang/Throwable" "suppressedExceptions" "Ljava/util/List;") ∈ GW := gw_of 614 _ (by decide +kernel) rfl
theorem gw_615 : (Cond.lays "java/lang/UnsupportedOperationException" "java/lang/Throwable" "detailMessage" "Ljava/lang/String;") ∈ GW := gw_of 615 _ (by decide +kernel) rfl
theorem gw_616 : (Cond.lays "java/lang/UnsupportedOperationException" "java/lang/Throwable" "backtrace" "Ljava/lang/Object;") ∈ GW := gw_of 616 _ (by decide +kernel) rfl
theorem gw_618 : (Cond.methodLink "QuoteGraph$Paths" 19 ⟨"java/lang/UnsupportedOperationException", "<init>", "(Ljava/lang/String;)V"⟩) ∈ GW := gw_of 618 _ (by decide +kernel) rfl
theorem gw_619 : (Cond.instanceMethod ⟨"java/lang/UnsupportedOperationException", "<init>", "(Ljava/lang/String;)V"⟩) ∈ GW := gw_of 619 _ (by decide +kernel) rfl
theorem gw_620 : (Cond.code ⟨"java/lang/UnsupportedOperationException", "<init>", "(Ljava/lang/String;)V"⟩ prog_23_method_2_code 2 none) ∈ GW := gw_of 620 _ (by decide +kernel) rfl
theorem gw_621 : (Cond.methodLink "java/lang/UnsupportedOperationException" 7 ⟨"java/lang/RuntimeException", "<init>", "(Ljava/lang/String;)V"⟩) ∈ GW := gw_of 621 _ (by decide +kernel) rfl
theorem gw_622 : (Cond.lays "java/lang/UnsupportedOperationException" "java/lang/Throwable" "depth" "I") ∈ GW := gw_of 622 _ (by decide +kernel) rfl
theorem gw_624 : (Cond.classLink "QuoteGraph$Option" 58 "java/lang/ArithmeticException") ∈ GW := gw_of 624 _ (by decide +kernel) rfl
theorem gw_626 : (Cond.methodLink "QuoteGraph$Option" 62 ⟨"java/lang/ArithmeticException", "<init>", "(Ljava/lang/String;)V"⟩) ∈ GW := gw_of 626 _ (by decide +kernel) rfl
theorem gw_627 : (Cond.methodLink "QuoteGraph$Option" 65 y_Op_discount) ∈ GW := gw_of 627 _ (by decide +kernel) rfl
theorem gw_629 : (Cond.instanceMethod y_Op_discount) ∈ GW := gw_of 629 _ (by decide +kernel) rfl
theorem gw_630 : (Cond.code y_Op_discount b_Op_discount 3 (some .long)) ∈ GW := gw_of 630 _ (by decide +kernel) rfl
theorem gw_631 : (Cond.constantLong "QuoteGraph$Option" 73 1024) ∈ GW := gw_of 631 _ (by decide +kernel) rfl
theorem gw_633 : (Cond.methodLink "QuoteGraph$Option" 69 ⟨"QuoteGraph$Engine", "price", "(LQuoteGraph$Option;J)J"⟩) ∈ GW := gw_of 633 _ (by decide +kernel) rfl
theorem gw_636 : (Cond.selects "QuoteGraph$Lattice" ⟨"QuoteGraph$Engine", "price", "(LQuoteGraph$Option;J)J"⟩ y_La_price) ∈ GW := gw_of 636 _ (by decide +kernel) rfl
theorem gw_637 : (Cond.instanceMethod y_La_price) ∈ GW := gw_of 637 _ (by decide +kernel) rfl
theorem gw_638 : (Cond.code y_La_price b_La_price 5 (some .long)) ∈ GW := gw_of 638 _ (by decide +kernel) rfl
theorem gw_639 : (Cond.methodLink "QuoteGraph$Lattice" 21 y_Op_priceAt) ∈ GW := gw_of 639 _ (by decide +kernel) rfl
theorem gw_640 : (Cond.instanceMethod y_Op_priceAt) ∈ GW := gw_of 640 _ (by decide +kernel) rfl
theorem gw_641 : (Cond.selects "QuoteGraph$Option" y_Op_priceAt y_Op_priceAt) ∈ GW := gw_of 641 _ (by decide +kernel) rfl
theorem gw_642 : (Cond.code y_Op_priceAt b_Op_priceAt 2 (some .long)) ∈ GW := gw_of 642 _ (by decide +kernel) rfl
theorem gw_643 : (Cond.methodLink "QuoteGraph$Lattice" 25 y_Op_payoff) ∈ GW := gw_of 643 _ (by decide +kernel) rfl
theorem gw_644 : (Cond.instanceMethod y_Op_payoff) ∈ GW := gw_of 644 _ (by decide +kernel) rfl
theorem gw_645 : (Cond.selects "QuoteGraph$Option" y_Op_payoff y_Op_payoff) ∈ GW := gw_of 645 _ (by decide +kernel) rfl
theorem gw_646 : (Cond.code y_Op_payoff b_Op_payoff 3 (some .long)) ∈ GW := gw_of 646 _ (by decide +kernel) rfl
theorem gw_647 : (Cond.methodLink "QuoteGraph$Option" 77 y_Op_isOut) ∈ GW := gw_of 647 _ (by decide +kernel) rfl
theorem gw_648 : (Cond.instanceMethod y_Op_isOut) ∈ GW := gw_of 648 _ (by decide +kernel) rfl
theorem gw_649 : (Cond.selects "QuoteGraph$Option" y_Op_isOut y_Op_isOut) ∈ GW := gw_of 649 _ (by decide +kernel) rfl
theorem gw_650 : (Cond.code y_Op_isOut b_Op_isOut 3 (some .boolean)) ∈ GW := gw_of 650 _ (by decide +kernel) rfl
theorem gw_651 : (Cond.methodLink "QuoteGraph$Option" 81 y_Op_payoffInside) ∈ GW := gw_of 651 _ (by decide +kernel) rfl
theorem gw_652 : (Cond.instanceMethod y_Op_payoffInside) ∈ GW := gw_of 652 _ (by decide +kernel) rfl
theorem gw_653 : (Cond.selects "QuoteGraph$Option" y_Op_payoffInside y_Op_payoffInside) ∈ GW := gw_of 653 _ (by decide +kernel) rfl
theorem gw_654 : (Cond.code y_Op_payoffInside b_Op_payoffInside 3 (some .long)) ∈ GW := gw_of 654 _ (by decide +kernel) rfl
theorem gw_655 : (Cond.methodLink "QuoteGraph$Option" 85 ⟨"java/lang/Math", "max", "(JJ)J"⟩) ∈ GW := gw_of 655 _ (by decide +kernel) rfl
theorem gw_656 : (Cond.constantLong "QuoteGraph$Option" 91 102400) ∈ GW := gw_of 656 _ (by decide +kernel) rfl
theorem gw_657 : (Cond.methodLink "QuoteGraph$Lattice" 29 y_La_stepBack) ∈ GW := gw_of 657 _ (by decide +kernel) rfl
theorem gw_659 : (Cond.instanceMethod y_La_stepBack) ∈ GW := gw_of 659 _ (by decide +kernel) rfl
theorem gw_660 : (Cond.code y_La_stepBack b_La_stepBack 11 none) ∈ GW := gw_of 660 _ (by decide +kernel) rfl
theorem gw_661 : (Cond.methodLinkNest "QuoteGraph$Lattice" 36 y_Q_rounded "QuoteGraph") ∈ GW := gw_of 661 _ (by decide +kernel) rfl
theorem gw_662 : (Cond.methodLink "QuoteGraph$Lattice" 40 y_Op_heldAt) ∈ GW := gw_of 662 _ (by decide +kernel) rfl
theorem gw_663 : (Cond.instanceMethod y_Op_heldAt) ∈ GW := gw_of 663 _ (by decide +kernel) rfl
theorem gw_664 : (Cond.selects "QuoteGraph$Option" y_Op_heldAt y_Op_heldAt) ∈ GW := gw_of 664 _ (by decide +kernel) rfl
theorem gw_665 : (Cond.code y_Op_heldAt b_Op_heldAt 5 (some .long)) ∈ GW := gw_of 665 _ (by decide +kernel) rfl
theorem gw_666 : (Cond.selects "QuoteGraph$Net" ⟨"QuoteGraph$Engine", "price", "(LQuoteGraph$Option;J)J"⟩ y_Ne_price) ∈ GW := gw_of 666 _ (by decide +kernel) rfl
theorem gw_667 : (Cond.instanceMethod y_Ne_price) ∈ GW := gw_of 667 _ (by decide +kernel) rfl
theorem gw_668 : (Cond.code y_Ne_price b_Ne_price 6 (some .long)) ∈ GW := gw_of 668 _ (by decide +kernel) rfl
theorem gw_669 : (Cond.methodLink "QuoteGraph$Net" 31 y_Op_priceAt) ∈ GW := gw_of 669 _ (by decide +kernel) rfl
theorem gw_670 : (Cond.methodLink "QuoteGraph$Net" 35 y_Op_payoff) ∈ GW := gw_of 670 _ (by decide +kernel) rfl
theorem gw_671 : (Cond.methodLink "QuoteGraph$Net" 42 y_Ne_stepBack) ∈ GW := gw_of 671 _ (by decide +kernel) rfl
theorem gw_673 : (Cond.instanceMethod y_Ne_stepBack) ∈ GW := gw_of 673 _ (by decide +kernel) rfl
theorem gw_674 : (Cond.code y_Ne_stepBack b_Ne_stepBack 16 none) ∈ GW := gw_of 674 _ (by decide +kernel) rfl
theorem gw_675 : (Cond.constantLong "QuoteGraph$Net" 46 2) ∈ GW := gw_of 675 _ (by decide +kernel) rfl
theorem gw_676 : (Cond.constantLong "QuoteGraph$Net" 48 16) ∈ GW := gw_of 676 _ (by decide +kernel) rfl
theorem gw_677 : (Cond.methodLinkNest "QuoteGraph$Net" 50 y_Q_rounded "QuoteGraph") ∈ GW := gw_of 677 _ (by decide +kernel) rfl
theorem gw_678 : (Cond.methodLink "QuoteGraph$Net" 54 y_Op_heldAt) ∈ GW := gw_of 678 _ (by decide +kernel) rfl
theorem gw_679 : (Cond.selects "QuoteGraph$Paths" ⟨"QuoteGraph$Engine", "price", "(LQuoteGraph$Option;J)J"⟩ y_Pa_price) ∈ GW := gw_of 679 _ (by decide +kernel) rfl
theorem gw_680 : (Cond.instanceMethod y_Pa_price) ∈ GW := gw_of 680 _ (by decide +kernel) rfl
theorem gw_681 : (Cond.code y_Pa_price b_Pa_price 10 (some .long)) ∈ GW := gw_of 681 _ (by decide +kernel) rfl
theorem gw_682 : (Cond.constantLong "QuoteGraph$Paths" 24 12345) ∈ GW := gw_of 682 _ (by decide +kernel) rfl
theorem gw_683 : (Cond.methodLink "QuoteGraph$Paths" 34 y_Pa_endOfPath) ∈ GW := gw_of 683 _ (by decide +kernel) rfl
theorem gw_685 : (Cond.instanceMethod y_Pa_endOfPath) ∈ GW := gw_of 685 _ (by decide +kernel) rfl
theorem gw_686 : (Cond.code y_Pa_endOfPath b_Pa_endOfPath 6 (some .long)) ∈ GW := gw_of 686 _ (by decide +kernel) rfl
theorem gw_687 : (Cond.methodLink "QuoteGraph$Paths" 54 y_Op_isOut) ∈ GW := gw_of 687 _ (by decide +kernel) rfl
theorem gw_688 : (Cond.methodLink "QuoteGraph$Paths" 61 y_Pa_drawsUp) ∈ GW := gw_of 688 _ (by decide +kernel) rfl
theorem gw_690 : (Cond.instanceMethod y_Pa_drawsUp) ∈ GW := gw_of 690 _ (by decide +kernel) rfl
theorem gw_691 : (Cond.code y_Pa_drawsUp b_Pa_drawsUp 2 (some .boolean)) ∈ GW := gw_of 691 _ (by decide +kernel) rfl
theorem gw_692 : (Cond.constantLong "QuoteGraph$Paths" 72 1103515245) ∈ GW := gw_of 692 _ (by decide +kernel) rfl
theorem gw_693 : (Cond.constantLong "QuoteGraph$Paths" 74 2147483647) ∈ GW := gw_of 693 _ (by decide +kernel) rfl
theorem gw_694 : (Cond.constantLong "QuoteGraph$Paths" 76 15) ∈ GW := gw_of 694 _ (by decide +kernel) rfl
theorem gw_695 : (Cond.methodLink "QuoteGraph$Paths" 68 y_Op_payoffInside) ∈ GW := gw_of 695 _ (by decide +kernel) rfl
theorem gw_696 : (Cond.methodLinkNest "QuoteGraph$Paths" 38 y_Q_rounded "QuoteGraph") ∈ GW := gw_of 696 _ (by decide +kernel) rfl
theorem gw_697 : (Cond.selects "QuoteGraph$Quote" ⟨"QuoteGraph$Node", "workOut", "()J"⟩ y_Qt_workOut) ∈ GW := gw_of 697 _ (by decide +kernel) rfl
theorem gw_698 : (Cond.instanceMethod y_Qt_workOut) ∈ GW := gw_of 698 _ (by decide +kernel) rfl
theorem gw_699 : (Cond.code y_Qt_workOut b_Qt_workOut 1 (some .long)) ∈ GW := gw_of 699 _ (by decide +kernel) rfl
theorem gw_700 : (Cond.fieldLink "QuoteGraph" 248 "QuoteGraph$Trouble" "ARITHMETIC" "LQuoteGraph$Trouble;") ∈ GW := gw_of 700 _ (by decide +kernel) rfl
theorem gw_702 : (Cond.fieldLink "QuoteGraph" 256 "QuoteGraph$Trouble" "UNSUPPORTED" "LQuoteGraph$Trouble;") ∈ GW := gw_of 702 _ (by decide +kernel) rfl
theorem gw_704 : (Cond.fieldLink "QuoteGraph" 259 "QuoteGraph$Trouble" "NONE" "LQuoteGraph$Trouble;") ∈ GW := gw_of 704 _ (by decide +kernel) rfl
theorem gw_706 : (Cond.methodLink "QuoteGraph" 134 y_Q_raise) ∈ GW := gw_of 706 _ (by decide +kernel) rfl
theorem gw_708 : (Cond.instanceMethod y_Q_raise) ∈ GW := gw_of 708 _ (by decide +kernel) rfl
theorem gw_709 : (Cond.code y_Q_raise b_Q_raise 2 none) ∈ GW := gw_of 709 _ (by decide +kernel) rfl
theorem gw_711 : (Cond.methodLink "QuoteGraph" 264 ⟨"java/lang/UnsupportedOperationException", "<init>", "(Ljava/lang/String;)V"⟩) ∈ GW := gw_of 711 _ (by decide +kernel) rfl
theorem gw_713 : (Cond.methodLink "QuoteGraph" 139 y_Q_numberOf) ∈ GW := gw_of 713 _ (by decide +kernel) rfl
theorem gw_714 : (Cond.static y_Q_numberOf) ∈ GW := gw_of 714 _ (by decide +kernel) rfl
theorem gw_715 : (Cond.code y_Q_numberOf b_Q_numberOf 2 (some .double)) ∈ GW := gw_of 715 _ (by decide +kernel) rfl
theorem gw_716 : (Cond.constantDouble "QuoteGraph" 209 4652218415073722368) ∈ GW := gw_of 716 _ (by decide +kernel) rfl
theorem gw_717 : (Cond.methodLink "QuoteGraphLaw" 108 y_L_freeze) ∈ GW := gw_of 717 _ (by decide +kernel) rfl
theorem gw_718 : (Cond.static y_L_freeze) ∈ GW := gw_of 718 _ (by decide +kernel) rfl
theorem gw_719 : (Cond.codeWith y_L_freeze b_L_freeze 4 (some .int) [(0, 6, 9, 13), (0, 6, 12, 15)]) ∈ GW := gw_of 719 _ (by decide +kernel) rfl
theorem gw_720 : (Cond.methodLink "QuoteGraphLaw" 49 y_Q_freeze) ∈ GW := gw_of 720 _ (by decide +kernel) rfl
theorem gw_721 : (Cond.instanceMethod y_Q_freeze) ∈ GW := gw_of 721 _ (by decide +kernel) rfl
theorem gw_722 : (Cond.selects "QuoteGraph" y_Q_freeze y_Q_freeze) ∈ GW := gw_of 722 _ (by decide +kernel) rfl
theorem gw_723 : (Cond.code y_Q_freeze b_Q_freeze 4 none) ∈ GW := gw_of 723 _ (by decide +kernel) rfl
theorem gw_726 : (Cond.methodLink "QuoteGraphLaw" 112 y_L_bump) ∈ GW := gw_of 726 _ (by decide +kernel) rfl
theorem gw_727 : (Cond.static y_L_bump) ∈ GW := gw_of 727 _ (by decide +kernel) rfl
theorem gw_728 : (Cond.codeWith y_L_bump b_L_bump 7 (some .int) [(0, 11, 14, 13), (0, 11, 18, 45), (0, 11, 22, 47)]) ∈ GW := gw_of 728 _ (by decide +kernel) rfl
theorem gw_729 : (Cond.methodLink "QuoteGraphLaw" 53 y_Q_bump) ∈ GW := gw_of 729 _ (by decide +kernel) rfl
theorem gw_730 : (Cond.instanceMethod y_Q_bump) ∈ GW := gw_of 730 _ (by decide +kernel) rfl
theorem gw_731 : (Cond.selects "QuoteGraph" y_Q_bump y_Q_bump) ∈ GW := gw_of 731 _ (by decide +kernel) rfl
theorem gw_732 : (Cond.code y_Q_bump b_Q_bump 14 (some .double)) ∈ GW := gw_of 732 _ (by decide +kernel) rfl
theorem gw_733 : (Cond.methodLink "QuoteGraph" 164 y_Q_rememberAll) ∈ GW := gw_of 733 _ (by decide +kernel) rfl
theorem gw_735 : (Cond.instanceMethod y_Q_rememberAll) ∈ GW := gw_of 735 _ (by decide +kernel) rfl
theorem gw_736 : (Cond.code y_Q_rememberAll b_Q_rememberAll 2 none) ∈ GW := gw_of 736 _ (by decide +kernel) rfl
theorem gw_737 : (Cond.methodLink "QuoteGraph" 268 y_Nd_remember) ∈ GW := gw_of 737 _ (by decide +kernel) rfl
theorem gw_738 : (Cond.instanceMethod y_Nd_remember) ∈ GW := gw_of 738 _ (by decide +kernel) rfl
theorem gw_740 : (Cond.selects "QuoteGraph$Blend" y_Nd_remember y_Nd_remember) ∈ GW := gw_of 740 _ (by decide +kernel) rfl
theorem gw_741 : (Cond.selects "QuoteGraph$Greater" y_Nd_remember y_Nd_remember) ∈ GW := gw_of 741 _ (by decide +kernel) rfl
theorem gw_742 : (Cond.selects "QuoteGraph$Option" y_Nd_remember y_Nd_remember) ∈ GW := gw_of 742 _ (by decide +kernel) rfl
theorem gw_743 : (Cond.selects "QuoteGraph$Quote" y_Nd_remember y_Nd_remember) ∈ GW := gw_of 743 _ (by decide +kernel) rfl
theorem gw_744 : (Cond.code y_Nd_remember b_Nd_remember 1 none) ∈ GW := gw_of 744 _ (by decide +kernel) rfl
theorem gw_745 : (Cond.methodLink "QuoteGraph" 167 y_Q_makeUsersStale) ∈ GW := gw_of 745 _ (by decide +kernel) rfl
theorem gw_747 : (Cond.instanceMethod y_Q_makeUsersStale) ∈ GW := gw_of 747 _ (by decide +kernel) rfl
theorem gw_748 : (Cond.code y_Q_makeUsersStale b_Q_makeUsersStale 3 none) ∈ GW := gw_of 748 _ (by decide +kernel) rfl
theorem gw_749 : (Cond.methodLink "QuoteGraph" 170 y_Q_restoreAll) ∈ GW := gw_of 749 _ (by decide +kernel) rfl
theorem gw_751 : (Cond.instanceMethod y_Q_restoreAll) ∈ GW := gw_of 751 _ (by decide +kernel) rfl
theorem gw_752 : (Cond.code y_Q_restoreAll b_Q_restoreAll 2 none) ∈ GW := gw_of 752 _ (by decide +kernel) rfl
theorem gw_753 : (Cond.methodLink "QuoteGraph" 271 y_Nd_restore) ∈ GW := gw_of 753 _ (by decide +kernel) rfl
theorem gw_754 : (Cond.instanceMethod y_Nd_restore) ∈ GW := gw_of 754 _ (by decide +kernel) rfl
theorem gw_756 : (Cond.selects "QuoteGraph$Blend" y_Nd_restore y_Nd_restore) ∈ GW := gw_of 756 _ (by decide +kernel) rfl
theorem gw_757 : (Cond.selects "QuoteGraph$Greater" y_Nd_restore y_Nd_restore) ∈ GW := gw_of 757 _ (by decide +kernel) rfl
theorem gw_758 : (Cond.selects "QuoteGraph$Option" y_Nd_restore y_Nd_restore) ∈ GW := gw_of 758 _ (by decide +kernel) rfl
theorem gw_759 : (Cond.selects "QuoteGraph$Quote" y_Nd_restore y_Nd_restore) ∈ GW := gw_of 759 _ (by decide +kernel) rfl
theorem gw_760 : (Cond.code y_Nd_restore b_Nd_restore 1 none) ∈ GW := gw_of 760 _ (by decide +kernel) rfl
theorem gw_761 : (Cond.methodLink "QuoteGraphLaw" 116 y_L_uses) ∈ GW := gw_of 761 _ (by decide +kernel) rfl
theorem gw_762 : (Cond.static y_L_uses) ∈ GW := gw_of 762 _ (by decide +kernel) rfl
theorem gw_763 : (Cond.codeWith y_L_uses b_L_uses 5 (some .int) [(0, 17, 20, 13)]) ∈ GW := gw_of 763 _ (by decide +kernel) rfl
theorem gw_764 : (Cond.methodLink "QuoteGraphLaw" 57 y_Q_uses) ∈ GW := gw_of 764 _ (by decide +kernel) rfl
theorem gw_765 : (Cond.instanceMethod y_Q_uses) ∈ GW := gw_of 765 _ (by decide +kernel) rfl
theorem gw_766 : (Cond.selects "QuoteGraph" y_Q_uses y_Q_uses) ∈ GW := gw_of 766 _ (by decide +kernel) rfl
theorem gw_767 : (Cond.code y_Q_uses b_Q_uses 3 (some .boolean)) ∈ GW := gw_of 767 _ (by decide +kernel) rfl
theorem gw_768 : (Cond.methodLink "QuoteGraphLaw" 119 y_L_node) ∈ GW := gw_of 768 _ (by decide +kernel) rfl
theorem gw_769 : (Cond.static y_L_node) ∈ GW := gw_of 769 _ (by decide +kernel) rfl
theorem gw_770 : (Cond.codeWith y_L_node b_L_node 5 (some .int) [(0, 10, 13, 13)]) ∈ GW := gw_of 770 _ (by decide +kernel) rfl
theorem gw_771 : (Cond.methodLink "QuoteGraphLaw" 61 y_Q_node) ∈ GW := gw_of 771 _ (by decide +kernel) rfl
theorem gw_772 : (Cond.instanceMethod y_Q_node) ∈ GW := gw_of 772 _ (by decide +kernel) rfl
theorem gw_773 : (Cond.selects "QuoteGraph" y_Q_node y_Q_node) ∈ GW := gw_of 773 _ (by decide +kernel) rfl
theorem gw_774 : (Cond.code y_Q_node b_Q_node 4 (some .int)) ∈ GW := gw_of 774 _ (by decide +kernel) rfl
theorem gw_775 : (Cond.methodLink "QuoteGraph" 177 ⟨"QuoteGraph$Node", "sort", "()I"⟩) ∈ GW := gw_of 775 _ (by decide +kernel) rfl
theorem gw_778 : (Cond.selects "QuoteGraph$Blend" ⟨"QuoteGraph$Node", "sort", "()I"⟩ y_Bl_sort) ∈ GW := gw_of 778 _ (by decide +kernel) rfl
theorem gw_779 : (Cond.instanceMethod y_Bl_sort) ∈ GW := gw_of 779 _ (by decide +kernel) rfl
theorem gw_780 : (Cond.code y_Bl_sort b_Bl_sort 1 (some .int)) ∈ GW := gw_of 780 _ (by decide +kernel) rfl
theorem gw_781 : (Cond.selects "QuoteGraph$Greater" ⟨"QuoteGraph$Node", "sort", "()I"⟩ y_Gr_sort) ∈ GW := gw_of 781 _ (by decide +kernel) rfl
theorem gw_782 : (Cond.instanceMethod y_Gr_sort) ∈ GW := gw_of 782 _ (by decide +kernel) rfl
theorem gw_783 : (Cond.code y_Gr_sort b_Gr_sort 1 (some .int)) ∈ GW := gw_of 783 _ (by decide +kernel) rfl
theorem gw_784 : (Cond.selects "QuoteGraph$Option" ⟨"QuoteGraph$Node", "sort", "()I"⟩ y_Op_sort) ∈ GW := gw_of 784 _ (by decide +kernel) rfl
theorem gw_785 : (Cond.instanceMethod y_Op_sort) ∈ GW := gw_of 785 _ (by decide +kernel) rfl
theorem gw_786 : (Cond.code y_Op_sort b_Op_sort 1 (some .int)) ∈ GW := gw_of 786 _ (by decide +kernel) rfl
theorem gw_787 : (Cond.selects "QuoteGraph$Quote" ⟨"QuoteGraph$Node", "sort", "()I"⟩ y_Qt_sort) ∈ GW := gw_of 787 _ (by decide +kernel) rfl
theorem gw_788 : (Cond.instanceMethod y_Qt_sort) ∈ GW := gw_of 788 _ (by decide +kernel) rfl
theorem gw_789 : (Cond.code y_Qt_sort b_Qt_sort 1 (some .int)) ∈ GW := gw_of 789 _ (by decide +kernel) rfl
theorem gw_791 : (Cond.classLink "QuoteGraphLaw" 65 "QuoteGraphModel") ∈ GW := gw_of 791 _ (by decide +kernel) rfl
theorem gw_792 : (Cond.instantiable "QuoteGraphModel" 32) ∈ GW := gw_of 792 _ (by decide +kernel) rfl
theorem gw_793 : (Cond.methodLink "QuoteGraphLaw" 67 y_M_init) ∈ GW := gw_of 793 _ (by decide +kernel) rfl
theorem gw_794 : (Cond.instanceMethod y_M_init) ∈ GW := gw_of 794 _ (by decide +kernel) rfl
theorem gw_795 : (Cond.code y_M_init b_M_init 1 none) ∈ GW := gw_of 795 _ (by decide +kernel) rfl
theorem gw_796 : (Cond.methodLink "QuoteGraphModel" 1 ⟨"java/lang/Object", "<init>", "()V"⟩) ∈ GW := gw_of 796 _ (by decide +kernel) rfl
theorem gw_797 : (Cond.fieldLink "QuoteGraphModel" 7 "QuoteGraphModel" "sort" "[I") ∈ GW := gw_of 797 _ (by decide +kernel) rfl
theorem gw_798 : (Cond.fieldLink "QuoteGraphModel" 13 "QuoteGraphModel" "part" "[I") ∈ GW := gw_of 798 _ (by decide +kernel) rfl
theorem gw_799 : (Cond.fieldLink "QuoteGraphModel" 16 "QuoteGraphModel" "held" "[J") ∈ GW := gw_of 799 _ (by decide +kernel) rfl
theorem gw_800 : (Cond.fieldLink "QuoteGraphModel" 20 "QuoteGraphModel" "valid" "[Z") ∈ GW := gw_of 800 _ (by decide +kernel) rfl
theorem gw_801 : (Cond.fieldLink "QuoteGraphModel" 24 "QuoteGraphModel" "frozen" "[Z") ∈ GW := gw_of 801 _ (by decide +kernel) rfl
theorem gw_802 : (Cond.fieldLink "QuoteGraphModel" 27 "QuoteGraphModel" "missed" "[Z") ∈ GW := gw_of 802 _ (by decide +kernel) rfl
theorem gw_803 : (Cond.fieldLink "QuoteGraphModel" 30 "QuoteGraphModel" "worked" "[I") ∈ GW := gw_of 803 _ (by decide +kernel) rfl
theorem gw_804 : (Cond.fieldLink "QuoteGraphModel" 33 "QuoteGraphModel" "weightA" "[J") ∈ GW := gw_of 804 _ (by decide +kernel) rfl
theorem gw_805 : (Cond.fieldLink "QuoteGraphModel" 36 "QuoteGraphModel" "weightB" "[J") ∈ GW := gw_of 805 _ (by decide +kernel) rfl
theorem gw_806 : (Cond.fieldLink "QuoteGraphModel" 39 "QuoteGraphModel" "kind" "[I") ∈ GW := gw_of 806 _ (by decide +kernel) rfl
theorem gw_807 : (Cond.fieldLink "QuoteGraphModel" 42 "QuoteGraphModel" "steps" "[I") ∈ GW := gw_of 807 _ (by decide +kernel) rfl
theorem gw_808 : (Cond.fieldLink "QuoteGraphModel" 45 "QuoteGraphModel" "chance" "[I") ∈ GW := gw_of 808 _ (by decide +kernel) rfl
theorem gw_809 : (Cond.fieldLink "QuoteGraphModel" 48 "QuoteGraphModel" "american" "[Z") ∈ GW := gw_of 809 _ (by decide +kernel) rfl
theorem gw_810 : (Cond.fieldLink "QuoteGraphModel" 51 "QuoteGraphModel" "engine" "[I") ∈ GW := gw_of 810 _ (by decide +kernel) rfl
theorem gw_811 : (Cond.fieldLink "QuoteGraphModel" 54 "QuoteGraphModel" "size" "[I") ∈ GW := gw_of 811 _ (by decide +kernel) rfl
theorem gw_812 : (Cond.fieldLink "QuoteGraphModel" 57 "QuoteGraphModel" "list" "[I") ∈ GW := gw_of 812 _ (by decide +kernel) rfl
theorem gw_813 : (Cond.fieldLink "QuoteGraphModel" 60 "QuoteGraphModel" "next" "[I") ∈ GW := gw_of 813 _ (by decide +kernel) rfl
theorem gw_814 : (Cond.fieldLink "QuoteGraphModel" 63 "QuoteGraphModel" "oldHeld" "[J") ∈ GW := gw_of 814 _ (by decide +kernel) rfl
theorem gw_815 : (Cond.fieldLink "QuoteGraphModel" 66 "QuoteGraphModel" "oldValid" "[Z") ∈ GW := gw_of 815 _ (by decide +kernel) rfl
theorem gw_816 : (Cond.fieldLink "QuoteGraphModel" 69 "QuoteGraphModel" "row" "[J") ∈ GW := gw_of 816 _ (by decide +kernel) rfl
theorem gw_817 : (Cond.fieldLink "QuoteGraphModel" 72 "QuoteGraphModel" "fresh" "[J") ∈ GW := gw_of 817 _ (by decide +kernel) rfl
theorem gw_818 : (Cond.fieldLink "QuoteGraphModel" 79 "QuoteGraphModel" "nodes" "I") ∈ GW := gw_of 818 _ (by decide +kernel) rfl
theorem gw_819 : (Cond.fieldLink "QuoteGraphModel" 106 "QuoteGraphModel" "told" "I") ∈ GW := gw_of 819 _ (by decide +kernel) rfl
theorem gw_820 : (Cond.fieldLink "QuoteGraphModel" 203 "QuoteGraphModel" "workedAll" "I") ∈ GW := gw_of 820 _ (by decide +kernel) rfl
theorem gw_821 : (Cond.fieldLink "QuoteGraphModel" 209 "QuoteGraphModel" "troubles" "I") ∈ GW := gw_of 821 _ (by decide +kernel) rfl
theorem gw_822 : (Cond.fieldLink "QuoteGraphModel" 75 "QuoteGraphModel" "thrown" "I") ∈ GW := gw_of 822 _ (by decide +kernel) rfl
theorem gw_823 : (Cond.fieldLink "QuoteGraphModel" 127 "QuoteGraphModel" "trouble" "I") ∈ GW := gw_of 823 _ (by decide +kernel) rfl
theorem gw_824 : (Cond.fieldLink "QuoteGraphModel" 130 "QuoteGraphModel" "now" "I") ∈ GW := gw_of 824 _ (by decide +kernel) rfl
theorem gw_825 : (Cond.fieldLink "QuoteGraphModel" 157 "QuoteGraphModel" "spot" "J") ∈ GW := gw_of 825 _ (by decide +kernel) rfl
theorem gw_826 : (Cond.fieldLink "QuoteGraphModel" 160 "QuoteGraphModel" "move" "J") ∈ GW := gw_of 826 _ (by decide +kernel) rfl
theorem gw_827 : (Cond.fieldLink "QuoteGraphModel" 133 "QuoteGraphModel" "knock" "J") ∈ GW := gw_of 827 _ (by decide +kernel) rfl
theorem gw_828 : (Cond.fieldLink "QuoteGraphModel" 139 "QuoteGraphModel" "discount" "J") ∈ GW := gw_of 828 _ (by decide +kernel) rfl
theorem gw_829 : (Cond.laysFinal "QuoteGraphModel" "QuoteGraphModel" "sort" "[I") ∈ GW := gw_of 829 _ (by decide +kernel) rfl
theorem gw_831 : (Cond.laysFinal "QuoteGraphModel" "QuoteGraphModel" "part" "[I") ∈ GW := gw_of 831 _ (by decide +kernel) rfl
theorem gw_833 : (Cond.laysFinal "QuoteGraphModel" "QuoteGraphModel" "held" "[J") ∈ GW := gw_of 833 _ (by decide +kernel) rfl
theorem gw_835 : (Cond.laysFinal "QuoteGraphModel" "QuoteGraphModel" "valid" "[Z") ∈ GW := gw_of 835 _ (by decide +kernel) rfl
theorem gw_837 : (Cond.laysFinal "QuoteGraphModel" "QuoteGraphModel" "frozen" "[Z") ∈ GW := gw_of 837 _ (by decide +kernel) rfl
theorem gw_839 : (Cond.laysFinal "QuoteGraphModel" "QuoteGraphModel" "missed" "[Z") ∈ GW := gw_of 839 _ (by decide +kernel) rfl
theorem gw_841 : (Cond.laysFinal "QuoteGraphModel" "QuoteGraphModel" "worked" "[I") ∈ GW := gw_of 841 _ (by decide +kernel) rfl
theorem gw_843 : (Cond.laysFinal "QuoteGraphModel" "QuoteGraphModel" "weightA" "[J") ∈ GW := gw_of 843 _ (by decide +kernel) rfl
theorem gw_845 : (Cond.laysFinal "QuoteGraphModel" "QuoteGraphModel" "weightB" "[J") ∈ GW := gw_of 845 _ (by decide +kernel) rfl
theorem gw_847 : (Cond.laysFinal "QuoteGraphModel" "QuoteGraphModel" "kind" "[I") ∈ GW := gw_of 847 _ (by decide +kernel) rfl
theorem gw_849 : (Cond.laysFinal "QuoteGraphModel" "QuoteGraphModel" "steps" "[I") ∈ GW := gw_of 849 _ (by decide +kernel) rfl
theorem gw_851 : (Cond.laysFinal "QuoteGraphModel" "QuoteGraphModel" "chance" "[I") ∈ GW := gw_of 851 _ (by decide +kernel) rfl
theorem gw_853 : (Cond.laysFinal "QuoteGraphModel" "QuoteGraphModel" "american" "[Z") ∈ GW := gw_of 853 _ (by decide +kernel) rfl
theorem gw_855 : (Cond.laysFinal "QuoteGraphModel" "QuoteGraphModel" "engine" "[I") ∈ GW := gw_of 855 _ (by decide +kernel) rfl
theorem gw_857 : (Cond.laysFinal "QuoteGraphModel" "QuoteGraphModel" "size" "[I") ∈ GW := gw_of 857 _ (by decide +kernel) rfl
theorem gw_859 : (Cond.laysFinal "QuoteGraphModel" "QuoteGraphModel" "list" "[I") ∈ GW := gw_of 859 _ (by decide +kernel) rfl
theorem gw_861 : (Cond.laysFinal "QuoteGraphModel" "QuoteGraphModel" "next" "[I") ∈ GW := gw_of 861 _ (by decide +kernel) rfl
theorem gw_863 : (Cond.laysFinal "QuoteGraphModel" "QuoteGraphModel" "oldHeld" "[J") ∈ GW := gw_of 863 _ (by decide +kernel) rfl
theorem gw_865 : (Cond.laysFinal "QuoteGraphModel" "QuoteGraphModel" "oldValid" "[Z") ∈ GW := gw_of 865 _ (by decide +kernel) rfl
theorem gw_867 : (Cond.laysFinal "QuoteGraphModel" "QuoteGraphModel" "row" "[J") ∈ GW := gw_of 867 _ (by decide +kernel) rfl
theorem gw_869 : (Cond.laysFinal "QuoteGraphModel" "QuoteGraphModel" "fresh" "[J") ∈ GW := gw_of 869 _ (by decide +kernel) rfl
theorem gw_871 : (Cond.lays "QuoteGraphModel" "QuoteGraphModel" "nodes" "I") ∈ GW := gw_of 871 _ (by decide +kernel) rfl
theorem gw_873 : (Cond.lays "QuoteGraphModel" "QuoteGraphModel" "told" "I") ∈ GW := gw_of 873 _ (by decide +kernel) rfl
theorem gw_875 : (Cond.lays "QuoteGraphModel" "QuoteGraphModel" "workedAll" "I") ∈ GW := gw_of 875 _ (by decide +kernel) rfl
theorem gw_877 : (Cond.lays "QuoteGraphModel" "QuoteGraphModel" "troubles" "I") ∈ GW := gw_of 877 _ (by decide +kernel) rfl
theorem gw_879 : (Cond.lays "QuoteGraphModel" "QuoteGraphModel" "thrown" "I") ∈ GW := gw_of 879 _ (by decide +kernel) rfl
theorem gw_881 : (Cond.lays "QuoteGraphModel" "QuoteGraphModel" "trouble" "I") ∈ GW := gw_of 881 _ (by decide +kernel) rfl
theorem gw_883 : (Cond.lays "QuoteGraphModel" "QuoteGraphModel" "now" "I") ∈ GW := gw_of 883 _ (by decide +kernel) rfl
theorem gw_885 : (Cond.lays "QuoteGraphModel" "QuoteGraphModel" "spot" "J") ∈ GW := gw_of 885 _ (by decide +kernel) rfl
theorem gw_887 : (Cond.lays "QuoteGraphModel" "QuoteGraphModel" "move" "J") ∈ GW := gw_of 887 _ (by decide +kernel) rfl
theorem gw_889 : (Cond.lays "QuoteGraphModel" "QuoteGraphModel" "knock" "J") ∈ GW := gw_of 889 _ (by decide +kernel) rfl
theorem gw_891 : (Cond.lays "QuoteGraphModel" "QuoteGraphModel" "discount" "J") ∈ GW := gw_of 891 _ (by decide +kernel) rfl
theorem gw_894 : (Cond.arrayClass .int) ∈ GW := gw_of 894 _ (by decide +kernel) rfl
theorem gw_895 : (Cond.arrayClass .boolean) ∈ GW := gw_of 895 _ (by decide +kernel) rfl
theorem gw_896 : (Cond.methodLink "QuoteGraphLaw" 76 y_M_thrown) ∈ GW := gw_of 896 _ (by decide +kernel) rfl
theorem gw_897 : (Cond.instanceMethod y_M_thrown) ∈ GW := gw_of 897 _ (by decide +kernel) rfl
theorem gw_898 : (Cond.selects "QuoteGraphModel" y_M_thrown y_M_thrown) ∈ GW := gw_of 898 _ (by decide +kernel) rfl
theorem gw_899 : (Cond.code y_M_thrown b_M_thrown 1 (some .int)) ∈ GW := gw_of 899 _ (by decide +kernel) rfl
theorem gw_900 : (Cond.methodLink "QuoteGraphLaw" 75 y_M_quote) ∈ GW := gw_of 900 _ (by decide +kernel) rfl
theorem gw_901 : (Cond.instanceMethod y_M_quote) ∈ GW := gw_of 901 _ (by decide +kernel) rfl
theorem gw_902 : (Cond.selects "QuoteGraphModel" y_M_quote y_M_quote) ∈ GW := gw_of 902 _ (by decide +kernel) rfl
theorem gw_903 : (Cond.code y_M_quote b_M_quote 4 (some .int)) ∈ GW := gw_of 903 _ (by decide +kernel) rfl
theorem gw_904 : (Cond.constantDouble "QuoteGraphModel" 84 4681608360884174848) ∈ GW := gw_of 904 _ (by decide +kernel) rfl
theorem gw_905 : (Cond.methodLink "QuoteGraphModel" 86 y_M_far) ∈ GW := gw_of 905 _ (by decide +kernel) rfl
theorem gw_907 : (Cond.instanceMethod y_M_far) ∈ GW := gw_of 907 _ (by decide +kernel) rfl
theorem gw_908 : (Cond.code y_M_far b_M_far 5 (some .boolean)) ∈ GW := gw_of 908 _ (by decide +kernel) rfl
theorem gw_909 : (Cond.constantDouble "QuoteGraphModel" 82 4620693217682128896) ∈ GW := gw_of 909 _ (by decide +kernel) rfl
theorem gw_910 : (Cond.methodLink "QuoteGraphModel" 90 y_M_create) ∈ GW := gw_of 910 _ (by decide +kernel) rfl
theorem gw_912 : (Cond.instanceMethod y_M_create) ∈ GW := gw_of 912 _ (by decide +kernel) rfl
theorem gw_913 : (Cond.code y_M_create b_M_create 5 (some .int)) ∈ GW := gw_of 913 _ (by decide +kernel) rfl
theorem gw_914 : (Cond.constantDouble "QuoteGraphModel" 94 4652218415073722368) ∈ GW := gw_of 914 _ (by decide +kernel) rfl
theorem gw_915 : (Cond.methodLink "QuoteGraphLaw" 83 y_M_blend) ∈ GW := gw_of 915 _ (by decide +kernel) rfl
theorem gw_916 : (Cond.instanceMethod y_M_blend) ∈ GW := gw_of 916 _ (by decide +kernel) rfl
theorem gw_917 : (Cond.selects "QuoteGraphModel" y_M_blend y_M_blend) ∈ GW := gw_of 917 _ (by decide +kernel) rfl
theorem gw_918 : (Cond.code y_M_blend b_M_blend 8 (some .int)) ∈ GW := gw_of 918 _ (by decide +kernel) rfl
theorem gw_919 : (Cond.methodLink "QuoteGraphModel" 96 y_M_no) ∈ GW := gw_of 919 _ (by decide +kernel) rfl
theorem gw_921 : (Cond.instanceMethod y_M_no) ∈ GW := gw_of 921 _ (by decide +kernel) rfl
theorem gw_922 : (Cond.code y_M_no b_M_no 2 (some .boolean)) ∈ GW := gw_of 922 _ (by decide +kernel) rfl
theorem gw_923 : (Cond.constantDouble "QuoteGraphModel" 100 4625196817309499392) ∈ GW := gw_of 923 _ (by decide +kernel) rfl
theorem gw_924 : (Cond.methodLink "QuoteGraphLaw" 87 y_M_greater) ∈ GW := gw_of 924 _ (by decide +kernel) rfl
theorem gw_925 : (Cond.instanceMethod y_M_greater) ∈ GW := gw_of 925 _ (by decide +kernel) rfl
theorem gw_926 : (Cond.selects "QuoteGraphModel" y_M_greater y_M_greater) ∈ GW := gw_of 926 _ (by decide +kernel) rfl
theorem gw_927 : (Cond.code y_M_greater b_M_greater 3 (some .int)) ∈ GW := gw_of 927 _ (by decide +kernel) rfl
theorem gw_928 : (Cond.methodLink "QuoteGraphLaw" 91 y_M_option) ∈ GW := gw_of 928 _ (by decide +kernel) rfl
theorem gw_929 : (Cond.instanceMethod y_M_option) ∈ GW := gw_of 929 _ (by decide +kernel) rfl
theorem gw_930 : (Cond.selects "QuoteGraphModel" y_M_option y_M_option) ∈ GW := gw_of 930 _ (by decide +kernel) rfl
theorem gw_931 : (Cond.code y_M_option b_M_option 8 (some .int)) ∈ GW := gw_of 931 _ (by decide +kernel) rfl
theorem gw_932 : (Cond.methodLink "QuoteGraphLaw" 95 y_M_terms) ∈ GW := gw_of 932 _ (by decide +kernel) rfl
theorem gw_933 : (Cond.instanceMethod y_M_terms) ∈ GW := gw_of 933 _ (by decide +kernel) rfl
theorem gw_934 : (Cond.selects "QuoteGraphModel" y_M_terms y_M_terms) ∈ GW := gw_of 934 _ (by decide +kernel) rfl
theorem gw_935 : (Cond.code y_M_terms b_M_terms 6 none) ∈ GW := gw_of 935 _ (by decide +kernel) rfl
theorem gw_936 : (Cond.methodLink "QuoteGraphModel" 113 y_M_noOption) ∈ GW := gw_of 936 _ (by decide +kernel) rfl
theorem gw_938 : (Cond.instanceMethod y_M_noOption) ∈ GW := gw_of 938 _ (by decide +kernel) rfl
theorem gw_939 : (Cond.code y_M_noOption b_M_noOption 2 (some .boolean)) ∈ GW := gw_of 939 _ (by decide +kernel) rfl
theorem gw_940 : (Cond.methodLink "QuoteGraphModel" 116 y_M_badPart) ∈ GW := gw_of 940 _ (by decide +kernel) rfl
theorem gw_942 : (Cond.instanceMethod y_M_badPart) ∈ GW := gw_of 942 _ (by decide +kernel) rfl
theorem gw_943 : (Cond.code y_M_badPart b_M_badPart 3 (some .boolean)) ∈ GW := gw_of 943 _ (by decide +kernel) rfl
theorem gw_944 : (Cond.methodLink "QuoteGraphModel" 102 y_M_hangs) ∈ GW := gw_of 944 _ (by decide +kernel) rfl
theorem gw_946 : (Cond.instanceMethod y_M_hangs) ∈ GW := gw_of 946 _ (by decide +kernel) rfl
theorem gw_947 : (Cond.code y_M_hangs b_M_hangs 7 (some .boolean)) ∈ GW := gw_of 947 _ (by decide +kernel) rfl
theorem gw_948 : (Cond.methodLink "QuoteGraphModel" 119 y_M_tell) ∈ GW := gw_of 948 _ (by decide +kernel) rfl
theorem gw_950 : (Cond.instanceMethod y_M_tell) ∈ GW := gw_of 950 _ (by decide +kernel) rfl
theorem gw_951 : (Cond.code y_M_tell b_M_tell 4 none) ∈ GW := gw_of 951 _ (by decide +kernel) rfl
theorem gw_952 : (Cond.methodLink "QuoteGraphModel" 109 y_M_users) ∈ GW := gw_of 952 _ (by decide +kernel) rfl
theorem gw_954 : (Cond.instanceMethod y_M_users) ∈ GW := gw_of 954 _ (by decide +kernel) rfl
theorem gw_955 : (Cond.code y_M_users b_M_users 8 (some .int)) ∈ GW := gw_of 955 _ (by decide +kernel) rfl
theorem gw_956 : (Cond.methodLink "QuoteGraphLaw" 99 y_M_engine) ∈ GW := gw_of 956 _ (by decide +kernel) rfl
theorem gw_957 : (Cond.instanceMethod y_M_engine) ∈ GW := gw_of 957 _ (by decide +kernel) rfl
theorem gw_958 : (Cond.selects "QuoteGraphModel" y_M_engine y_M_engine) ∈ GW := gw_of 958 _ (by decide +kernel) rfl
theorem gw_959 : (Cond.code y_M_engine b_M_engine 5 none) ∈ GW := gw_of 959 _ (by decide +kernel) rfl
theorem gw_960 : (Cond.methodLink "QuoteGraphLaw" 103 y_M_set) ∈ GW := gw_of 960 _ (by decide +kernel) rfl
theorem gw_961 : (Cond.instanceMethod y_M_set) ∈ GW := gw_of 961 _ (by decide +kernel) rfl
theorem gw_962 : (Cond.selects "QuoteGraphModel" y_M_set y_M_set) ∈ GW := gw_of 962 _ (by decide +kernel) rfl
theorem gw_963 : (Cond.code y_M_set b_M_set 7 (some .int)) ∈ GW := gw_of 963 _ (by decide +kernel) rfl
theorem gw_964 : (Cond.methodLink "QuoteGraphLaw" 107 y_M_value) ∈ GW := gw_of 964 _ (by decide +kernel) rfl
theorem gw_965 : (Cond.instanceMethod y_M_value) ∈ GW := gw_of 965 _ (by decide +kernel) rfl
theorem gw_966 : (Cond.selects "QuoteGraphModel" y_M_value y_M_value) ∈ GW := gw_of 966 _ (by decide +kernel) rfl
theorem gw_967 : (Cond.code y_M_value b_M_value 2 (some .double)) ∈ GW := gw_of 967 _ (by decide +kernel) rfl
theorem gw_968 : (Cond.methodLink "QuoteGraphModel" 206 y_M_ask) ∈ GW := gw_of 968 _ (by decide +kernel) rfl
theorem gw_970 : (Cond.instanceMethod y_M_ask) ∈ GW := gw_of 970 _ (by decide +kernel) rfl
theorem gw_971 : (Cond.code y_M_ask b_M_ask 7 (some .boolean)) ∈ GW := gw_of 971 _ (by decide +kernel) rfl
theorem gw_972 : (Cond.methodLink "QuoteGraphModel" 200 y_M_result) ∈ GW := gw_of 972 _ (by decide +kernel) rfl
theorem gw_974 : (Cond.instanceMethod y_M_result) ∈ GW := gw_of 974 _ (by decide +kernel) rfl
theorem gw_975 : (Cond.code y_M_result b_M_result 6 (some .long)) ∈ GW := gw_of 975 _ (by decide +kernel) rfl
theorem gw_976 : (Cond.constantLong "QuoteGraphModel" 194 4) ∈ GW := gw_of 976 _ (by decide +kernel) rfl
theorem gw_977 : (Cond.constantLong "QuoteGraphModel" 182 8) ∈ GW := gw_of 977 _ (by decide +kernel) rfl
theorem gw_978 : (Cond.methodLink "QuoteGraphModel" 146 y_M_floored) ∈ GW := gw_of 978 _ (by decide +kernel) rfl
theorem gw_980 : (Cond.instanceMethod y_M_floored) ∈ GW := gw_of 980 _ (by decide +kernel) rfl
theorem gw_981 : (Cond.code y_M_floored b_M_floored 5 (some .long)) ∈ GW := gw_of 981 _ (by decide +kernel) rfl
theorem gw_982 : (Cond.methodLink "QuoteGraphModel" 196 y_M_valueOfOption) ∈ GW := gw_of 982 _ (by decide +kernel) rfl
theorem gw_984 : (Cond.instanceMethod y_M_valueOfOption) ∈ GW := gw_of 984 _ (by decide +kernel) rfl
theorem gw_985 : (Cond.code y_M_valueOfOption b_M_valueOfOption 4 (some .long)) ∈ GW := gw_of 985 _ (by decide +kernel) rfl
theorem gw_986 : (Cond.constantLong "QuoteGraphModel" 180 1024) ∈ GW := gw_of 986 _ (by decide +kernel) rfl
theorem gw_987 : (Cond.methodLink "QuoteGraphModel" 184 y_M_lattice) ∈ GW := gw_of 987 _ (by decide +kernel) rfl
theorem gw_989 : (Cond.instanceMethod y_M_lattice) ∈ GW := gw_of 989 _ (by decide +kernel) rfl
theorem gw_990 : (Cond.code y_M_lattice b_M_lattice 6 (some .long)) ∈ GW := gw_of 990 _ (by decide +kernel) rfl
theorem gw_991 : (Cond.methodLink "QuoteGraphModel" 154 y_M_payoff) ∈ GW := gw_of 991 _ (by decide +kernel) rfl
theorem gw_993 : (Cond.instanceMethod y_M_payoff) ∈ GW := gw_of 993 _ (by decide +kernel) rfl
theorem gw_994 : (Cond.code y_M_payoff b_M_payoff 5 (some .long)) ∈ GW := gw_of 994 _ (by decide +kernel) rfl
theorem gw_995 : (Cond.constantLong "QuoteGraphModel" 137 102400) ∈ GW := gw_of 995 _ (by decide +kernel) rfl
theorem gw_996 : (Cond.constantLong "QuoteGraphModel" 163 16) ∈ GW := gw_of 996 _ (by decide +kernel) rfl
theorem gw_997 : (Cond.methodLink "QuoteGraphModel" 165 y_M_earlier) ∈ GW := gw_of 997 _ (by decide +kernel) rfl
theorem gw_999 : (Cond.instanceMethod y_M_earlier) ∈ GW := gw_of 999 _ (by decide +kernel) rfl
theorem gw_1000 : (Cond.code y_M_earlier b_M_earlier 9 (some .long)) ∈ GW := gw_of 1000 _ (by decide +kernel) rfl
theorem gw_1001 : (Cond.constantLong "QuoteGraphModel" 142 8192) ∈ GW := gw_of 1001 _ (by decide +kernel) rfl
theorem gw_1002 : (Cond.constantLong "QuoteGraphModel" 144 16384) ∈ GW := gw_of 1002 _ (by decide +kernel) rfl
theorem gw_1003 : (Cond.methodLink "QuoteGraphModel" 150 y_M_bounded) ∈ GW := gw_of 1003 _ (by decide +kernel) rfl
theorem gw_1005 : (Cond.instanceMethod y_M_bounded) ∈ GW := gw_of 1005 _ (by decide +kernel) rfl
theorem gw_1006 : (Cond.code y_M_bounded b_M_bounded 3 (some .long)) ∈ GW := gw_of 1006 _ (by decide +kernel) rfl
theorem gw_1007 : (Cond.constantLong "QuoteGraphModel" 123 1024000000) ∈ GW := gw_of 1007 _ (by decide +kernel) rfl
theorem gw_1008 : (Cond.constantLong "QuoteGraphModel" 125 (-1024000000)) ∈ GW := gw_of 1008 _ (by decide +kernel) rfl
theorem gw_1009 : (Cond.methodLink "QuoteGraphModel" 188 y_M_paths) ∈ GW := gw_of 1009 _ (by decide +kernel) rfl
theorem gw_1011 : (Cond.instanceMethod y_M_paths) ∈ GW := gw_of 1011 _ (by decide +kernel) rfl
theorem gw_1012 : (Cond.code y_M_paths b_M_paths 10 (some .long)) ∈ GW := gw_of 1012 _ (by decide +kernel) rfl
theorem gw_1013 : (Cond.constantLong "QuoteGraphModel" 168 12345) ∈ GW := gw_of 1013 _ (by decide +kernel) rfl
theorem gw_1014 : (Cond.constantLong "QuoteGraphModel" 170 1103515245) ∈ GW := gw_of 1014 _ (by decide +kernel) rfl
theorem gw_1015 : (Cond.constantLong "QuoteGraphModel" 172 2147483647) ∈ GW := gw_of 1015 _ (by decide +kernel) rfl
theorem gw_1016 : (Cond.constantLong "QuoteGraphModel" 174 65536) ∈ GW := gw_of 1016 _ (by decide +kernel) rfl
theorem gw_1017 : (Cond.constantLong "QuoteGraphModel" 176 2) ∈ GW := gw_of 1017 _ (by decide +kernel) rfl
theorem gw_1018 : (Cond.constantLong "QuoteGraphModel" 178 512) ∈ GW := gw_of 1018 _ (by decide +kernel) rfl
theorem gw_1019 : (Cond.methodLink "QuoteGraphModel" 191 y_M_net) ∈ GW := gw_of 1019 _ (by decide +kernel) rfl
theorem gw_1021 : (Cond.instanceMethod y_M_net) ∈ GW := gw_of 1021 _ (by decide +kernel) rfl
theorem gw_1022 : (Cond.code y_M_net b_M_net 6 (some .long)) ∈ GW := gw_of 1022 _ (by decide +kernel) rfl
theorem gw_1023 : (Cond.methodLink "QuoteGraphLaw" 111 y_M_freeze) ∈ GW := gw_of 1023 _ (by decide +kernel) rfl
theorem gw_1024 : (Cond.instanceMethod y_M_freeze) ∈ GW := gw_of 1024 _ (by decide +kernel) rfl
theorem gw_1025 : (Cond.selects "QuoteGraphModel" y_M_freeze y_M_freeze) ∈ GW := gw_of 1025 _ (by decide +kernel) rfl
theorem gw_1026 : (Cond.code y_M_freeze b_M_freeze 3 none) ∈ GW := gw_of 1026 _ (by decide +kernel) rfl
theorem gw_1027 : (Cond.methodLink "QuoteGraphLaw" 115 y_M_bump) ∈ GW := gw_of 1027 _ (by decide +kernel) rfl
theorem gw_1028 : (Cond.instanceMethod y_M_bump) ∈ GW := gw_of 1028 _ (by decide +kernel) rfl
theorem gw_1029 : (Cond.selects "QuoteGraphModel" y_M_bump y_M_bump) ∈ GW := gw_of 1029 _ (by decide +kernel) rfl
theorem gw_1030 : (Cond.code y_M_bump b_M_bump 11 (some .double)) ∈ GW := gw_of 1030 _ (by decide +kernel) rfl
theorem gw_1031 : (Cond.constantDouble "QuoteGraphModel" 212 4652007308841189376) ∈ GW := gw_of 1031 _ (by decide +kernel) rfl
theorem gw_1032 : (Cond.methodLink "QuoteGraphLaw" 118 y_M_uses) ∈ GW := gw_of 1032 _ (by decide +kernel) rfl
theorem gw_1033 : (Cond.instanceMethod y_M_uses) ∈ GW := gw_of 1033 _ (by decide +kernel) rfl
theorem gw_1034 : (Cond.selects "QuoteGraphModel" y_M_uses y_M_uses) ∈ GW := gw_of 1034 _ (by decide +kernel) rfl
theorem gw_1035 : (Cond.code y_M_uses b_M_uses 3 (some .boolean)) ∈ GW := gw_of 1035 _ (by decide +kernel) rfl
theorem gw_1036 : (Cond.methodLink "QuoteGraphLaw" 121 y_M_node) ∈ GW := gw_of 1036 _ (by decide +kernel) rfl
theorem gw_1037 : (Cond.instanceMethod y_M_node) ∈ GW := gw_of 1037 _ (by decide +kernel) rfl
theorem gw_1038 : (Cond.selects "QuoteGraphModel" y_M_node y_M_node) ∈ GW := gw_of 1038 _ (by decide +kernel) rfl
theorem gw_1039 : (Cond.code y_M_node b_M_node 5 (some .int)) ∈ GW := gw_of 1039 _ (by decide +kernel) rfl
theorem gw_1040 : (Cond.methodLink "QuoteGraphLaw" 126 y_M_count) ∈ GW := gw_of 1040 _ (by decide +kernel) rfl
theorem gw_1041 : (Cond.instanceMethod y_M_count) ∈ GW := gw_of 1041 _ (by decide +kernel) rfl
theorem gw_1042 : (Cond.selects "QuoteGraphModel" y_M_count y_M_count) ∈ GW := gw_of 1042 _ (by decide +kernel) rfl
theorem gw_1043 : (Cond.code y_M_count b_M_count 2 (some .int)) ∈ GW := gw_of 1043 _ (by decide +kernel) rfl
theorem gw_1044 : (Cond.constantDouble "QuoteGraphLaw" 68 4593671619917905920) ∈ GW := gw_of 1044 _ (by decide +kernel) rfl
theorem gw_1045 : (Cond.arrayClass .double) ∈ GW := gw_of 1045 _ (by decide +kernel) rfl
end
