section
-- ===== PART A: goes FIRST, ahead of the names: the tables' words, and 'selects' of the private methods out of them =====
/-- a private method of a class that the tables say can be made, by its rows of tables_1 -/
def lw_okq (q : MethodName × Nat) : Prop := (q.1.cls ≠ "java/lang/invoke/MethodHandle" ∧ q.1.cls ≠ "java/lang/invoke/VarHandle") ∧ Cond.instantiable q.1.cls q.2 ∈ tables_1 ∧ Cond.privateMethod q.1 ∈ tables_1 ∧ Cond.instanceMethod q.1 ∈ tables_1
theorem lw_p0 : lw_okq (⟨"java/lang/Throwable", "fillInStackTrace", "(I)Ljava/lang/Throwable;"⟩, 6) := ⟨⟨by decide +kernel, by decide +kernel⟩, List.mem_of_getElem? (i := 158) (by decide +kernel), List.mem_of_getElem? (i := 156) (by decide +kernel), List.mem_of_getElem? (i := 157) (by decide +kernel)⟩
theorem lw_p1 : lw_okq (⟨"QuoteGraph", "checkRoom", "()V"⟩, 6) := ⟨⟨by decide +kernel, by decide +kernel⟩, List.mem_of_getElem? (i := 23) (by decide +kernel), List.mem_of_getElem? (i := 188) (by decide +kernel), List.mem_of_getElem? (i := 189) (by decide +kernel)⟩
theorem lw_p2 : lw_okq (⟨"QuoteGraph", "add", "(LQuoteGraph$Node;)I"⟩, 6) := ⟨⟨by decide +kernel, by decide +kernel⟩, List.mem_of_getElem? (i := 23) (by decide +kernel), List.mem_of_getElem? (i := 273) (by decide +kernel), List.mem_of_getElem? (i := 274) (by decide +kernel)⟩
theorem lw_p3 : lw_okq (⟨"QuoteGraph", "nodeAt", "(I)LQuoteGraph$Node;"⟩, 6) := ⟨⟨by decide +kernel, by decide +kernel⟩, List.mem_of_getElem? (i := 23) (by decide +kernel), List.mem_of_getElem? (i := 284) (by decide +kernel), List.mem_of_getElem? (i := 285) (by decide +kernel)⟩
theorem lw_p4 : lw_okq (⟨"QuoteGraph", "isThere", "(I)Z"⟩, 6) := ⟨⟨by decide +kernel, by decide +kernel⟩, List.mem_of_getElem? (i := 23) (by decide +kernel), List.mem_of_getElem? (i := 288) (by decide +kernel), List.mem_of_getElem? (i := 289) (by decide +kernel)⟩
theorem lw_p5 : lw_okq (⟨"QuoteGraph", "optionAt", "(I)LQuoteGraph$Option;"⟩, 6) := ⟨⟨by decide +kernel, by decide +kernel⟩, List.mem_of_getElem? (i := 23) (by decide +kernel), List.mem_of_getElem? (i := 425) (by decide +kernel), List.mem_of_getElem? (i := 426) (by decide +kernel)⟩
theorem lw_p6 : lw_okq (⟨"QuoteGraph", "extraPartAt", "(ILQuoteGraph$Option;)LQuoteGraph$Node;"⟩, 6) := ⟨⟨by decide +kernel, by decide +kernel⟩, List.mem_of_getElem? (i := 23) (by decide +kernel), List.mem_of_getElem? (i := 430) (by decide +kernel), List.mem_of_getElem? (i := 431) (by decide +kernel)⟩
theorem lw_p7 : lw_okq (⟨"QuoteGraph", "hangsOn", "(LQuoteGraph$Node;LQuoteGraph$Node;)Z"⟩, 6) := ⟨⟨by decide +kernel, by decide +kernel⟩, List.mem_of_getElem? (i := 23) (by decide +kernel), List.mem_of_getElem? (i := 434) (by decide +kernel), List.mem_of_getElem? (i := 435) (by decide +kernel)⟩
theorem lw_p8 : lw_okq (⟨"QuoteGraph", "bitsUsedBy", "(LQuoteGraph$Node;)I"⟩, 6) := ⟨⟨by decide +kernel, by decide +kernel⟩, List.mem_of_getElem? (i := 23) (by decide +kernel), List.mem_of_getElem? (i := 438) (by decide +kernel), List.mem_of_getElem? (i := 439) (by decide +kernel)⟩
theorem lw_p9 : lw_okq (⟨"QuoteGraph", "tell", "(LQuoteGraph$Node;)V"⟩, 6) := ⟨⟨by decide +kernel, by decide +kernel⟩, List.mem_of_getElem? (i := 23) (by decide +kernel), List.mem_of_getElem? (i := 468) (by decide +kernel), List.mem_of_getElem? (i := 469) (by decide +kernel)⟩
theorem lw_p10 : lw_okq (⟨"QuoteGraph", "tellUsersOf", "(LQuoteGraph$Node;)V"⟩, 6) := ⟨⟨by decide +kernel, by decide +kernel⟩, List.mem_of_getElem? (i := 23) (by decide +kernel), List.mem_of_getElem? (i := 472) (by decide +kernel), List.mem_of_getElem? (i := 473) (by decide +kernel)⟩
theorem lw_p11 : lw_okq (⟨"QuoteGraph", "quoteAt", "(I)LQuoteGraph$Quote;"⟩, 6) := ⟨⟨by decide +kernel, by decide +kernel⟩, List.mem_of_getElem? (i := 23) (by decide +kernel), List.mem_of_getElem? (i := 490) (by decide +kernel), List.mem_of_getElem? (i := 491) (by decide +kernel)⟩
theorem lw_p12 : lw_okq (⟨"QuoteGraph", "tryToAsk", "(LQuoteGraph$Node;)LQuoteGraph$Trouble;"⟩, 6) := ⟨⟨by decide +kernel, by decide +kernel⟩, List.mem_of_getElem? (i := 23) (by decide +kernel), List.mem_of_getElem? (i := 504) (by decide +kernel), List.mem_of_getElem? (i := 505) (by decide +kernel)⟩
theorem lw_p13 : lw_okq (⟨"QuoteGraph", "ask", "(LQuoteGraph$Node;)V"⟩, 6) := ⟨⟨by decide +kernel, by decide +kernel⟩, List.mem_of_getElem? (i := 23) (by decide +kernel), List.mem_of_getElem? (i := 510) (by decide +kernel), List.mem_of_getElem? (i := 511) (by decide +kernel)⟩
theorem lw_p14 : lw_okq (⟨"QuoteGraph$Option", "discount", "()J"⟩, 21) := ⟨⟨by decide +kernel, by decide +kernel⟩, List.mem_of_getElem? (i := 353) (by decide +kernel), List.mem_of_getElem? (i := 587) (by decide +kernel), List.mem_of_getElem? (i := 588) (by decide +kernel)⟩
theorem lw_p15 : lw_okq (⟨"QuoteGraph$Lattice", "stepBack", "(LQuoteGraph$Option;JI)V"⟩, 3) := ⟨⟨by decide +kernel, by decide +kernel⟩, List.mem_of_getElem? (i := 35) (by decide +kernel), List.mem_of_getElem? (i := 617) (by decide +kernel), List.mem_of_getElem? (i := 618) (by decide +kernel)⟩
def lw_privs_1 : List (MethodName × Nat) := [(⟨"java/lang/Throwable", "fillInStackTrace", "(I)Ljava/lang/Throwable;"⟩, 6), (⟨"QuoteGraph", "checkRoom", "()V"⟩, 6), (⟨"QuoteGraph", "add", "(LQuoteGraph$Node;)I"⟩, 6), (⟨"QuoteGraph", "nodeAt", "(I)LQuoteGraph$Node;"⟩, 6), (⟨"QuoteGraph", "isThere", "(I)Z"⟩, 6), (⟨"QuoteGraph", "optionAt", "(I)LQuoteGraph$Option;"⟩, 6), (⟨"QuoteGraph", "extraPartAt", "(ILQuoteGraph$Option;)LQuoteGraph$Node;"⟩, 6), (⟨"QuoteGraph", "hangsOn", "(LQuoteGraph$Node;LQuoteGraph$Node;)Z"⟩, 6), (⟨"QuoteGraph", "bitsUsedBy", "(LQuoteGraph$Node;)I"⟩, 6), (⟨"QuoteGraph", "tell", "(LQuoteGraph$Node;)V"⟩, 6), (⟨"QuoteGraph", "tellUsersOf", "(LQuoteGraph$Node;)V"⟩, 6), (⟨"QuoteGraph", "quoteAt", "(I)LQuoteGraph$Quote;"⟩, 6), (⟨"QuoteGraph", "tryToAsk", "(LQuoteGraph$Node;)LQuoteGraph$Trouble;"⟩, 6), (⟨"QuoteGraph", "ask", "(LQuoteGraph$Node;)V"⟩, 6), (⟨"QuoteGraph$Option", "discount", "()J"⟩, 21), (⟨"QuoteGraph$Lattice", "stepBack", "(LQuoteGraph$Option;JI)V"⟩, 3)]
theorem lw_r1 : ∀ q ∈ lw_privs_1, lw_okq q := List.forall_mem_cons.mpr ⟨lw_p0, List.forall_mem_cons.mpr ⟨lw_p1, List.forall_mem_cons.mpr ⟨lw_p2, List.forall_mem_cons.mpr ⟨lw_p3, List.forall_mem_cons.mpr ⟨lw_p4, List.forall_mem_cons.mpr ⟨lw_p5, List.forall_mem_cons.mpr ⟨lw_p6, List.forall_mem_cons.mpr ⟨lw_p7, List.forall_mem_cons.mpr ⟨lw_p8, List.forall_mem_cons.mpr ⟨lw_p9, List.forall_mem_cons.mpr ⟨lw_p10, List.forall_mem_cons.mpr ⟨lw_p11, List.forall_mem_cons.mpr ⟨lw_p12, List.forall_mem_cons.mpr ⟨lw_p13, List.forall_mem_cons.mpr ⟨lw_p14, List.forall_mem_cons.mpr ⟨lw_p15, fun _ h => absurd h List.not_mem_nil⟩⟩⟩⟩⟩⟩⟩⟩⟩⟩⟩⟩⟩⟩⟩⟩
theorem lw_p16 : lw_okq (⟨"QuoteGraph$Net", "stepBack", "(LQuoteGraph$Option;JI)V"⟩, 3) := ⟨⟨by decide +kernel, by decide +kernel⟩, List.mem_of_getElem? (i := 69) (by decide +kernel), List.mem_of_getElem? (i := 631) (by decide +kernel), List.mem_of_getElem? (i := 632) (by decide +kernel)⟩
theorem lw_p17 : lw_okq (⟨"QuoteGraph$Paths", "endOfPath", "(LQuoteGraph$Option;)J"⟩, 3) := ⟨⟨by decide +kernel, by decide +kernel⟩, List.mem_of_getElem? (i := 57) (by decide +kernel), List.mem_of_getElem? (i := 643) (by decide +kernel), List.mem_of_getElem? (i := 644) (by decide +kernel)⟩
theorem lw_p18 : lw_okq (⟨"QuoteGraph$Paths", "drawsUp", "(I)Z"⟩, 3) := ⟨⟨by decide +kernel, by decide +kernel⟩, List.mem_of_getElem? (i := 57) (by decide +kernel), List.mem_of_getElem? (i := 648) (by decide +kernel), List.mem_of_getElem? (i := 649) (by decide +kernel)⟩
theorem lw_p19 : lw_okq (⟨"QuoteGraph", "raise", "(LQuoteGraph$Trouble;)V"⟩, 6) := ⟨⟨by decide +kernel, by decide +kernel⟩, List.mem_of_getElem? (i := 23) (by decide +kernel), List.mem_of_getElem? (i := 666) (by decide +kernel), List.mem_of_getElem? (i := 667) (by decide +kernel)⟩
theorem lw_p20 : lw_okq (⟨"QuoteGraph", "rememberAll", "()V"⟩, 6) := ⟨⟨by decide +kernel, by decide +kernel⟩, List.mem_of_getElem? (i := 23) (by decide +kernel), List.mem_of_getElem? (i := 693) (by decide +kernel), List.mem_of_getElem? (i := 694) (by decide +kernel)⟩
theorem lw_p21 : lw_okq (⟨"QuoteGraph", "makeUsersStale", "(LQuoteGraph$Node;)V"⟩, 6) := ⟨⟨by decide +kernel, by decide +kernel⟩, List.mem_of_getElem? (i := 23) (by decide +kernel), List.mem_of_getElem? (i := 705) (by decide +kernel), List.mem_of_getElem? (i := 706) (by decide +kernel)⟩
theorem lw_p22 : lw_okq (⟨"QuoteGraph", "restoreAll", "()V"⟩, 6) := ⟨⟨by decide +kernel, by decide +kernel⟩, List.mem_of_getElem? (i := 23) (by decide +kernel), List.mem_of_getElem? (i := 709) (by decide +kernel), List.mem_of_getElem? (i := 710) (by decide +kernel)⟩
theorem lw_p23 : lw_okq (⟨"QuoteGraphModel", "far", "(DD)Z"⟩, 32) := ⟨⟨by decide +kernel, by decide +kernel⟩, List.mem_of_getElem? (i := 751) (by decide +kernel), List.mem_of_getElem? (i := 865) (by decide +kernel), List.mem_of_getElem? (i := 866) (by decide +kernel)⟩
theorem lw_p24 : lw_okq (⟨"QuoteGraphModel", "create", "(III)I"⟩, 32) := ⟨⟨by decide +kernel, by decide +kernel⟩, List.mem_of_getElem? (i := 751) (by decide +kernel), List.mem_of_getElem? (i := 870) (by decide +kernel), List.mem_of_getElem? (i := 871) (by decide +kernel)⟩
theorem lw_p25 : lw_okq (⟨"QuoteGraphModel", "no", "(I)Z"⟩, 32) := ⟨⟨by decide +kernel, by decide +kernel⟩, List.mem_of_getElem? (i := 751) (by decide +kernel), List.mem_of_getElem? (i := 879) (by decide +kernel), List.mem_of_getElem? (i := 880) (by decide +kernel)⟩
theorem lw_p26 : lw_okq (⟨"QuoteGraphModel", "noOption", "(I)Z"⟩, 32) := ⟨⟨by decide +kernel, by decide +kernel⟩, List.mem_of_getElem? (i := 751) (by decide +kernel), List.mem_of_getElem? (i := 896) (by decide +kernel), List.mem_of_getElem? (i := 897) (by decide +kernel)⟩
theorem lw_p27 : lw_okq (⟨"QuoteGraphModel", "badPart", "(II)Z"⟩, 32) := ⟨⟨by decide +kernel, by decide +kernel⟩, List.mem_of_getElem? (i := 751) (by decide +kernel), List.mem_of_getElem? (i := 900) (by decide +kernel), List.mem_of_getElem? (i := 901) (by decide +kernel)⟩
theorem lw_p28 : lw_okq (⟨"QuoteGraphModel", "hangs", "(II)Z"⟩, 32) := ⟨⟨by decide +kernel, by decide +kernel⟩, List.mem_of_getElem? (i := 751) (by decide +kernel), List.mem_of_getElem? (i := 904) (by decide +kernel), List.mem_of_getElem? (i := 905) (by decide +kernel)⟩
theorem lw_p29 : lw_okq (⟨"QuoteGraphModel", "tell", "(I)V"⟩, 32) := ⟨⟨by decide +kernel, by decide +kernel⟩, List.mem_of_getElem? (i := 751) (by decide +kernel), List.mem_of_getElem? (i := 908) (by decide +kernel), List.mem_of_getElem? (i := 909) (by decide +kernel)⟩
theorem lw_p30 : lw_okq (⟨"QuoteGraphModel", "users", "(II)I"⟩, 32) := ⟨⟨by decide +kernel, by decide +kernel⟩, List.mem_of_getElem? (i := 751) (by decide +kernel), List.mem_of_getElem? (i := 912) (by decide +kernel), List.mem_of_getElem? (i := 913) (by decide +kernel)⟩
theorem lw_p31 : lw_okq (⟨"QuoteGraphModel", "ask", "(I)Z"⟩, 32) := ⟨⟨by decide +kernel, by decide +kernel⟩, List.mem_of_getElem? (i := 751) (by decide +kernel), List.mem_of_getElem? (i := 928) (by decide +kernel), List.mem_of_getElem? (i := 929) (by decide +kernel)⟩
def lw_privs_2 : List (MethodName × Nat) := [(⟨"QuoteGraph$Net", "stepBack", "(LQuoteGraph$Option;JI)V"⟩, 3), (⟨"QuoteGraph$Paths", "endOfPath", "(LQuoteGraph$Option;)J"⟩, 3), (⟨"QuoteGraph$Paths", "drawsUp", "(I)Z"⟩, 3), (⟨"QuoteGraph", "raise", "(LQuoteGraph$Trouble;)V"⟩, 6), (⟨"QuoteGraph", "rememberAll", "()V"⟩, 6), (⟨"QuoteGraph", "makeUsersStale", "(LQuoteGraph$Node;)V"⟩, 6), (⟨"QuoteGraph", "restoreAll", "()V"⟩, 6), (⟨"QuoteGraphModel", "far", "(DD)Z"⟩, 32), (⟨"QuoteGraphModel", "create", "(III)I"⟩, 32), (⟨"QuoteGraphModel", "no", "(I)Z"⟩, 32), (⟨"QuoteGraphModel", "noOption", "(I)Z"⟩, 32), (⟨"QuoteGraphModel", "badPart", "(II)Z"⟩, 32), (⟨"QuoteGraphModel", "hangs", "(II)Z"⟩, 32), (⟨"QuoteGraphModel", "tell", "(I)V"⟩, 32), (⟨"QuoteGraphModel", "users", "(II)I"⟩, 32), (⟨"QuoteGraphModel", "ask", "(I)Z"⟩, 32)]
theorem lw_r2 : ∀ q ∈ lw_privs_2, lw_okq q := List.forall_mem_cons.mpr ⟨lw_p16, List.forall_mem_cons.mpr ⟨lw_p17, List.forall_mem_cons.mpr ⟨lw_p18, List.forall_mem_cons.mpr ⟨lw_p19, List.forall_mem_cons.mpr ⟨lw_p20, List.forall_mem_cons.mpr ⟨lw_p21, List.forall_mem_cons.mpr ⟨lw_p22, List.forall_mem_cons.mpr ⟨lw_p23, List.forall_mem_cons.mpr ⟨lw_p24, List.forall_mem_cons.mpr ⟨lw_p25, List.forall_mem_cons.mpr ⟨lw_p26, List.forall_mem_cons.mpr ⟨lw_p27, List.forall_mem_cons.mpr ⟨lw_p28, List.forall_mem_cons.mpr ⟨lw_p29, List.forall_mem_cons.mpr ⟨lw_p30, List.forall_mem_cons.mpr ⟨lw_p31, fun _ h => absurd h List.not_mem_nil⟩⟩⟩⟩⟩⟩⟩⟩⟩⟩⟩⟩⟩⟩⟩⟩
theorem lw_p32 : lw_okq (⟨"QuoteGraphModel", "result", "(I)J"⟩, 32) := ⟨⟨by decide +kernel, by decide +kernel⟩, List.mem_of_getElem? (i := 751) (by decide +kernel), List.mem_of_getElem? (i := 932) (by decide +kernel), List.mem_of_getElem? (i := 933) (by decide +kernel)⟩
theorem lw_p33 : lw_okq (⟨"QuoteGraphModel", "floored", "(JJ)J"⟩, 32) := ⟨⟨by decide +kernel, by decide +kernel⟩, List.mem_of_getElem? (i := 751) (by decide +kernel), List.mem_of_getElem? (i := 938) (by decide +kernel), List.mem_of_getElem? (i := 939) (by decide +kernel)⟩
theorem lw_p34 : lw_okq (⟨"QuoteGraphModel", "valueOfOption", "(I)J"⟩, 32) := ⟨⟨by decide +kernel, by decide +kernel⟩, List.mem_of_getElem? (i := 751) (by decide +kernel), List.mem_of_getElem? (i := 942) (by decide +kernel), List.mem_of_getElem? (i := 943) (by decide +kernel)⟩
theorem lw_p35 : lw_okq (⟨"QuoteGraphModel", "lattice", "()J"⟩, 32) := ⟨⟨by decide +kernel, by decide +kernel⟩, List.mem_of_getElem? (i := 751) (by decide +kernel), List.mem_of_getElem? (i := 947) (by decide +kernel), List.mem_of_getElem? (i := 948) (by decide +kernel)⟩
theorem lw_p36 : lw_okq (⟨"QuoteGraphModel", "payoff", "(J)J"⟩, 32) := ⟨⟨by decide +kernel, by decide +kernel⟩, List.mem_of_getElem? (i := 751) (by decide +kernel), List.mem_of_getElem? (i := 951) (by decide +kernel), List.mem_of_getElem? (i := 952) (by decide +kernel)⟩
theorem lw_p37 : lw_okq (⟨"QuoteGraphModel", "earlier", "(JJ)J"⟩, 32) := ⟨⟨by decide +kernel, by decide +kernel⟩, List.mem_of_getElem? (i := 751) (by decide +kernel), List.mem_of_getElem? (i := 957) (by decide +kernel), List.mem_of_getElem? (i := 958) (by decide +kernel)⟩
theorem lw_p38 : lw_okq (⟨"QuoteGraphModel", "bounded", "(J)J"⟩, 32) := ⟨⟨by decide +kernel, by decide +kernel⟩, List.mem_of_getElem? (i := 751) (by decide +kernel), List.mem_of_getElem? (i := 963) (by decide +kernel), List.mem_of_getElem? (i := 964) (by decide +kernel)⟩
theorem lw_p39 : lw_okq (⟨"QuoteGraphModel", "paths", "()J"⟩, 32) := ⟨⟨by decide +kernel, by decide +kernel⟩, List.mem_of_getElem? (i := 751) (by decide +kernel), List.mem_of_getElem? (i := 969) (by decide +kernel), List.mem_of_getElem? (i := 970) (by decide +kernel)⟩
theorem lw_p40 : lw_okq (⟨"QuoteGraphModel", "net", "()J"⟩, 32) := ⟨⟨by decide +kernel, by decide +kernel⟩, List.mem_of_getElem? (i := 751) (by decide +kernel), List.mem_of_getElem? (i := 979) (by decide +kernel), List.mem_of_getElem? (i := 980) (by decide +kernel)⟩
def lw_privs_3 : List (MethodName × Nat) := [(⟨"QuoteGraphModel", "result", "(I)J"⟩, 32), (⟨"QuoteGraphModel", "floored", "(JJ)J"⟩, 32), (⟨"QuoteGraphModel", "valueOfOption", "(I)J"⟩, 32), (⟨"QuoteGraphModel", "lattice", "()J"⟩, 32), (⟨"QuoteGraphModel", "payoff", "(J)J"⟩, 32), (⟨"QuoteGraphModel", "earlier", "(JJ)J"⟩, 32), (⟨"QuoteGraphModel", "bounded", "(J)J"⟩, 32), (⟨"QuoteGraphModel", "paths", "()J"⟩, 32), (⟨"QuoteGraphModel", "net", "()J"⟩, 32)]
theorem lw_r3 : ∀ q ∈ lw_privs_3, lw_okq q := List.forall_mem_cons.mpr ⟨lw_p32, List.forall_mem_cons.mpr ⟨lw_p33, List.forall_mem_cons.mpr ⟨lw_p34, List.forall_mem_cons.mpr ⟨lw_p35, List.forall_mem_cons.mpr ⟨lw_p36, List.forall_mem_cons.mpr ⟨lw_p37, List.forall_mem_cons.mpr ⟨lw_p38, List.forall_mem_cons.mpr ⟨lw_p39, List.forall_mem_cons.mpr ⟨lw_p40, fun _ h => absurd h List.not_mem_nil⟩⟩⟩⟩⟩⟩⟩⟩⟩
def lw_privs : List (MethodName × Nat) := lw_privs_1 ++ (lw_privs_2 ++ (lw_privs_3))
def lw_tbl : List Cond := k2_sels lw_privs ++ tables_1
theorem lw_privs_ok : ∀ q ∈ lw_privs, lw_okq q := by
  show ∀ q ∈ lw_privs_1 ++ (lw_privs_2 ++ (lw_privs_3)), lw_okq q
  exact List.forall_mem_append.mpr ⟨lw_r1, List.forall_mem_append.mpr ⟨lw_r2, lw_r3⟩⟩
end
section
/-! ===== BEGIN words of one list among another's, by their places ===== -/
theorem goodIn_r {big : List Cond} (ws : List Cond) (ps : List Nat) (hp : ws = ps.filterMap (fun i => big[i]?)) (h : ws.all goodWord = true) : GoodIn big ws := by
  intro w hw
  have h1 := List.all_eq_true.mp h w hw
  rw [hp] at hw
  obtain ⟨i, -, hi⟩ := List.mem_filterMap.mp hw
  have hm : w ∈ big := by first | exact List.mem_of_getElem? hi | exact List.getElem?_mem hi
  exact ⟨hm, good_of_word h1⟩
theorem goodIn_app {big a b : List Cond} (ha : GoodIn big a) (hb : GoodIn big b) : GoodIn big (a ++ b) := fun w h => (List.mem_append.mp h).elim (ha w) (hb w)
theorem goodIn_ca {big a b : List Cond} {c : Cond} (ha : GoodIn big (c :: a)) (hb : GoodIn big b) : GoodIn big (c :: (a ++ b)) := fun w h => (List.mem_cons.mp h).elim (fun e => ha w (List.mem_cons.mpr (Or.inl e))) (fun h => (List.mem_append.mp h).elim (fun h => ha w (List.mem_cons.mpr (Or.inr h))) (hb w))
theorem goodIn_sub {big ws : List Cond} (hm : ∀ w ∈ ws, w ∈ big) (h : ws.all goodWord = true) : GoodIn big ws := fun w hw => ⟨hm w hw, good_of_word (List.all_eq_true.mp h w hw)⟩
/-! ===== END ===== -/

/-! ===== BEGIN exceptions that leave a method, and their catching by the caller (launches without stack traces) ===== -/
section VXA
/-! The laws vx_back, vx_callV, vx_callS, vx_callSW, vx_throw0, vx_throwS follow proofs of the library, with one case more: JvmDerived/Free/Laws.lean (Back.of_free), Shelf42/LK1.lean (callV, callS), Shelf/KitTraced.lean (throwNew0V, throwNewS). -/

/-- where a method has thrown q: the class by its name, the cell, what was written, the world -/
def vx_T (XC : String → State → State → Prop) (st : State) (q : Addr) (t : State) (mc ms : Nat) (free : Addr → Prop) : Prop :=
  ∃ (E : String) (ce : Cell) (L : List Loc), XC E st t ∧ t.heap[q]? = some ce ∧ ce.vm = .none ∧ st.vm.findClass E = some ce.cls ∧ st.WarmedH t.vm ∧ st.sameButNew ({ t with vm := st.vm } : State) L mc ms ∧ ∀ z ∈ L, free z.base
def vx_Q (Qc : Array Value → State → Outcome → State → Prop) (XC : String → State → State → Prop) (mc ms : Nat) (free : Addr → Prop) : Array Value → State → Outcome → State → Prop := fun a st o t =>
  (Qc a st o t ∧ ∃ L, FrameEnd st o t L mc ms ∧ ∀ q ∈ L, free q.base) ∨ ∃ q, o = .threw q ∧ vx_T XC st q t mc ms free
/-- a callee that returns or throws -/
def vx_Met (l : Launch) (y : MethodName) (ws : List Cond) (rm : Room) (Pc : Array Value → State → Prop) (Qc : Array Value → State → Outcome → State → Prop) (XC : String → State → State → Prop) (mc ms : Nat) (free : Addr → Prop) : Prop :=
  MetFree l y (headSpec ws rm) Pc (fun _ _ _ _ _ => True) (vx_Q Qc XC mc ms free)
def vx_Post (XC : String → State → State → Prop) (mc ms : Nat) (free : Addr → Prop) : Pt → Array Value → Addr → Pt → Prop := fun A a q B =>
  ∃ (g : JFrame) (mk : MethodId) (t : State) (L : List Loc) (E : String) (ce : Cell), B.U.heap = t.heap ∧ B.U.vm = t.vm ∧ XC E (A.U.calling g mk a) t ∧ t.heap[q]? = some ce ∧ ce.vm = .none ∧ A.U.vm.findClass E = some ce.cls ∧ B.locs = A.locs ++ L ∧ (∀ z ∈ L, free z.base) ∧ B.cells = A.cells + mc ∧ B.slots = A.slots + ms
def vx_Back (l : Launch) (R : Room) (p : Program) (e : Env) (below : List Frame) (s : State) (sargs : Array Value) (y : MethodName) (len W9 : Nat)
    (Pre : Pt → Array Value → Prop) (Post : Pt → Array Value → Option Value → Pt → Prop) (PostX : Pt → Array Value → Addr → Pt → Prop) : Prop :=
  ∀ (m : MethodId) (meth : Method) (c : Code) (A : Pt) (g : JFrame) (ig : Instr) (mk : MethodId) (a : Array Value),
    Stand p l e R s m sargs below meth c A.U A.locs A.cells A.slots → g.method = m → g.locals.size = c.maxLocals → decode c.code g.pc = .ok (ig, len) →
    2 * g.monitorRoom + (g.stack.map fun v => v.category).sum ≤ W9 → A.U.methodNamed? y = some mk → Pre A a →
    (∃ (v : Option Value) (B : Pt), Stand p l e R s m sargs below meth c B.U B.locs B.cells B.slots ∧ Post A a v B ∧
      Steps p.tables e below (doInvoke e (A.U.setTop g) [] mk a).1 (B.U.setTop { g with pc := g.pc + len, stack := v.toList ++ g.stack })) ∨
    (∃ (q : Addr) (B : Pt), Stand p l e R s m sargs below meth c B.U B.locs B.cells B.slots ∧ PostX A a q B ∧
      Steps p.tables e below (doInvoke e (A.U.setTop g) [] mk a).1 ((B.U.setTop g).pushFrame (.throwing q)))
section Payer
variable {l : Launch} {R : Room} {p : Program} {e : Env} {below : List Frame} {s : State} {sargs : Array Value} {y : MethodName} {len W9 : Nat}
theorem vx_back {ws : List Cond} {rm : Room} {Pc : Array Value → State → Prop} {Qc : Array Value → State → Outcome → State → Prop} {XC : String → State → State → Prop} {mc ms : Nat} {free : Addr → Prop} {bytes : ByteArray} {maxL : Nat} {ret : Option FieldType}
    (hM : vx_Met l y ws rm Pc Qc XC mc ms free) (hblind : FrameBlind Pc) (hrc : rm.cells = mc) (hrs : rm.slots = ms)
    (hframes : rm.frames + 1 ≤ R.frames) (hlocals : W9 + (maxL + 11) + rm.locals ≤ R.locals)
    (hws : ∀ w ∈ ws, ∀ a' U, s.WarmedH U.vm → w.before a' U = true) (hcode : Cond.code y bytes maxL ret ∈ ws) (hinit : ∀ a' U, s.WarmedH U.vm → (Cond.initialized y.cls).before a' U = true) :
    vx_Back l R p e below s sargs y len W9 (PreOf R mc ms Pc) (PostOf Qc mc ms free) (vx_Post XC mc ms free) := by
  intro m meth c A g ig mk a X hg hsize hdg hW hn hp
  have h1 : (headSpec ws rm).pre.before a A.U = true := atoms_intro fun w hw => hws w hw _ _ X.warmed
  have h2 : (Cond.code y bytes maxL ret).before a A.U = true := hws _ hcode _ _ X.warmed
  have h3 : (Cond.initialized y.cls).before a A.U = true := hinit _ _ X.warmed
  have h4 : A.cells + (headSpec ws rm).room.cells ≤ R.cells := by rw [show (headSpec ws rm).room.cells = mc from hrc]; exact hp.1
  have h5 : A.slots + (headSpec ws rm).room.slots ≤ R.slots := by rw [show (headSpec ws rm).room.slots = ms from hrs]; exact hp.2.1
  have hPc : Pc a (A.U.calling g mk a) := hblind _ _ _ _ hp.2.2
  obtain ⟨U, Ls, c0, s0⟩ := A
  dsimp only [Pt.U, Pt.locs, Pt.cells, Pt.slots] at h1 h2 h3 h4 h5 X hn hPc ⊢
  obtain ⟨methY, cY, hmY, hcY, -, hlY, -, -, -, -⟩ := Cond.code_spec hn h2
  obtain ⟨kY, hkY, -⟩ := className_of_methodNamed hn
  have hinitY : kY.init = .initialized := Cond.initialized_spec (findClass_of_methodNamed hn) hkY h3
  have h : At U g.method c below := by rw [hg]; exact X.here
  have hlocals9 : W9 + (maxL + 11) + (headSpec ws rm).room.locals ≤ R.locals := hlocals
  have happ : (headSpec ws rm).appliesLoose y e.platform (U.calling g mk a) = true :=
    Spec.appliesLoose_calling (g := g) h hdg hn hkY hinitY
      (X.room_calling (g := g) (R' := (headSpec ws rm).room) hsize hmY hcY hframes (by rw [hlY]; omega) h4 h5) h1
  obtain ⟨mid, hmid⟩ := h.above
  have hfr : (U.setTop g).frames = (.java g :: mid) ++ below := by rw [State.frames_setTop' g h.top, hmid]; rfl
  obtain ⟨o, s₂, hsteps, -, hend, hq⟩ := Steps.callFree hM p X.admits X.cas X.clock (acts := []) hfr happ hPc trivial
  have hq' : vx_Q Qc XC mc ms free a (U.calling g mk a) o s₂ := hq
  rw [State.frames_setTop' g h.top] at hend
  obtain ⟨g₀, hg0⟩ := Option.isSome_iff_exists.mp h.top
  obtain ⟨r, hr⟩ := State.topJava?_eq_some.mp hg0
  have hr' : (({ U with heap := s₂.heap, slotsUsed := s₂.slotsUsed } : State).setVm s₂.vm).frames = .java g₀ :: r := hr
  rcases hq' with ⟨hqc, L, hfe, hL⟩ | ⟨q, rfl, E, ce, L, hx, hce, hcv, hcl, hW₂, hsm, hL⟩
  · obtain ⟨⟨v, rfl⟩, hW₂, e2, q2, q3, q4, q5, q6⟩ := id hfe
    have e3 : s₂ = ({ (U.calling g mk a).setFrames s₂.frames with heap := s₂.heap, slotsUsed := s₂.slotsUsed } : State).setVm s₂.vm := by
      have : s₂ = ({ s₂ with vm := (U.calling g mk a).vm } : State).setVm s₂.vm := rfl
      rw [e2] at this
      exact this
    obtain ⟨c₂, i₂, len₂, hc₂, hd₂, hf₂⟩ := hend
    have hW' : U.WarmedH s₂.vm := hW₂
    have hcc : c₂ = c := by
      have h1 : s₂.code? g.method = U.code? g.method := by
        rw [State.code?_eq, State.code?_eq, hW'.alike.method?]
      exact Option.some.inj (hc₂.symm.trans (h1.trans h.code))
    subst hcc
    have hlen : len₂ = len := by rw [hdg] at hd₂; cases hd₂; rfl
    subst hlen
    have hs₂ : s₂ = (({ U with heap := s₂.heap, slotsUsed := s₂.slotsUsed } : State).setVm s₂.vm).setTop { g with pc := g.pc + len₂, stack := v.toList ++ g.stack } := by
      refine e3.trans ?_
      rw [hf₂, State.calling_eq h.top, State.setFrames_setFrames, State.setTop_of_frames _ hr', hr]
      rfl
    have hsame : U.sameButNew ({ U with heap := s₂.heap, slotsUsed := s₂.slotsUsed } : State) L mc ms := by
      refine ⟨?_, q2, q3, q4, q5, q6⟩
      obtain ⟨t, ht, -⟩ := State.frames_cons hr
      show ({ U with heap := s₂.heap, slotsUsed := s₂.slotsUsed } : State) = { U.setFrames U.frames with heap := s₂.heap, slotsUsed := s₂.slotsUsed }
      rw [State.setFrames_self ht]
    subst hg
    refine Or.inl ⟨v, ⟨(({ U with heap := s₂.heap, slotsUsed := s₂.slotsUsed } : State).setVm s₂.vm), Ls ++ L, c0 + mc, s0 + ms⟩,
      ⟨X.admits, X.cas, X.clock, X.frames, X.room, X.hears, X.method, X.code, (X.here.setHeapUsed s₂.heap s₂.slotsUsed).setVm hW'.alike, X.tail, State.WarmedH.trans X.warmed hW', X.limits, X.bytes, X.same.trans (hsame.setVm s.vm)⟩,
      ⟨g, mk, s₂, L, rfl, rfl, hqc, rfl, hL, rfl, rfl⟩, ?_⟩
    show Steps p.tables e below _ ((({ U with heap := s₂.heap, slotsUsed := s₂.slotsUsed } : State).setVm s₂.vm).setTop { g with pc := g.pc + len₂, stack := v.toList ++ g.stack })
    rw [← hs₂]
    exact hsteps
  · obtain ⟨e2, q2, q3, q4, q5, q6⟩ := id hsm
    have e3 : s₂ = ({ (U.calling g mk a).setFrames s₂.frames with heap := s₂.heap, slotsUsed := s₂.slotsUsed } : State).setVm s₂.vm := by
      have : s₂ = ({ s₂ with vm := (U.calling g mk a).vm } : State).setVm s₂.vm := rfl
      rw [e2] at this
      exact this
    have hf₂ : s₂.frames = .throwing q :: .java g :: U.frames.tail := hend
    have hW' : U.WarmedH s₂.vm := hW₂
    have hs₂ : s₂ = ((({ U with heap := s₂.heap, slotsUsed := s₂.slotsUsed } : State).setVm s₂.vm).setTop g).pushFrame (.throwing q) := by
      refine e3.trans ?_
      rw [hf₂, State.calling_eq h.top, State.setFrames_setFrames, State.pushFrame, State.frames_setTop _ hr', State.setTop_of_frames _ hr', State.setFrames_setFrames, hr]
      rfl
    have hsame : U.sameButNew ({ U with heap := s₂.heap, slotsUsed := s₂.slotsUsed } : State) L mc ms := by
      refine ⟨?_, q2, q3, q4, q5, q6⟩
      obtain ⟨t, ht, -⟩ := State.frames_cons hr
      show ({ U with heap := s₂.heap, slotsUsed := s₂.slotsUsed } : State) = { U.setFrames U.frames with heap := s₂.heap, slotsUsed := s₂.slotsUsed }
      rw [State.setFrames_self ht]
    subst hg
    refine Or.inr ⟨q, ⟨(({ U with heap := s₂.heap, slotsUsed := s₂.slotsUsed } : State).setVm s₂.vm), Ls ++ L, c0 + mc, s0 + ms⟩,
      ⟨X.admits, X.cas, X.clock, X.frames, X.room, X.hears, X.method, X.code, (X.here.setHeapUsed s₂.heap s₂.slotsUsed).setVm hW'.alike, X.tail, State.WarmedH.trans X.warmed hW', X.limits, X.bytes, X.same.trans (hsame.setVm s.vm)⟩,
      ⟨g, mk, s₂, L, E, ce, rfl, rfl, hx, hce, hcv, hcl, rfl, hL, rfl, rfl⟩, ?_⟩
    show Steps p.tables e below _ (((({ U with heap := s₂.heap, slotsUsed := s₂.slotsUsed } : State).setVm s₂.vm).setTop g).pushFrame (.throwing q))
    rw [← hs₂]
    exact hsteps
end Payer
section Calls
variable {p : Program} {l : Launch} {e : Env} {R : Room} {s : State} {m : MethodId} {args : Array Value} {below : List Frame} {meth : Method} {c : Code} {T : State} {locs : List Loc} {cells slots : Nat}
theorem vx_callV (X : Stand p l e R s m args below meth c T locs cells slots) (hexec : p.tables.exec = Jvm.exec) {own C : String} {index : Nat} {y : MethodName} {bytes : ByteArray} {maxL : Nat} {ret : Option FieldType}
    (hown : s.vm.findClass own = some m.cls) (hlink : (Cond.methodLink own index y).before args s = true) (hinst : (Cond.instanceMethod y).before args s = true) (hsel : (Cond.selects C y y).before args s = true)
    (hcode : (Cond.code y bytes maxL ret).before args s = true) (hy : y.cls ≠ "java/lang/invoke/MethodHandle" ∧ y.cls ≠ "java/lang/invoke/VarHandle")
    {W9 : Nat} {Pre : Pt → Array Value → Prop} {Post : Pt → Array Value → Option Value → Pt → Prop} {PostX : Pt → Array Value → Addr → Pt → Prop} (hK : vx_Back l R p e below s args y 3 W9 Pre Post PostX)
    {b : Addr} {cellB : Cell} (hcell : T.heap[b]? = some cellB) (hobj : cellB.vm.isStatics = false) (hcls : s.vm.findClass C = some cellB.cls)
    {g : JFrame} (hg : g.method = m) (hsize : g.locals.size = c.maxLocals) {argsL rest : List Value} (hlen : ∀ sig, parseMethodDescriptor y.desc = some sig → argsL.length = sig.parameters.length)
    (hstack : g.stack = argsL.reverse ++ .ref b :: rest) (hW : 2 * g.monitorRoom + (rest.map fun v => v.category).sum ≤ W9) (hdg : decode c.code g.pc = .ok (.invokevirtual index, 3))
    (hpre : ∀ vm₁, s.WarmedH vm₁ → Pre ⟨T.setVm vm₁, locs, cells, slots⟩ (Value.ref b :: argsL).toArray) :
    (∃ (v : Option Value) (vm₁ : Vm) (B : Pt), s.WarmedH vm₁ ∧ Stand p l e R s m args below meth c B.U B.locs B.cells B.slots ∧ Post ⟨T.setVm vm₁, locs, cells, slots⟩ (Value.ref b :: argsL).toArray v B ∧
      ∀ target, Steps p.tables e below (B.U.setTop { g with pc := g.pc + 3, stack := v.toList ++ rest }) target → Steps p.tables e below (T.setTop g) target) ∨
    (∃ (q : Addr) (vm₁ : Vm) (B : Pt), s.WarmedH vm₁ ∧ Stand p l e R s m args below meth c B.U B.locs B.cells B.slots ∧ PostX ⟨T.setVm vm₁, locs, cells, slots⟩ (Value.ref b :: argsL).toArray q B ∧
      Steps p.tables e below (T.setTop g) ((B.U.setTop { g with stack := rest }).pushFrame (.throwing q))) := by
  obtain ⟨mk, methM, hnamed, hmethM, hstM, habM⟩ := Cond.instanceMethod_spec hinst
  obtain ⟨methM', cM, hmethM', -, -, -, -, -, -, hsigM⟩ := Cond.code_spec hnamed hcode
  cases hmethM.symm.trans hmethM'
  obtain ⟨c2, r2, m2, q1, q2, q3, q4, kP, hkP, hkPi⟩ := Cond.selects_spec hsel
  cases hcls.symm.trans q1
  cases (State.methodFound?_of_named hnamed hy).symm.trans q2
  cases hnamed.symm.trans q3
  have hselP : selectMethod e.platform s.vm cellB.cls mk = .method mk := by rw [Launch.admits_selectMethod X.admits]; exact q4
  obtain ⟨vm₁, X₁, hstep₁⟩ := X.invokevirtual hexec hown hlink hnamed hmethM hstM hkP hkPi hy (a := b) (cell := cellB) hcell
    (fun z h => by rw [h] at hobj; cases hobj) hselP hmethM habM hkP hkPi (g := g) hg (argsL := argsL) (rest := rest) (hlen _ hsigM) hstack hdg
  rcases hK m meth c ⟨T.setVm vm₁, locs, cells, slots⟩ { g with stack := rest } (.invokevirtual index) mk (Value.ref b :: argsL).toArray X₁ hg hsize hdg hW (X₁.named hnamed) (hpre vm₁ X₁.warmed) with ⟨v, B, X', hpost, hsteps⟩ | ⟨q, B, X', hpost, hsteps⟩
  · exact Or.inl ⟨v, vm₁, B, X₁.warmed, X', hpost, fun target h => hstep₁ _ fun acts => by rw [doInvoke_state]; exact hsteps.trans h⟩
  · exact Or.inr ⟨q, vm₁, B, X₁.warmed, X', hpost, hstep₁ _ fun acts => by rw [doInvoke_state]; exact hsteps⟩
theorem vx_callS (X : Stand p l e R s m args below meth c T locs cells slots) (hexec : p.tables.exec = Jvm.exec) {own : String} {index : Nat} {y : MethodName} {bytes : ByteArray} {maxL : Nat} {ret : Option FieldType}
    (hown : s.vm.findClass own = some m.cls) (hlink : (Cond.methodLink own index y).before args s = true) (hstat : (Cond.static y).before args s = true) (hinit : (Cond.initialized y.cls).before args s = true)
    (hcode : (Cond.code y bytes maxL ret).before args s = true) (hy : y.cls ≠ "java/lang/invoke/MethodHandle" ∧ y.cls ≠ "java/lang/invoke/VarHandle")
    {W9 : Nat} {Pre : Pt → Array Value → Prop} {Post : Pt → Array Value → Option Value → Pt → Prop} {PostX : Pt → Array Value → Addr → Pt → Prop} (hK : vx_Back l R p e below s args y 3 W9 Pre Post PostX)
    {g : JFrame} (hg : g.method = m) (hsize : g.locals.size = c.maxLocals) {argsL rest : List Value} (hlen : ∀ sig, parseMethodDescriptor y.desc = some sig → argsL.length = sig.parameters.length)
    (hstack : g.stack = argsL.reverse ++ rest) (hW : 2 * g.monitorRoom + (rest.map fun v => v.category).sum ≤ W9) (hdg : decode c.code g.pc = .ok (.invokestatic index, 3))
    (hpre : ∀ vm₁, s.WarmedH vm₁ → Pre ⟨T.setVm vm₁, locs, cells, slots⟩ argsL.toArray) :
    (∃ (v : Option Value) (vm₁ : Vm) (B : Pt), s.WarmedH vm₁ ∧ Stand p l e R s m args below meth c B.U B.locs B.cells B.slots ∧ Post ⟨T.setVm vm₁, locs, cells, slots⟩ argsL.toArray v B ∧
      ∀ target, Steps p.tables e below (B.U.setTop { g with pc := g.pc + 3, stack := v.toList ++ rest }) target → Steps p.tables e below (T.setTop g) target) ∨
    (∃ (q : Addr) (vm₁ : Vm) (B : Pt), s.WarmedH vm₁ ∧ Stand p l e R s m args below meth c B.U B.locs B.cells B.slots ∧ PostX ⟨T.setVm vm₁, locs, cells, slots⟩ argsL.toArray q B ∧
      Steps p.tables e below (T.setTop g) ((B.U.setTop { g with stack := rest }).pushFrame (.throwing q))) := by
  obtain ⟨mk, hnamed⟩ := Cond.code_named hcode
  obtain ⟨methM, cM, hmethM, -, -, -, -, -, -, hsigM⟩ := Cond.code_spec hnamed hcode
  have hstatic : methM.isStatic = true := Cond.static_spec hnamed hmethM hstat
  obtain ⟨kP, hkP, -⟩ := className_of_methodNamed hnamed
  have hinitP : kP.init = .initialized := Cond.initialized_spec (findClass_of_methodNamed hnamed) hkP hinit
  obtain ⟨vm₁, X₁, hstep₁⟩ := X.invokestatic hexec hown hlink hnamed hmethM hstatic hkP hinitP hy (g := g) hg (argsL := argsL) (rest := rest) (hlen _ hsigM) hstack hdg
  rcases hK m meth c ⟨T.setVm vm₁, locs, cells, slots⟩ { g with stack := rest } (.invokestatic index) mk argsL.toArray X₁ hg hsize hdg hW (X₁.named hnamed) (hpre vm₁ X₁.warmed) with ⟨v, B, X', hpost, hsteps⟩ | ⟨q, B, X', hpost, hsteps⟩
  · exact Or.inl ⟨v, vm₁, B, X₁.warmed, X', hpost, fun target h => hstep₁ _ fun acts => by rw [doInvoke_state]; exact hsteps.trans h⟩
  · exact Or.inr ⟨q, vm₁, B, X₁.warmed, X', hpost, hstep₁ _ fun acts => by rw [doInvoke_state]; exact hsteps⟩
end Calls
theorem vx_cls {s : State} {T : State} {vm₁ : Vm} {E : String} {k : ClassId} (hW : s.WarmedH vm₁) (h : (T.setVm vm₁).vm.findClass E = some k) : s.vm.findClass E = some k := by
  have h1 : vm₁.findClass E = some k := h
  rw [hW.alike.findClass] at h1
  exact h1
/-- the method's frame g, with q thrown over it -/
def vx_W (p : Program) (l : Launch) (e : Env) (R : Room) (s : State) (m : MethodId) (args : Array Value) (below : List Frame) (meth : Method) (c : Code) (H : Heap) (locs : List Loc) (cells slots : Nat) (Q : State → Prop) (g : JFrame) (q : Addr) : Prop :=
  ∀ T : State, T.heap = H → Stand p l e R s m args below meth c T locs cells slots → ∃ t, Steps p.tables e below ((T.setTop g).pushFrame (.throwing q)) t ∧ Q t
def vx_Run (p : Program) (l : Launch) (e : Env) (R : Room) (s : State) (m : MethodId) (args : Array Value) (below : List Frame) (meth : Method) (c : Code) (H : Heap) (locs : List Loc) (cells slots mc ms : Nat) (g : JFrame) (rest : List Value) (Qa : State → Outcome → State → Prop) (XC : String → State → State → Prop) (free : Addr → Prop) : Prop :=
  ∀ T : State, T.heap = H → Stand p l e R s m args below meth c T locs cells slots →
    (∃ (v : Option Value) (st₀ t T' : State) (L : List Loc), st₀.heap = H ∧ Stand p l e R s m args below meth c T' (locs ++ L) (cells + mc) (slots + ms) ∧ (∀ q ∈ L, free q.base) ∧ T'.heap = t.heap ∧ T'.vm = t.vm ∧ Qa st₀ (.returned v) t ∧
      Goes p e below T g T' { g with pc := g.pc + 3, stack := v.toList ++ rest }) ∨
    (∃ (q : Addr) (st₀ t T' : State) (L : List Loc) (E : String) (ce : Cell), st₀.heap = H ∧ Stand p l e R s m args below meth c T' (locs ++ L) (cells + mc) (slots + ms) ∧ (∀ z ∈ L, free z.base) ∧ T'.heap = t.heap ∧ T'.vm = t.vm ∧ XC E st₀ t ∧ t.heap[q]? = some ce ∧ ce.vm = .none ∧ s.vm.findClass E = some ce.cls ∧
      Steps p.tables e below (T.setTop g) ((T'.setTop { g with stack := rest }).pushFrame (.throwing q)))
def vx_X {S : Type} (px : S → Prop) (B : String → S → State → Prop) (A : Nat → Prop) : String → State → State → Prop := fun E st t => ∃ u : S, px u ∧ B E u t ∧ va_F A st t
section Runs
variable {p : Program} {l : Launch} {e : Env} {R : Room} {s : State} {m : MethodId} {args : Array Value} {below : List Frame} {meth : Method} {c : Code} {H : Heap} {locs : List Loc} {cells slots : Nat}
variable {y : MethodName} {bytes cc : ByteArray} {maxL nL mc ms n index : Nat} {ret : Option FieldType} {ws : List Cond} {rm : Room} {Pc : Array Value → State → Prop} {Qc : Array Value → State → Outcome → State → Prop} {XC : String → State → State → Prop} {free : Addr → Prop} {Ts : List Cond} {own C : String} {b : Addr} {As rest : List Value} {g : JFrame}
theorem vx_callBack (cb : CallB R s args own index y bytes maxL ret ws rm mc ms n) (hM : vx_Met l y ws rm Pc Qc XC mc ms free) (hbl : FrameBlind Pc) : vx_Back l R p e below s args y 3 8 (PreOf R mc ms Pc) (PostOf Qc mc ms free) (vx_Post XC mc ms free) := by
  obtain ⟨hrc, hrs, hfr, hlo, hws, hcw, -, hini, -⟩ := cb
  exact vx_back (bytes := bytes) (maxL := maxL) (ret := ret) hM hbl hrc hrs hfr hlo hws hcw (fun a' U hW => word_at hW (Or.inl (by first | rfl | simp [Cond.onTables, Cond.keeps, Cond.steady])) hini)
theorem vx_runV (S : CallFix p m c cc nL s args Ts own) (hM : vx_Met l y ws rm Pc Qc XC mc ms free) (cw : CallW R s args own C index y bytes maxL ret ws rm mc ms n) (hp : PreV s H C b Pc As)
    (hg : g.method = m) (hn : As.length = n) (hsize : g.locals.size = nL) (hstack : g.stack = As.reverse ++ .ref b :: rest) (hW : 2 * g.monitorRoom + (rest.map fun v => v.category).sum ≤ 8) (hdg : decode cc g.pc = .ok (.invokevirtual index, 3)) (hf : cells + mc ≤ R.cells ∧ slots + ms ≤ R.slots) :
    vx_Run p l e R s m args below meth c H locs cells slots mc ms g rest (Qc (Value.ref b :: As).toArray) XC free := by
  have hK : vx_Back l R p e below s args y 3 8 (PreOf R mc ms Pc) (PostOf Qc mc ms free) (vx_Post XC mc ms free) := vx_callBack cw.1 hM hp.1
  obtain ⟨⟨-, -, -, -, -, -, hcode, -, hy, hlen, hl⟩, hin, hse⟩ := cw
  obtain ⟨hx, hb, hml, ho, -⟩ := S
  obtain ⟨-, ⟨cellB, hcB, hoB, hclB⟩, hPc⟩ := hp
  intro T hT X
  rcases vx_callV X hx (C := C) (bytes := bytes) (maxL := maxL) (ret := ret) ho hl hin hse hcode hy hK (by rw [hT]; exact hcB) hoB hclB hg (hsize.trans hml.symm) (argsL := As) (rest := rest) (fun sig h => hn.trans (hlen sig h)) hstack hW (by rw [hb]; exact hdg)
    (fun vm₁ hW₁ => ⟨hf.1, hf.2, hPc (T.setVm vm₁) hT hW₁⟩) with ⟨v, vm₁, ⟨U', l2, c2, s2⟩, hW₁, X', ⟨g', mk, t, L, e1, e2, hq, h1, hL, h2, h3⟩, st⟩ | ⟨q, vm₁, ⟨U', l2, c2, s2⟩, hW₁, X', ⟨g', mk, t, L, E, ce, e1, e2, hq, hce, hcv, hcl, h1, hL, h2, h3⟩, st⟩
  · dsimp only [Pt.U, Pt.locs, Pt.cells, Pt.slots] at X' e1 e2 h1 h2 h3 st
    subst h1; subst h2; subst h3
    exact Or.inl ⟨v, (T.setVm vm₁).calling g' mk (Value.ref b :: As).toArray, t, U', L, hT, X', hL, e1, e2, hq, st⟩
  · dsimp only [Pt.U, Pt.locs, Pt.cells, Pt.slots] at X' e1 e2 h1 h2 h3 st hcl
    subst h1; subst h2; subst h3
    exact Or.inr ⟨q, (T.setVm vm₁).calling g' mk (Value.ref b :: As).toArray, t, U', L, E, ce, hT, X', hL, e1, e2, hq, hce, hcv, vx_cls hW₁ hcl, st⟩
theorem vx_runS (S : CallFix p m c cc nL s args Ts own) (hM : vx_Met l y ws rm Pc Qc XC mc ms free) (cw : CallB R s args own index y bytes maxL ret ws rm mc ms n ∧ (Cond.static y).before args s = true) (hp : PreS s H Pc As)
    (hg : g.method = m) (hn : As.length = n) (hsize : g.locals.size = nL) (hstack : g.stack = As.reverse ++ rest) (hW : 2 * g.monitorRoom + (rest.map fun v => v.category).sum ≤ 8) (hdg : decode cc g.pc = .ok (.invokestatic index, 3)) (hf : cells + mc ≤ R.cells ∧ slots + ms ≤ R.slots) :
    vx_Run p l e R s m args below meth c H locs cells slots mc ms g rest (Qc As.toArray) XC free := by
  have hK : vx_Back l R p e below s args y 3 8 (PreOf R mc ms Pc) (PostOf Qc mc ms free) (vx_Post XC mc ms free) := vx_callBack cw.1 hM hp.1
  obtain ⟨⟨-, -, -, -, -, -, hcode, hini, hy, hlen, hl⟩, hstt⟩ := cw
  obtain ⟨hx, hb, hml, ho, -⟩ := S
  intro T hT X
  rcases vx_callS X hx (bytes := bytes) (maxL := maxL) (ret := ret) ho hl hstt hini hcode hy hK hg (hsize.trans hml.symm) (argsL := As) (rest := rest) (fun sig h => hn.trans (hlen sig h)) hstack hW (by rw [hb]; exact hdg)
    (fun vm₁ hW₁ => ⟨hf.1, hf.2, hp.2 (T.setVm vm₁) hT hW₁⟩) with ⟨v, vm₁, ⟨U', l2, c2, s2⟩, hW₁, X', ⟨g', mk, t, L, e1, e2, hq, h1, hL, h2, h3⟩, st⟩ | ⟨q, vm₁, ⟨U', l2, c2, s2⟩, hW₁, X', ⟨g', mk, t, L, E, ce, e1, e2, hq, hce, hcv, hcl, h1, hL, h2, h3⟩, st⟩
  · dsimp only [Pt.U, Pt.locs, Pt.cells, Pt.slots] at X' e1 e2 h1 h2 h3 st
    subst h1; subst h2; subst h3
    exact Or.inl ⟨v, (T.setVm vm₁).calling g' mk As.toArray, t, U', L, hT, X', hL, e1, e2, hq, st⟩
  · dsimp only [Pt.U, Pt.locs, Pt.cells, Pt.slots] at X' e1 e2 h1 h2 h3 st hcl
    subst h1; subst h2; subst h3
    exact Or.inr ⟨q, (T.setVm vm₁).calling g' mk As.toArray, t, U', L, E, ce, hT, X', hL, e1, e2, hq, hce, hcv, vx_cls hW₁ hcl, st⟩
end Runs
section Rows
variable {p : Program} {l : Launch} {e : Env} {R : Room} {s : State} {m : MethodId} {args : Array Value} {below : List Frame} {meth : Method} {c : Code} {H : Heap} {locs : List Loc} {cells slots : Nat} {Q : State → Prop}
variable {mc ms : Nat} {free : Addr → Prop} {A0 A1 : Nat → Prop} {H0 : Heap} {a : Array Value} {pc : Nat} {ls : Array Slot} {st0 rest : List Value}
theorem vx_keep {st₀ t T' : State} {L : List Loc} (h0 : st₀.heap = H) (e1 : T'.heap = t.heap) (hS : va_S A0 H0 H locs) (hA : ∀ q, q < H.size → A1 q → A0 q) (hf : ∀ q, free q → A0 q) (hL : ∀ q ∈ L, free q.base) (hF : va_F A1 st₀ t) :
    H.size ≤ T'.heap.size ∧ (∀ q : Nat, q < H.size → ¬ A1 q → T'.heap[q]? = H[q]?) ∧ va_S A0 H0 T'.heap (locs ++ L) := by
  obtain ⟨hz, hk⟩ := hF
  rw [h0] at hz hk
  exact ⟨by rw [e1]; exact hz, fun q h1 h2 => by rw [e1]; exact hk q h1 h2,
    ⟨Nat.le_trans hS.1 (by rw [e1]; exact hz), fun q h1 h2 => by rw [e1, hk q (Nat.lt_of_lt_of_le h1 hS.1) (fun z => h2 (hA q (Nat.lt_of_lt_of_le h1 hS.1) z))]; exact hS.2.1 q h1 h2, fun q hq => by
      rcases List.mem_append.mp hq with h | h
      · exact hS.2.2 q h
      · exact hf _ (hL q h)⟩⟩
theorem vx_calli {S SX : Type} {post : Int32 → S → Prop} {px : SX → Prop} {B : S → State → Prop} {BX : String → SX → State → Prop} {AX : Nat → Prop} (hr : vx_Run p l e R s m args below meth c H locs cells slots mc ms (F0 m pc ls st0) rest (va_Qi post B A1 a) (vx_X px BX AX) free) (hS : va_S A0 H0 H locs) (hA : ∀ q, q < H.size → A1 q → A0 q) (hf : ∀ q, free q → A0 q) (hAX : ∀ q, q < H.size → AX q → A0 q)
    (kx : ∀ (E : String) (ce : Cell) (q9 : Addr) (u : SX) (t : State) (H1 : Heap) (locs1 : List Loc), t.heap = H1 → s.vm.Alike t.vm → px u → BX E u t → H.size ≤ H1.size → (∀ q : Nat, q < H.size → ¬ AX q → H1[q]? = H[q]?) → va_S A0 H0 H1 locs1 → H1[q9]? = some ce → ce.vm = .none → s.vm.findClass E = some ce.cls → vx_W p l e R s m args below meth c H1 locs1 (cells + mc) (slots + ms) Q (F0 m pc ls rest) q9)
    (kk : ∀ (r : Int32) (u : S) (t : State) (H1 : Heap) (locs1 : List Loc), t.heap = H1 → s.vm.Alike t.vm → post r u → B u t → H.size ≤ H1.size → (∀ q : Nat, q < H.size → ¬ A1 q → H1[q]? = H[q]?) → va_S A0 H0 H1 locs1 → W p l e R s m args below meth c H1 locs1 (cells + mc) (slots + ms) Q (F0 m (pc + 3) ls (.int r :: rest))) : W p l e R s m args below meth c H locs cells slots Q (F0 m pc ls st0) := by
  intro T hT X
  rcases hr T hT X with ⟨v, st₀, t, T', L, h0, X', hL, e1, e2, ⟨⟨r, u, hv, hp, hb⟩, hF⟩, st⟩ | ⟨q, st₀, t, T', L, E, ce, h0, X', hL, e1, e2, ⟨u, hp, hb, hF⟩, hce, hcv, hcl, st⟩
  · cases hv
    obtain ⟨k1, k2, k3⟩ := vx_keep h0 e1 hS hA hf hL hF
    obtain ⟨t2, a1, b1⟩ := kk r u t T'.heap (locs ++ L) e1.symm (by rw [← e2]; exact X'.warmed.alike) hp hb k1 k2 k3 T' rfl X'
    exact ⟨t2, st t2 a1, b1⟩
  · obtain ⟨k1, k2, k3⟩ := vx_keep h0 e1 hS hAX hf hL hF
    obtain ⟨t2, a1, b1⟩ := kx E ce q u t T'.heap (locs ++ L) e1.symm (by rw [← e2]; exact X'.warmed.alike) hp hb k1 k2 k3 (by rw [e1]; exact hce) hcv hcl T' rfl X'
    exact ⟨t2, st.trans a1, b1⟩
theorem vx_calll {S SX : Type} {post : Int64 → S → Prop} {px : SX → Prop} {B : S → State → Prop} {BX : String → SX → State → Prop} {AX : Nat → Prop} (hr : vx_Run p l e R s m args below meth c H locs cells slots mc ms (F0 m pc ls st0) rest (va_Ql post B A1 a) (vx_X px BX AX) free) (hS : va_S A0 H0 H locs) (hA : ∀ q, q < H.size → A1 q → A0 q) (hf : ∀ q, free q → A0 q) (hAX : ∀ q, q < H.size → AX q → A0 q)
    (kx : ∀ (E : String) (ce : Cell) (q9 : Addr) (u : SX) (t : State) (H1 : Heap) (locs1 : List Loc), t.heap = H1 → s.vm.Alike t.vm → px u → BX E u t → H.size ≤ H1.size → (∀ q : Nat, q < H.size → ¬ AX q → H1[q]? = H[q]?) → va_S A0 H0 H1 locs1 → H1[q9]? = some ce → ce.vm = .none → s.vm.findClass E = some ce.cls → vx_W p l e R s m args below meth c H1 locs1 (cells + mc) (slots + ms) Q (F0 m pc ls rest) q9)
    (kk : ∀ (r : Int64) (u : S) (t : State) (H1 : Heap) (locs1 : List Loc), t.heap = H1 → s.vm.Alike t.vm → post r u → B u t → H.size ≤ H1.size → (∀ q : Nat, q < H.size → ¬ A1 q → H1[q]? = H[q]?) → va_S A0 H0 H1 locs1 → W p l e R s m args below meth c H1 locs1 (cells + mc) (slots + ms) Q (F0 m (pc + 3) ls (.long r :: rest))) : W p l e R s m args below meth c H locs cells slots Q (F0 m pc ls st0) := by
  intro T hT X
  rcases hr T hT X with ⟨v, st₀, t, T', L, h0, X', hL, e1, e2, ⟨⟨r, u, hv, hp, hb⟩, hF⟩, st⟩ | ⟨q, st₀, t, T', L, E, ce, h0, X', hL, e1, e2, ⟨u, hp, hb, hF⟩, hce, hcv, hcl, st⟩
  · cases hv
    obtain ⟨k1, k2, k3⟩ := vx_keep h0 e1 hS hA hf hL hF
    obtain ⟨t2, a1, b1⟩ := kk r u t T'.heap (locs ++ L) e1.symm (by rw [← e2]; exact X'.warmed.alike) hp hb k1 k2 k3 T' rfl X'
    exact ⟨t2, st t2 a1, b1⟩
  · obtain ⟨k1, k2, k3⟩ := vx_keep h0 e1 hS hAX hf hL hF
    obtain ⟨t2, a1, b1⟩ := kx E ce q u t T'.heap (locs ++ L) e1.symm (by rw [← e2]; exact X'.warmed.alike) hp hb k1 k2 k3 (by rw [e1]; exact hce) hcv hcl T' rfl X'
    exact ⟨t2, st.trans a1, b1⟩
theorem vx_callf {S SX : Type} {post : UInt32 → S → Prop} {px : SX → Prop} {B : S → State → Prop} {BX : String → SX → State → Prop} {AX : Nat → Prop} (hr : vx_Run p l e R s m args below meth c H locs cells slots mc ms (F0 m pc ls st0) rest (va_Qf post B A1 a) (vx_X px BX AX) free) (hS : va_S A0 H0 H locs) (hA : ∀ q, q < H.size → A1 q → A0 q) (hf : ∀ q, free q → A0 q) (hAX : ∀ q, q < H.size → AX q → A0 q)
    (kx : ∀ (E : String) (ce : Cell) (q9 : Addr) (u : SX) (t : State) (H1 : Heap) (locs1 : List Loc), t.heap = H1 → s.vm.Alike t.vm → px u → BX E u t → H.size ≤ H1.size → (∀ q : Nat, q < H.size → ¬ AX q → H1[q]? = H[q]?) → va_S A0 H0 H1 locs1 → H1[q9]? = some ce → ce.vm = .none → s.vm.findClass E = some ce.cls → vx_W p l e R s m args below meth c H1 locs1 (cells + mc) (slots + ms) Q (F0 m pc ls rest) q9)
    (kk : ∀ (r : UInt32) (u : S) (t : State) (H1 : Heap) (locs1 : List Loc), t.heap = H1 → s.vm.Alike t.vm → post r u → B u t → H.size ≤ H1.size → (∀ q : Nat, q < H.size → ¬ A1 q → H1[q]? = H[q]?) → va_S A0 H0 H1 locs1 → W p l e R s m args below meth c H1 locs1 (cells + mc) (slots + ms) Q (F0 m (pc + 3) ls (.float r :: rest))) : W p l e R s m args below meth c H locs cells slots Q (F0 m pc ls st0) := by
  intro T hT X
  rcases hr T hT X with ⟨v, st₀, t, T', L, h0, X', hL, e1, e2, ⟨⟨r, u, hv, hp, hb⟩, hF⟩, st⟩ | ⟨q, st₀, t, T', L, E, ce, h0, X', hL, e1, e2, ⟨u, hp, hb, hF⟩, hce, hcv, hcl, st⟩
  · cases hv
    obtain ⟨k1, k2, k3⟩ := vx_keep h0 e1 hS hA hf hL hF
    obtain ⟨t2, a1, b1⟩ := kk r u t T'.heap (locs ++ L) e1.symm (by rw [← e2]; exact X'.warmed.alike) hp hb k1 k2 k3 T' rfl X'
    exact ⟨t2, st t2 a1, b1⟩
  · obtain ⟨k1, k2, k3⟩ := vx_keep h0 e1 hS hAX hf hL hF
    obtain ⟨t2, a1, b1⟩ := kx E ce q u t T'.heap (locs ++ L) e1.symm (by rw [← e2]; exact X'.warmed.alike) hp hb k1 k2 k3 (by rw [e1]; exact hce) hcv hcl T' rfl X'
    exact ⟨t2, st.trans a1, b1⟩
theorem vx_calld {S SX : Type} {post : UInt64 → S → Prop} {px : SX → Prop} {B : S → State → Prop} {BX : String → SX → State → Prop} {AX : Nat → Prop} (hr : vx_Run p l e R s m args below meth c H locs cells slots mc ms (F0 m pc ls st0) rest (va_Qd post B A1 a) (vx_X px BX AX) free) (hS : va_S A0 H0 H locs) (hA : ∀ q, q < H.size → A1 q → A0 q) (hf : ∀ q, free q → A0 q) (hAX : ∀ q, q < H.size → AX q → A0 q)
    (kx : ∀ (E : String) (ce : Cell) (q9 : Addr) (u : SX) (t : State) (H1 : Heap) (locs1 : List Loc), t.heap = H1 → s.vm.Alike t.vm → px u → BX E u t → H.size ≤ H1.size → (∀ q : Nat, q < H.size → ¬ AX q → H1[q]? = H[q]?) → va_S A0 H0 H1 locs1 → H1[q9]? = some ce → ce.vm = .none → s.vm.findClass E = some ce.cls → vx_W p l e R s m args below meth c H1 locs1 (cells + mc) (slots + ms) Q (F0 m pc ls rest) q9)
    (kk : ∀ (r : UInt64) (u : S) (t : State) (H1 : Heap) (locs1 : List Loc), t.heap = H1 → s.vm.Alike t.vm → post r u → B u t → H.size ≤ H1.size → (∀ q : Nat, q < H.size → ¬ A1 q → H1[q]? = H[q]?) → va_S A0 H0 H1 locs1 → W p l e R s m args below meth c H1 locs1 (cells + mc) (slots + ms) Q (F0 m (pc + 3) ls (.double r :: rest))) : W p l e R s m args below meth c H locs cells slots Q (F0 m pc ls st0) := by
  intro T hT X
  rcases hr T hT X with ⟨v, st₀, t, T', L, h0, X', hL, e1, e2, ⟨⟨r, u, hv, hp, hb⟩, hF⟩, st⟩ | ⟨q, st₀, t, T', L, E, ce, h0, X', hL, e1, e2, ⟨u, hp, hb, hF⟩, hce, hcv, hcl, st⟩
  · cases hv
    obtain ⟨k1, k2, k3⟩ := vx_keep h0 e1 hS hA hf hL hF
    obtain ⟨t2, a1, b1⟩ := kk r u t T'.heap (locs ++ L) e1.symm (by rw [← e2]; exact X'.warmed.alike) hp hb k1 k2 k3 T' rfl X'
    exact ⟨t2, st t2 a1, b1⟩
  · obtain ⟨k1, k2, k3⟩ := vx_keep h0 e1 hS hAX hf hL hF
    obtain ⟨t2, a1, b1⟩ := kx E ce q u t T'.heap (locs ++ L) e1.symm (by rw [← e2]; exact X'.warmed.alike) hp hb k1 k2 k3 (by rw [e1]; exact hce) hcv hcl T' rfl X'
    exact ⟨t2, st.trans a1, b1⟩
theorem vx_callv {S SX : Type} {post : S → Prop} {px : SX → Prop} {B : S → State → Prop} {BX : String → SX → State → Prop} {AX : Nat → Prop} (hr : vx_Run p l e R s m args below meth c H locs cells slots mc ms (F0 m pc ls st0) rest (va_Qv post B A1 a) (vx_X px BX AX) free) (hS : va_S A0 H0 H locs) (hA : ∀ q, q < H.size → A1 q → A0 q) (hf : ∀ q, free q → A0 q) (hAX : ∀ q, q < H.size → AX q → A0 q)
    (kx : ∀ (E : String) (ce : Cell) (q9 : Addr) (u : SX) (t : State) (H1 : Heap) (locs1 : List Loc), t.heap = H1 → s.vm.Alike t.vm → px u → BX E u t → H.size ≤ H1.size → (∀ q : Nat, q < H.size → ¬ AX q → H1[q]? = H[q]?) → va_S A0 H0 H1 locs1 → H1[q9]? = some ce → ce.vm = .none → s.vm.findClass E = some ce.cls → vx_W p l e R s m args below meth c H1 locs1 (cells + mc) (slots + ms) Q (F0 m pc ls rest) q9)
    (kk : ∀ (u : S) (t : State) (H1 : Heap) (locs1 : List Loc), t.heap = H1 → s.vm.Alike t.vm → post u → B u t → H.size ≤ H1.size → (∀ q : Nat, q < H.size → ¬ A1 q → H1[q]? = H[q]?) → va_S A0 H0 H1 locs1 → W p l e R s m args below meth c H1 locs1 (cells + mc) (slots + ms) Q (F0 m (pc + 3) ls (rest))) : W p l e R s m args below meth c H locs cells slots Q (F0 m pc ls st0) := by
  intro T hT X
  rcases hr T hT X with ⟨v, st₀, t, T', L, h0, X', hL, e1, e2, ⟨⟨u, hv, hp, hb⟩, hF⟩, st⟩ | ⟨q, st₀, t, T', L, E, ce, h0, X', hL, e1, e2, ⟨u, hp, hb, hF⟩, hce, hcv, hcl, st⟩
  · cases hv
    obtain ⟨k1, k2, k3⟩ := vx_keep h0 e1 hS hA hf hL hF
    obtain ⟨t2, a1, b1⟩ := kk u t T'.heap (locs ++ L) e1.symm (by rw [← e2]; exact X'.warmed.alike) hp hb k1 k2 k3 T' rfl X'
    exact ⟨t2, st t2 a1, b1⟩
  · obtain ⟨k1, k2, k3⟩ := vx_keep h0 e1 hS hAX hf hL hF
    obtain ⟨t2, a1, b1⟩ := kx E ce q u t T'.heap (locs ++ L) e1.symm (by rw [← e2]; exact X'.warmed.alike) hp hb k1 k2 k3 (by rw [e1]; exact hce) hcv hcl T' rfl X'
    exact ⟨t2, st.trans a1, b1⟩
/-- caught by the row x of this method's table; the rows ahead don't take it -/
theorem vx_catch {own name : String} {E : String} {ce : Cell} {q : Addr} (hown : s.vm.findClass own = some m.cls) (pre : List ExceptionTableEntry) (x : ExceptionTableEntry) (suf : List ExceptionTableEntry) (hsplit : c.exceptionTable.toList = pre ++ x :: suf)
    (hpass : ∀ z ∈ pre, covers z pc = false ∨ (z.catchType ≠ 0 ∧ ∃ nm : String, (Cond.classLink own z.catchType nm).before args s = true ∧ va_Nc E nm s)) (hx : covers x pc = true) (h0 : x.catchType ≠ 0)
    (hlink : (Cond.classLink own x.catchType name).before args s = true) (hcast : (Cond.castable E name).before args s = true) (hcell : H[q]? = some ce) (hv : ce.vm = .none) (hcl : s.vm.findClass E = some ce.cls)
    (kk : W p l e R s m args below meth c H locs cells slots Q (F0 m x.handlerPc ls [.ref q])) : vx_W p l e R s m args below meth c H locs cells slots Q (F0 m pc ls rest) q := by
  intro T hT X
  have hpl : e.platform.magicAccessors = ({} : Platform).magicAccessors := by rw [X.admits.platform]
  obtain ⟨c3, c4, hc3, hc4, hasg⟩ := Cond.castable_spec hcast
  cases Option.some.inj (hc3.symm.trans hcl)
  obtain ⟨c5, hc5, hcl5⟩ := Cond.classLink_spec hown hlink e.platform hpl
  cases Option.some.inj (hc4.symm.trans hc5)
  obtain ⟨vm', X', st⟩ := X.thenCaughtThrough q (g := F0 m pc ls rest) rfl (Steps.refl _) (by rw [hT]; exact hcell) (by rw [hv]; rfl) (by obtain ⟨k9, h9, -⟩ := Vm.findClass_spec hcl; exact ⟨k9, h9⟩) pre x suf hsplit
    (fun z hz => by
      rcases hpass z hz with h | ⟨hz0, nm, hl1, hn1⟩
      · exact Or.inl h
      · obtain ⟨c6, hc6, hcl6⟩ := Cond.classLink_spec hown hl1 e.platform hpl
        obtain ⟨a8, b8, h1, h2, h3⟩ := hn1
        cases Option.some.inj (h1.symm.trans hcl)
        cases Option.some.inj (h2.symm.trans hc6)
        exact Or.inr ⟨hz0, _, hcl6, h3⟩) hx (Or.inr ⟨h0, c4, hcl5, hasg⟩)
  obtain ⟨t, a1, b1⟩ := kk (T.setVm vm') hT X'
  exact ⟨t, st.trans a1, b1⟩
end Rows
section Ends
variable {p : Program} {l : Launch} {e : Env} {R : Room} {s : State} {m : MethodId} {args : Array Value} {below : List Frame} {meth : Method} {c : Code} {H : Heap} {locs : List Loc} {cells slots : Nat} {Q : State → Prop}
variable {mc ms : Nat} {free : Addr → Prop} {A0 A1 : Nat → Prop} {H0 : Heap} {a : Array Value} {ls : Array Slot} {st0 rest : List Value}
variable {Qc : Array Value → State → Outcome → State → Prop} {XC : String → State → State → Prop}
/-- what a body that may throw owes at its end -/
def vx_MQ (below : List Frame) (Qc : Array Value → State → Outcome → State → Prop) (XC : String → State → State → Prop) (a : Array Value) (s : State) (mc ms : Nat) (free : Addr → Prop) : State → Prop := fun t =>
  ∃ o, t.status = .running ∧ Ended t below o ∧ vx_Q Qc XC mc ms free a s o t
theorem vx_ret {g : JFrame} {mc ms : Nat} (k : W p l e R s m args below meth c H locs cells slots (MQ below Qc args s mc ms free) g) : W p l e R s m args below meth c H locs cells slots (vx_MQ below Qc XC args s mc ms free) g := by
  intro T hT X
  obtain ⟨t, a1, o, b1, b2, b3, b4⟩ := k T hT X
  exact ⟨t, a1, o, b1, b2, Or.inl ⟨b3, b4⟩⟩
/-- not caught here: it goes on to the caller -/
theorem vx_widen {g : JFrame} {q : Addr} {k n : Nat} (h1 : cells ≤ k) (h2 : slots ≤ n) (kk : vx_W p l e R s m args below meth c H locs k n Q g q) : vx_W p l e R s m args below meth c H locs cells slots Q g q := fun T hT X => kk T hT (stand_widen X h1 h2)
theorem vx_out {pc : Nat} {E : String} {ce : Cell} {q : Addr} {mc ms : Nat} (hout : ∀ x ∈ c.exceptionTable.toList, covers x pc = false) (hlocks : meth.locks = false) (hcell : H[q]? = some ce) (hv : ce.vm = .none) (hcl : s.vm.findClass E = some ce.cls)
    (hx : ∀ t : State, t.heap = H → s.vm.Alike t.vm → XC E s t) (hf : ∀ z ∈ locs, free z.base) (hc : cells ≤ mc) (hs : slots ≤ ms) :
    vx_W p l e R s m args below meth c H locs cells slots (vx_MQ below Qc XC args s mc ms free) (F0 m pc ls rest) q := by
  intro T hT X
  obtain ⟨st1, hrun, hend, hW, hsm⟩ := X.leaveThrown q (g := F0 m pc ls rest) rfl rfl rfl hout hlocks
  have hcell9 : (T.setFrames (.throwing q :: below)).heap[q]? = some ce := by
    show T.heap[q]? = some ce
    rw [hT]; exact hcell
  exact ⟨_, st1, .threw q, hrun, hend, Or.inr ⟨q, rfl, E, ce, locs, hx _ hT hW.alike, hcell9, hv, hcl, hW, hsm.mono hc hs, hf⟩⟩
theorem vx_frame {U : State} {k n : Nat} (h : s.sameButNew ({ U with vm := s.vm } : State) locs k n) : s.heap.size ≤ U.heap.size ∧ ∀ q : Nat, q < s.heap.size → (∀ z ∈ locs, z.base ≠ q) → U.heap[q]? = s.heap[q]? := by
  obtain ⟨-, h2, -, -, -, h6⟩ := h
  refine ⟨h2, fun q hq hz => ?_⟩
  obtain ⟨c9, e1, e2, e3, e4⟩ := h6 q _ (Array.getElem?_eq_getElem hq)
  have hs : c9.slots = (s.heap[q]).slots := Array.ext_getElem? fun i => e4 i fun hm => hz _ hm rfl
  have h9 : c9 = s.heap[q] := by
    rw [hs] at e2
    exact e2
  have e5 : U.heap[q]? = some c9 := e1
  rw [e5, h9, Array.getElem?_eq_getElem hq]
/-- the words of a throw but the four that speak of the heap -/
def vx_no (w : Cond) : Bool := decide (w ≠ .isRef (.static Bundle.tN "UNASSIGNED_STACK" Bundle.steD)) && decide (w ≠ .isRef (.static Bundle.tN "SUPPRESSED_SENTINEL" Bundle.listD)) && decide (w ≠ .laysStatic Bundle.tN "UNASSIGNED_STACK" Bundle.steD) && decide (w ≠ .laysStatic Bundle.tN "SUPPRESSED_SENTINEL" Bundle.listD)
def vx_at0 (own : String) (ic : Nat) (X : String) (names : List String) : List Cond := (Bundle.ownAtoms0 own ic X names).filter vx_no
def vx_atS (own : String) (ic : Nat) (X : String) (names : List String) : List Cond := (Bundle.ownAtoms own ic X names).filter vx_no
/-- a word that the tables alone decide, or a good one -/
def vx_ot (w : Cond) : Bool := w.onTables || goodWord w
theorem vx_ot_at {args a' : Array Value} {s U : State} {w : Cond} (hW : s.WarmedH U.vm) (hvm : s.vm = U.vm) (hg : vx_ot w = true) (h : w.before args s = true) : w.before a' U = true := by
  simp only [vx_ot, Bool.or_eq_true] at hg
  rcases hg with hg | hg
  · exact va_tabs hg hvm h
  · exact word_at hW (good_of_word hg) h
/-- a list's words: the good ones out of the method's own list, the others by premises of their own -/
theorem vx_hat {args : Array Value} {s : State} {L B : List Cond} (h1 : ∀ w ∈ L.filter goodWord, w.before args s = true) (h2 : ∀ w ∈ L.filter (fun w => !goodWord w), w ∈ B) (h3 : ∀ w ∈ B, w.before args s = true) : ∀ w ∈ L, w.before args s = true := by
  intro w hw
  by_cases g : goodWord w = true
  · exact h1 w (List.mem_filter.mpr ⟨hw, g⟩)
  · refine h3 w (h2 w (List.mem_filter.mpr ⟨hw, ?_⟩))
    show (!goodWord w) = true
    cases hgw : goodWord w
    · rfl
    · exact absurd hgw g
theorem vx_c {args : Array Value} {s : State} {w : Cond} {B : List Cond} (h : w.before args s = true) (t : ∀ w ∈ B, w.before args s = true) : ∀ w' ∈ w :: B, w'.before args s = true := fun w' h' => (List.mem_cons.mp h').elim (fun e => by rw [e]; exact h) (t w')
theorem vx_n {args : Array Value} {s : State} : ∀ w ∈ ([] : List Cond), w.before args s = true := fun _ h => nomatch h
theorem vx_own {args : Array Value} {s : State} {L : List Cond} (h1 : ∀ w ∈ L.filter vx_no, w.before args s = true)
    (hU : (Cond.isRef (.static Bundle.tN "UNASSIGNED_STACK" Bundle.steD)).before args s = true) (hN : (Cond.isRef (.static Bundle.tN "SUPPRESSED_SENTINEL" Bundle.listD)).before args s = true)
    (lU : (Cond.laysStatic Bundle.tN "UNASSIGNED_STACK" Bundle.steD).before args s = true) (lN : (Cond.laysStatic Bundle.tN "SUPPRESSED_SENTINEL" Bundle.listD).before args s = true) : ∀ w ∈ L, w.before args s = true := by
  intro w hw
  by_cases e1 : w = .isRef (.static Bundle.tN "UNASSIGNED_STACK" Bundle.steD)
  · rw [e1]; exact hU
  · by_cases e2 : w = .isRef (.static Bundle.tN "SUPPRESSED_SENTINEL" Bundle.listD)
    · rw [e2]; exact hN
    · by_cases e3 : w = .laysStatic Bundle.tN "UNASSIGNED_STACK" Bundle.steD
      · rw [e3]; exact lU
      · by_cases e4 : w = .laysStatic Bundle.tN "SUPPRESSED_SENTINEL" Bundle.listD
        · rw [e4]; exact lN
        · exact h1 w (List.mem_filter.mpr ⟨hw, by unfold vx_no; rw [decide_eq_true e1, decide_eq_true e2, decide_eq_true e3, decide_eq_true e4]; rfl⟩)
/-- where a static field lies, its class's statics cell in H -/
def vx_L (C n d : String) (A : Nat → Prop) (U : State) (H : Heap) : Prop := ∃ (c : ClassId) (k : Class) (i : Nat) (f : Field) (a : Nat) (cell : Cell), U.vm.findClass C = some c ∧ U.fieldFound? C n d = some (c, k, i, f) ∧ f.isStatic = true ∧ k.statics = some a ∧ H[a]? = some cell ∧ cell.vm.isStatics = true ∧ cell.cls = c ∧ f.slot < cell.slots.size ∧ k.staticTypes[f.slot]? = some f.type ∧ ¬ A a
theorem vx_L.moved {C n d : String} {A : Nat → Prop} {u U : State} {H : Heap} (hvm : u.vm.Alike U.vm) (h : vx_L C n d A u H) : vx_L C n d A U H := by
  obtain ⟨c, k, i, f, a, cell, h1, h2, h3, h4, h5, h6, h7, h8, h9, h10⟩ := h
  obtain ⟨k', hi', he⟩ := State.fieldFound?_setVm hvm h2
  exact ⟨c, k', i, f, a, cell, by rw [hvm.findClass]; exact h1, hi', h3, by rw [he]; exact h4, h5, h6, h7, h8, by rw [he]; exact h9, h10⟩
theorem vx_L.kept {C n d : String} {A : Nat → Prop} {U : State} {H H1 : Heap} (h : vx_L C n d A U H) (hq : ∀ a : Nat, a < H.size → ¬ A a → H1[a]? = H[a]?) : vx_L C n d A U H1 := by
  obtain ⟨c, k, i, f, a, cell, h1, h2, h3, h4, h5, h6, h7, h8, h9, h10⟩ := h
  exact ⟨c, k, i, f, a, cell, h1, h2, h3, h4, by rw [hq a (Array.getElem?_eq_some_iff.mp h5).1 h10]; exact h5, h6, h7, h8, h9, h10⟩
theorem vx_L.narrow {C n d : String} {A B : Nat → Prop} {U : State} {H : Heap} (h : vx_L C n d A U H) (hAB : ∀ q, B q → A q) : vx_L C n d B U H := by
  obtain ⟨c, k, i, f, a, cell, h1, h2, h3, h4, h5, h6, h7, h8, h9, h10⟩ := h
  exact ⟨c, k, i, f, a, cell, h1, h2, h3, h4, h5, h6, h7, h8, h9, fun z => h10 (hAB _ z)⟩
theorem vx_L.word {C n d : String} {A : Nat → Prop} {s : State} {args : Array Value} (h : vx_L C n d A s s.heap) : (Cond.laysStatic C n d).before args s = true := by
  obtain ⟨c, k, i, f, a, cell, h1, h2, h3, h4, h5, h6, h7, h8, h9, -⟩ := h
  show (Cond.laysStatic C n d).holds args s none s [] = true
  exact Cond.laysStatic_of h1 h2 h3 h4 h5 h6 h7 h8 h9
/-- .. and what it holds: null or some reference -/
def vx_Zq (C n d : String) (A : Nat → Prop) (U : State) (H : Heap) : Prop := va_Zq C n d A U H ∧ vx_L C n d A U H
theorem vx_Zq.moved {C n d : String} {A : Nat → Prop} {u U : State} {H : Heap} (hvm : u.vm.Alike U.vm) (h : vx_Zq C n d A u H) : vx_Zq C n d A U H := ⟨va_Zq.moved hvm h.1, vx_L.moved hvm h.2⟩
theorem vx_Zq.kept {C n d : String} {A : Nat → Prop} {U : State} {H H1 : Heap} (h : vx_Zq C n d A U H) (hq : ∀ a : Nat, a < H.size → ¬ A a → H1[a]? = H[a]?) : vx_Zq C n d A U H1 := ⟨va_Zq.kept h.1 hq, vx_L.kept h.2 hq⟩
theorem vx_Zq.narrow {C n d : String} {A B : Nat → Prop} {U : State} {H : Heap} (h : vx_Zq C n d A U H) (hAB : ∀ q, B q → A q) : vx_Zq C n d B U H := ⟨va_Zq.narrow h.1 hAB, vx_L.narrow h.2 hAB⟩
theorem vx_Zqof {args : Array Value} {s : State} {C n d : String} {A : Nat → Prop} (hl : (Cond.laysStatic C n d).before args s = true) (hini : (Cond.initialized C).before args s = true) (h : (Cond.isRef (.static C n d)).before args s = true) (hA : ∀ a : Nat, a < s.heap.size → ¬ A a) : vx_Zq C n d A s s.heap := by
  refine ⟨va_Zqof hl hini h hA, ?_⟩
  obtain ⟨c, k, i, f, a, cell, h1, h2, h3, h4, h5, h6, h7, h8, h9⟩ := Cond.laysStatic_spec hl
  exact ⟨c, k, i, f, a, cell, h1, h2, h3, h4, h5, h6, h7, h8, h9, hA a (Array.getElem?_eq_some_iff.mp h5).1⟩
theorem vx_isRef {C n d : String} {v : Value} {A : Nat → Prop} {s : State} {args : Array Value} (h : va_Z C n d v A s s.heap) (hv : v.isRef = true) : (Cond.isRef (.static C n d)).before args s = true := by
  obtain ⟨cf, kf, fi, f, a, cell, h1, h2, h3, h4, h5, h6, h7, -⟩ := h
  have he : (Term.static C n d).eval args s none [] s = some v := by
    simp [Term.eval, State.fieldNamed?, h1, h2, h4, h5, h6, h7]
  simp only [Cond.before, Cond.holds, Cond.value, he]
  cases v <;> simp_all [Value.isRef]
theorem vx_isRefq {C n d : String} {A : Nat → Prop} {s : State} {args : Array Value} (h : va_Zq C n d A s s.heap) : (Cond.isRef (.static C n d)).before args s = true := by
  rcases h with h | ⟨t, h⟩
  · exact vx_isRef h rfl
  · exact vx_isRef h rfl
/-- the same frame, seen from here: as if the method were called anew in this heap -/
theorem vx_rebase {T : State} (X : Stand p l e R s m args below meth c T locs cells slots) {R' : Room} (hf : R'.frames ≤ R.frames) (hl : R'.locals ≤ R.locals) (hc : cells + R'.cells ≤ R.cells) (hs : slots + R'.slots ≤ R.slots) :
    Stand p l e R' ((T.setVm s.vm).setFrames (.invoking m args :: below)) m args below meth c T [] 0 0 := by
  have htop : (T.setVm s.vm).topJava?.isSome := X.here.top
  have hF : ((T.setVm s.vm).setFrames (.invoking m args :: below)).frames = .invoking m args :: below := State.frames_setFrames _ (State.cur_lt_of_top htop)
  obtain ⟨g₀, hg0⟩ := Option.isSome_iff_exists.mp htop
  obtain ⟨r, hr⟩ := State.topJava?_eq_some.mp hg0
  have hl9 : e.platform.stackLimits (T.setVm s.vm).me = e.platform.stackLimits s.me := X.limits
  have hb9 : (T.setVm s.vm).me.stackBytes = s.me.stackBytes := X.bytes
  refine ⟨X.admits, X.cas, X.clock, hF, ?_, X.hears, X.method, X.code, X.here, X.tail, X.warmed, ?_, ?_, ?_⟩
  · have h := X.room
    have hU : ((T.setVm s.vm).setFrames (.invoking m args :: below)).localsInUse = s.localsInUse := by
      rw [State.localsInUse_invoking hF (meth := meth) (c := c) X.method X.code, State.localsInUse_invoking X.frames X.method X.code]
    simp only [State.hasRoom, Bool.and_eq_true, decide_eq_true_eq] at h ⊢
    obtain ⟨⟨⟨⟨h1, h2, h3, h4, h5, h6⟩, h7⟩, h8⟩, h9⟩ := h
    rw [X.frames, List.length_cons] at h2 h3
    have q1 := X.heapSize
    have q2 := X.used
    simp only [hF, hU, List.length_cons, State.stackLimits_setFrames, State.stackBytes_setFrames, hl9, hb9]
    refine ⟨⟨⟨⟨by omega, by omega, by omega, by omega, by omega, h6⟩, ?_⟩, ?_⟩, X.book⟩
    · show T.heap.size + R'.cells ≤ e.platform.maxCells
      omega
    · show T.slotsUsed + R'.slots ≤ e.platform.maxSlots
      omega
  · rw [State.stackLimits_setFrames]; rfl
  · rw [State.stackBytes_setFrames]; rfl
  · refine ⟨?_, Nat.le_refl _, Nat.le_refl _, ?_, ?_, fun a c9 h9 => ⟨c9, h9, rfl, rfl, fun _ _ => rfl⟩⟩
    · obtain ⟨t, ht, -⟩ := State.frames_cons hr
      show T.setVm s.vm = { ((T.setVm s.vm).setFrames (.invoking m args :: below)).setFrames (T.setVm s.vm).frames with heap := T.heap, slotsUsed := T.slotsUsed }
      rw [State.setFrames_setFrames, State.setFrames_self ht]
      rfl
    · show T.slotsUsed = T.slotsUsed + ((T.heap.toList.drop T.heap.size).map (·.slots.size)).sum
      rw [List.drop_eq_nil_of_le (Nat.le_of_eq Array.length_toList)]
      rfl
    · show ((T.heap.toList.drop T.heap.size).map (·.slots.size)).sum ≤ 0
      rw [List.drop_eq_nil_of_le (Nat.le_of_eq Array.length_toList)]
      exact Nat.le_refl _
/-- 'throw new E()': new; dup; invokespecial; athrow -/
theorem vx_throw0 {cc : ByteArray} {pc : Nat} (hexec : p.tables.exec = Jvm.exec) (hb : c.code = cc) (hl : l.stackTraces = false) {own cls : String} {names : List String} {ik ic mc ms : Nat} {A : Nat → Prop}
    (hown : s.vm.findClass own = some m.cls) (hcls : Bundle.fit cls = true) (hnames : ∀ n ∈ names, Bundle.fit n = true)
    (hk : (Cond.classLink own ik cls).before args s = true) (hini : (Cond.initialized cls).before args s = true) (hat : ∀ w ∈ vx_at0 own ic cls names, w.before args s = true)
    (hgood : ∀ w ∈ Cond.classLink own ik cls :: Cond.initialized cls :: vx_at0 own ic cls names, vx_ot w = true)
    (hU : vx_Zq Bundle.tN "UNASSIGNED_STACK" Bundle.steD A s s.heap) (hN : vx_Zq Bundle.tN "SUPPRESSED_SENTINEL" Bundle.listD A s s.heap) (hS : va_S A s.heap H locs) (hsize : ls.size = c.maxLocals)
    (d0 : decode cc pc = .ok (.new ik, 3)) (d3 : decode cc (pc + 3) = .ok (.dup, 1)) (d4 : decode cc (pc + 4) = .ok (.invokespecial ic, 3)) (d7 : decode cc (pc + 7) = .ok (.athrow, 1))
    (hout : ∀ x ∈ c.exceptionTable.toList, covers x (pc + 7) = false)
    (hRframes : names.length + 3 < R.frames) (hRlocals : (rest.map fun v => v.category).sum + (13 * (names.length + 1) + 42) ≤ R.locals) (hRcells : cells + 1 ≤ R.cells) (hRslots : slots + 6 ≤ R.slots) (hlocks : meth.locks = false)
    (hx : ∀ t : State, s.vm.Alike t.vm → H.size ≤ t.heap.size → (∀ q : Nat, q < H.size → t.heap[q]? = H[q]?) → XC cls s t)
    (hf : ∀ z ∈ locs, free z.base) (hc : cells + 1 ≤ mc) (hs : slots + 6 ≤ ms) :
    W p l e R s m args below meth c H locs cells slots (vx_MQ below Qc XC args s mc ms free) (F0 m pc ls rest) := by
  intro T hT X
  have htr : e.platform.stackTraces = false := (show e.platform.stackTraces = l.stackTraces by rw [X.admits.platform]).trans hl
  have Y := vx_rebase X (R' := { frames := R.frames, locals := R.locals, cells := 1, slots := 6 }) (Nat.le_refl _) (Nat.le_refl _) hRcells hRslots
  obtain ⟨s', hA⟩ : ∃ z, z = (T.setVm s.vm).setFrames (.invoking m args :: below) := ⟨_, rfl⟩
  rw [← hA] at Y
  have hvm : s'.vm = s.vm := by rw [hA]; rfl
  have hhp : s'.heap = H := by rw [hA]; exact hT
  have hW0 : s.WarmedH s'.vm := by rw [hvm]; exact State.WarmedH.refl s
  have hat' : ∀ w ∈ vx_at0 own ic cls names, w.before args s' = true := fun w hw => vx_ot_at hW0 hvm.symm (hgood w (List.mem_cons_of_mem _ (List.mem_cons_of_mem _ hw))) (hat w hw)
  have hk' : (Cond.classLink own ik cls).before args s' = true := vx_ot_at hW0 hvm.symm (hgood _ List.mem_cons_self) hk
  have hini' : (Cond.initialized cls).before args s' = true := vx_ot_at hW0 hvm.symm (hgood _ (List.mem_cons_of_mem _ List.mem_cons_self)) hini
  have hU' : vx_Zq Bundle.tN "UNASSIGNED_STACK" Bundle.steD A s' s'.heap := by rw [hhp]; exact vx_Zq.moved hW0.alike (hU.kept hS.2.1)
  have hN' : vx_Zq Bundle.tN "SUPPRESSED_SENTINEL" Bundle.listD A s' s'.heap := by rw [hhp]; exact vx_Zq.moved hW0.alike (hN.kept hS.2.1)
  have h : ∀ w ∈ Bundle.ownAtoms0 own ic cls names, w.before args s' = true := vx_own hat' (vx_isRefq hU'.1) (vx_isRefq hN'.1) hU'.2.word hN'.2.word
  have hown' : s'.vm.findClass own = some m.cls := by rw [hvm]; exact hown
  have hins : (Cond.instantiable cls 6).before args s' = true := h _ (by simp [Bundle.ownAtoms0])
  obtain ⟨vm₁, cX, kX, hfX, hkX, -, -, X₁, st1⟩ := Y.newCold hexec (own := own) (C := cls) (index := ik) (n := 6) hown' hk' hins hini'
    (g := F0 m pc ls rest) rfl (by rw [hb]; exact d0) (Nat.le_refl _) (Nat.le_refl _)
  generalize hT1 : (T.setVm vm₁).pushCell { cls := cX, slots := kX.instanceTypes.map defaultValue, vm := .none } = T1 at X₁ st1
  have hcat : (Value.ref T.heap.size).category = 1 := rfl
  have hcellA : T1.heap[T.heap.size]? = some (freshCell cX kX) := by rw [← hT1]; exact State.heap_pushCell_size _ _
  have d3' : decode c.code (pc + 3) = .ok (.dup, 1) := by rw [hb]; exact d3
  obtain ⟨U, hsteps, hrun, hend, hW, hsame, ce, hce, hO⟩ := X₁.ctorThrow0 hexec htr (own := own) (cls := cls) (names := names) (ic := ic) hown' hcls hnames h (fun x hx => nomatch hx) hfX hkX hcellA (by rw [hhp, hT]; exact Nat.le_refl _)
    (g := { method := m, pc := pc + 4, locals := ls, stack := .ref T.heap.size :: .ref T.heap.size :: rest, locked := none }) rfl hsize rfl rfl (rest := rest) rfl
    (by rw [hb]; exact d4) (by rw [hb]; exact d7) hout hRframes (by simp only [List.map_cons, List.sum_cons, hcat]; omega) hlocks
  obtain ⟨f1, f2⟩ := vx_frame hsame
  rw [hhp] at f1 f2
  have hWs : s.WarmedH U.vm := State.WarmedH.trans hW0 hW
  have hcl : s.vm.findClass cls = some ce.cls := by
    have h9 := hO.cls
    rw [hvm] at h9
    exact h9
  have hall : s.sameButNew ({ U with vm := s.vm } : State) locs mc ms := by
    subst hA
    obtain ⟨e1, e2⟩ := hsame
    rw [State.setFrames_setFrames] at e1
    have h2 : (T.setVm s.vm).sameButNew ({ U with vm := s.vm } : State) [] (0 + 1) (0 + 6) := ⟨e1, e2⟩
    have h3 := X.same.trans h2
    rw [List.append_nil] at h3
    exact h3.mono hc hs
  refine ⟨U, ?_, .threw T.heap.size, hrun, hend, Or.inr ⟨T.heap.size, rfl, cls, ce, locs, hx U hWs.alike f1 (fun q hq => f2 q hq (fun z hz => nomatch hz)), hce, hO.vm, hcl, hWs, hall, hf⟩⟩
  refine st1 _ ?_
  show Steps p.tables e below (T1.setTop { method := m, pc := pc + 3, locals := ls, stack := .ref T.heap.size :: rest, locked := none }) _
  jvm_step X₁.here [X₁.here.top, hexec, d3', Value.category]
  exact hsteps
/-- 'throw new E("text")': new; dup; ldc; invokespecial; athrow -/
theorem vx_throwS {cc : ByteArray} {pc : Nat} (hexec : p.tables.exec = Jvm.exec) (hb : c.code = cc) (hl : l.stackTraces = false) {own cls text : String} {names : List String} {ik is ic mc ms sa : Nat} {A : Nat → Prop}
    (hown : s.vm.findClass own = some m.cls) (hcls : Bundle.fit cls = true) (hnames : ∀ n ∈ names, Bundle.fit n = true)
    (hk : (Cond.classLink own ik cls).before args s = true) (hini : (Cond.initialized cls).before args s = true) (hstr : vk_R own is text sa s) (hat : ∀ w ∈ vx_atS own ic cls names, w.before args s = true)
    (hgood : ∀ w ∈ Cond.classLink own ik cls :: Cond.initialized cls :: vx_atS own ic cls names, vx_ot w = true)
    (hU : vx_Zq Bundle.tN "UNASSIGNED_STACK" Bundle.steD A s s.heap) (hN : vx_Zq Bundle.tN "SUPPRESSED_SENTINEL" Bundle.listD A s s.heap) (hS : va_S A s.heap H locs) (hsize : ls.size = c.maxLocals)
    (d0 : decode cc pc = .ok (.new ik, 3)) (d3 : decode cc (pc + 3) = .ok (.dup, 1)) (d4 : decode cc (pc + 4) = .ok (.ldc is, 2)) (d6 : decode cc (pc + 6) = .ok (.invokespecial ic, 3)) (d9 : decode cc (pc + 9) = .ok (.athrow, 1))
    (hout : ∀ x ∈ c.exceptionTable.toList, covers x (pc + 9) = false)
    (hRframes : names.length + 3 < R.frames) (hRlocals : (rest.map fun v => v.category).sum + (13 * (names.length + 1) + 43) ≤ R.locals) (hRcells : cells + 1 ≤ R.cells) (hRslots : slots + 6 ≤ R.slots) (hlocks : meth.locks = false)
    (hx : ∀ t : State, s.vm.Alike t.vm → H.size ≤ t.heap.size → (∀ q : Nat, q < H.size → t.heap[q]? = H[q]?) → XC cls s t)
    (hf : ∀ z ∈ locs, free z.base) (hc : cells + 1 ≤ mc) (hs : slots + 6 ≤ ms) :
    W p l e R s m args below meth c H locs cells slots (vx_MQ below Qc XC args s mc ms free) (F0 m pc ls rest) := by
  intro T hT X
  have htr : e.platform.stackTraces = false := (show e.platform.stackTraces = l.stackTraces by rw [X.admits.platform]).trans hl
  have Y := vx_rebase X (R' := { frames := R.frames, locals := R.locals, cells := 1, slots := 6 }) (Nat.le_refl _) (Nat.le_refl _) hRcells hRslots
  obtain ⟨s', hA⟩ : ∃ z, z = (T.setVm s.vm).setFrames (.invoking m args :: below) := ⟨_, rfl⟩
  rw [← hA] at Y
  have hvm : s'.vm = s.vm := by rw [hA]; rfl
  have hhp : s'.heap = H := by rw [hA]; exact hT
  have hW0 : s.WarmedH s'.vm := by rw [hvm]; exact State.WarmedH.refl s
  have hat' : ∀ w ∈ vx_atS own ic cls names, w.before args s' = true := fun w hw => vx_ot_at hW0 hvm.symm (hgood w (List.mem_cons_of_mem _ (List.mem_cons_of_mem _ hw))) (hat w hw)
  have hk' : (Cond.classLink own ik cls).before args s' = true := vx_ot_at hW0 hvm.symm (hgood _ List.mem_cons_self) hk
  have hini' : (Cond.initialized cls).before args s' = true := vx_ot_at hW0 hvm.symm (hgood _ (List.mem_cons_of_mem _ List.mem_cons_self)) hini
  have hU' : vx_Zq Bundle.tN "UNASSIGNED_STACK" Bundle.steD A s' s'.heap := by rw [hhp]; exact vx_Zq.moved hW0.alike (hU.kept hS.2.1)
  have hN' : vx_Zq Bundle.tN "SUPPRESSED_SENTINEL" Bundle.listD A s' s'.heap := by rw [hhp]; exact vx_Zq.moved hW0.alike (hN.kept hS.2.1)
  have h : ∀ w ∈ Bundle.ownAtoms own ic cls names, w.before args s' = true := vx_own hat' (vx_isRefq hU'.1) (vx_isRefq hN'.1) hU'.2.word hN'.2.word
  have hown' : s'.vm.findClass own = some m.cls := by rw [hvm]; exact hown
  have hins : (Cond.instantiable cls 6).before args s' = true := h _ (by simp [Bundle.ownAtoms])
  obtain ⟨vm₁, cX, kX, hfX, hkX, -, -, X₁, st1⟩ := Y.newCold hexec (own := own) (C := cls) (index := ik) (n := 6) hown' hk' hins hini'
    (g := F0 m pc ls rest) rfl (by rw [hb]; exact d0) (Nat.le_refl _) (Nat.le_refl _)
  generalize hT1 : (T.setVm vm₁).pushCell { cls := cX, slots := kX.instanceTypes.map defaultValue, vm := .none } = T1 at X₁ st1
  have hcat : (Value.ref T.heap.size).category = 1 := rfl
  have hcellA : T1.heap[T.heap.size]? = some (freshCell cX kX) := by rw [← hT1]; exact State.heap_pushCell_size _ _
  have d3' : decode c.code (pc + 3) = .ok (.dup, 1) := by rw [hb]; exact d3
  have d4' : decode c.code (pc + 4) = .ok (.ldc is, 2) := by rw [hb]; exact d4
  have hstr' : vk_R own is text sa s' := vk_R.warm hW0 hstr
  obtain ⟨U, hsteps, hrun, hend, hW, hsame, ce, hce, hO⟩ := X₁.ctorThrowS hexec htr (own := own) (cls := cls) (names := names) (ic := ic) hown' hcls hnames h (fun x hx => nomatch hx) hfX hkX hcellA (by rw [hhp, hT]; exact Nat.le_refl _) (msg := .ref sa) rfl
    (g := { method := m, pc := pc + 6, locals := ls, stack := .ref sa :: .ref T.heap.size :: .ref T.heap.size :: rest, locked := none }) rfl hsize rfl rfl (rest := rest) rfl
    (by rw [hb]; exact d6) (by rw [hb]; exact d9) hout hRframes (by simp only [List.map_cons, List.sum_cons, hcat]; omega) hlocks
  obtain ⟨f1, f2⟩ := vx_frame hsame
  rw [hhp] at f1 f2
  have hWs : s.WarmedH U.vm := State.WarmedH.trans hW0 hW
  have hcl : s.vm.findClass cls = some ce.cls := by
    have h9 := hO.cls
    rw [hvm] at h9
    exact h9
  have hall : s.sameButNew ({ U with vm := s.vm } : State) locs mc ms := by
    subst hA
    obtain ⟨e1, e2⟩ := hsame
    rw [State.setFrames_setFrames] at e1
    have h2 : (T.setVm s.vm).sameButNew ({ U with vm := s.vm } : State) [] (0 + 1) (0 + 6) := ⟨e1, e2⟩
    have h3 := X.same.trans h2
    rw [List.append_nil] at h3
    exact h3.mono hc hs
  refine ⟨U, ?_, .threw T.heap.size, hrun, hend, Or.inr ⟨T.heap.size, rfl, cls, ce, locs, hx U hWs.alike f1 (fun q hq => f2 q hq (fun z hz => nomatch hz)), hce, hO.vm, hcl, hWs, hall, hf⟩⟩
  refine st1 _ ?_
  show Steps p.tables e below (T1.setTop { method := m, pc := pc + 3, locals := ls, stack := .ref T.heap.size :: rest, locked := none }) _
  jvm_step X₁.here [X₁.here.top, hexec, d3', Value.category]
  exact X₁.ldcString hexec (own := own) (text := text) (index := is) (a := sa) hown' hstr'.1 hstr'.2
    (g := { method := m, pc := pc + 4, locals := ls, stack := .ref T.heap.size :: .ref T.heap.size :: rest, locked := none }) rfl d4' _ hsteps
/-- 'throw new E("text")', the text by a wide index -/
theorem vx_throwSW {cc : ByteArray} {pc : Nat} (hexec : p.tables.exec = Jvm.exec) (hb : c.code = cc) (hl : l.stackTraces = false) {own cls text : String} {names : List String} {ik is ic mc ms sa : Nat} {A : Nat → Prop}
    (hown : s.vm.findClass own = some m.cls) (hcls : Bundle.fit cls = true) (hnames : ∀ n ∈ names, Bundle.fit n = true)
    (hk : (Cond.classLink own ik cls).before args s = true) (hini : (Cond.initialized cls).before args s = true) (hstr : vk_R own is text sa s) (hat : ∀ w ∈ vx_atS own ic cls names, w.before args s = true)
    (hgood : ∀ w ∈ Cond.classLink own ik cls :: Cond.initialized cls :: vx_atS own ic cls names, vx_ot w = true)
    (hU : vx_Zq Bundle.tN "UNASSIGNED_STACK" Bundle.steD A s s.heap) (hN : vx_Zq Bundle.tN "SUPPRESSED_SENTINEL" Bundle.listD A s s.heap) (hS : va_S A s.heap H locs) (hsize : ls.size = c.maxLocals)
    (d0 : decode cc pc = .ok (.new ik, 3)) (d3 : decode cc (pc + 3) = .ok (.dup, 1)) (d4 : decode cc (pc + 4) = .ok (.ldc_w is, 3)) (d7 : decode cc (pc + 7) = .ok (.invokespecial ic, 3)) (d10 : decode cc (pc + 10) = .ok (.athrow, 1))
    (hout : ∀ x ∈ c.exceptionTable.toList, covers x (pc + 10) = false)
    (hRframes : names.length + 3 < R.frames) (hRlocals : (rest.map fun v => v.category).sum + (13 * (names.length + 1) + 43) ≤ R.locals) (hRcells : cells + 1 ≤ R.cells) (hRslots : slots + 6 ≤ R.slots) (hlocks : meth.locks = false)
    (hx : ∀ t : State, s.vm.Alike t.vm → H.size ≤ t.heap.size → (∀ q : Nat, q < H.size → t.heap[q]? = H[q]?) → XC cls s t)
    (hf : ∀ z ∈ locs, free z.base) (hc : cells + 1 ≤ mc) (hs : slots + 6 ≤ ms) :
    W p l e R s m args below meth c H locs cells slots (vx_MQ below Qc XC args s mc ms free) (F0 m pc ls rest) := by
  intro T hT X
  have htr : e.platform.stackTraces = false := (show e.platform.stackTraces = l.stackTraces by rw [X.admits.platform]).trans hl
  have Y := vx_rebase X (R' := { frames := R.frames, locals := R.locals, cells := 1, slots := 6 }) (Nat.le_refl _) (Nat.le_refl _) hRcells hRslots
  obtain ⟨s', hA⟩ : ∃ z, z = (T.setVm s.vm).setFrames (.invoking m args :: below) := ⟨_, rfl⟩
  rw [← hA] at Y
  have hvm : s'.vm = s.vm := by rw [hA]; rfl
  have hhp : s'.heap = H := by rw [hA]; exact hT
  have hW0 : s.WarmedH s'.vm := by rw [hvm]; exact State.WarmedH.refl s
  have hat' : ∀ w ∈ vx_atS own ic cls names, w.before args s' = true := fun w hw => vx_ot_at hW0 hvm.symm (hgood w (List.mem_cons_of_mem _ (List.mem_cons_of_mem _ hw))) (hat w hw)
  have hk' : (Cond.classLink own ik cls).before args s' = true := vx_ot_at hW0 hvm.symm (hgood _ List.mem_cons_self) hk
  have hini' : (Cond.initialized cls).before args s' = true := vx_ot_at hW0 hvm.symm (hgood _ (List.mem_cons_of_mem _ List.mem_cons_self)) hini
  have hU' : vx_Zq Bundle.tN "UNASSIGNED_STACK" Bundle.steD A s' s'.heap := by rw [hhp]; exact vx_Zq.moved hW0.alike (hU.kept hS.2.1)
  have hN' : vx_Zq Bundle.tN "SUPPRESSED_SENTINEL" Bundle.listD A s' s'.heap := by rw [hhp]; exact vx_Zq.moved hW0.alike (hN.kept hS.2.1)
  have h : ∀ w ∈ Bundle.ownAtoms own ic cls names, w.before args s' = true := vx_own hat' (vx_isRefq hU'.1) (vx_isRefq hN'.1) hU'.2.word hN'.2.word
  have hown' : s'.vm.findClass own = some m.cls := by rw [hvm]; exact hown
  have hins : (Cond.instantiable cls 6).before args s' = true := h _ (by simp [Bundle.ownAtoms])
  obtain ⟨vm₁, cX, kX, hfX, hkX, -, -, X₁, st1⟩ := Y.newCold hexec (own := own) (C := cls) (index := ik) (n := 6) hown' hk' hins hini'
    (g := F0 m pc ls rest) rfl (by rw [hb]; exact d0) (Nat.le_refl _) (Nat.le_refl _)
  generalize hT1 : (T.setVm vm₁).pushCell { cls := cX, slots := kX.instanceTypes.map defaultValue, vm := .none } = T1 at X₁ st1
  have hcat : (Value.ref T.heap.size).category = 1 := rfl
  have hcellA : T1.heap[T.heap.size]? = some (freshCell cX kX) := by rw [← hT1]; exact State.heap_pushCell_size _ _
  have d3' : decode c.code (pc + 3) = .ok (.dup, 1) := by rw [hb]; exact d3
  have d4' : decode c.code (pc + 4) = .ok (.ldc_w is, 3) := by rw [hb]; exact d4
  have hstr' : vk_R own is text sa s' := vk_R.warm hW0 hstr
  obtain ⟨U, hsteps, hrun, hend, hW, hsame, ce, hce, hO⟩ := X₁.ctorThrowS hexec htr (own := own) (cls := cls) (names := names) (ic := ic) hown' hcls hnames h (fun x hx => nomatch hx) hfX hkX hcellA (by rw [hhp, hT]; exact Nat.le_refl _) (msg := .ref sa) rfl
    (g := { method := m, pc := pc + 7, locals := ls, stack := .ref sa :: .ref T.heap.size :: .ref T.heap.size :: rest, locked := none }) rfl hsize rfl rfl (rest := rest) rfl
    (by rw [hb]; exact d7) (by rw [hb]; exact d10) hout hRframes (by simp only [List.map_cons, List.sum_cons, hcat]; omega) hlocks
  obtain ⟨f1, f2⟩ := vx_frame hsame
  rw [hhp] at f1 f2
  have hWs : s.WarmedH U.vm := State.WarmedH.trans hW0 hW
  have hcl : s.vm.findClass cls = some ce.cls := by
    have h9 := hO.cls
    rw [hvm] at h9
    exact h9
  have hall : s.sameButNew ({ U with vm := s.vm } : State) locs mc ms := by
    subst hA
    obtain ⟨e1, e2⟩ := hsame
    rw [State.setFrames_setFrames] at e1
    have h2 : (T.setVm s.vm).sameButNew ({ U with vm := s.vm } : State) [] (0 + 1) (0 + 6) := ⟨e1, e2⟩
    have h3 := X.same.trans h2
    rw [List.append_nil] at h3
    exact h3.mono hc hs
  refine ⟨U, ?_, .threw T.heap.size, hrun, hend, Or.inr ⟨T.heap.size, rfl, cls, ce, locs, hx U hWs.alike f1 (fun q hq => f2 q hq (fun z hz => nomatch hz)), hce, hO.vm, hcl, hWs, hall, hf⟩⟩
  refine st1 _ ?_
  show Steps p.tables e below (T1.setTop { method := m, pc := pc + 3, locals := ls, stack := .ref T.heap.size :: rest, locked := none }) _
  jvm_step X₁.here [X₁.here.top, hexec, d3', Value.category]
  exact X₁.ldcStringW hexec (own := own) (text := text) (index := is) (a := sa) hown' hstr'.1 hstr'.2
    (g := { method := m, pc := pc + 4, locals := ls, stack := .ref T.heap.size :: .ref T.heap.size :: rest, locked := none }) rfl d4' _ hsteps
end Ends
section Bodies
variable {l : Launch}
theorem vx_ofW {y : MethodName} {ws ws' : List Cond} {rm : Room} {Pc : Array Value → State → Prop} {Qc : Array Value → State → Outcome → State → Prop} {XC : String → State → State → Prop} {mc ms : Nat} {free : Addr → Prop} {cc : ByteArray} {maxL : Nat} {ret : Option FieldType}
    (hy : plainName y.cls = true) (hw : ws = Cond.code y cc maxL ret :: ws')
    (body : ∀ p e s m args below meth c s₁, BodyLoose p l y (headSpec ws rm) cc maxL ret e s m args below meth c s₁ → c.maxLocals = maxL → (∀ x ∈ c.exceptionTable.toList, False) → Pc args s →
      W p l e (headSpec ws rm).room s m args below meth c s.heap [] 0 0 (vx_MQ below Qc XC args s mc ms free) (entryFrame m args maxL)) : vx_Met l y ws rm Pc Qc XC mc ms free := by
  refine MetFree.of_bodyS (code := cc) (maxLocals := maxL) (ret := ret) hy ?_ ?_
  · intro args s m h hn
    obtain ⟨meth, c, h1, h2, h3, h4, h5, h6, -, -⟩ := Cond.code_spec hn (atoms_spec (ws := ws) h _ (by rw [hw]; exact List.mem_cons_self))
    exact ⟨meth, c, h1, h2, h3, h4, h5, h6⟩
  · intro p e s m args below meth c s₁ B hml hP _
    have hh0 : s₁.heap = s.heap := by rw [B.state]; rfl
    have ht : ∀ x ∈ c.exceptionTable.toList, False := by
      obtain ⟨meth9, c9, h1, h2, -, -, -, -, h7, -⟩ := Cond.code_spec B.named (atoms_spec (ws := ws) B.pre _ (by rw [hw]; exact List.mem_cons_self))
      cases Option.some.inj (h1.symm.trans B.method)
      cases Option.some.inj (h2.symm.trans (Stand.of_body B).code)
      intro x hx
      rw [Array.isEmpty_iff.mp h7] at hx
      cases hx
    obtain ⟨t, a1, o, b1, b2, b3⟩ := body p e s m args below meth c s₁ B hml ht hP s₁ hh0 (Stand.of_body B)
    exact ⟨t, o, a1, b1, b2, b3⟩
/-- the table of a body with handlers -/
theorem vx_table {p : Program} {x y : MethodName} {S : Spec} {cc bytes : ByteArray} {maxL maxL' : Nat} {ret ret' : Option FieldType} {e : Env} {s s₁ : State} {m : MethodId} {args : Array Value} {below : List Frame} {meth : Method} {c : Code} {hh : List (Nat × Nat × Nat × Nat)}
    (B : BodyLoose p l y S cc maxL ret e s m args below meth c s₁) (h : (Cond.codeWith y bytes maxL' ret' hh).before args s = true) : c.exceptionTable.toList = tableOf hh := by
  obtain ⟨m9, meth9, c9, hn9, h1, h2, -, -, h6, -⟩ := Cond.codeWith_spec h
  cases Option.some.inj (hn9.symm.trans B.named)
  cases Option.some.inj (h1.symm.trans B.method)
  cases Option.some.inj (h2.symm.trans (Stand.of_body B).code)
  rw [← h6, table_eq]
end Bodies
end VXA
/-! ===== END ===== -/
/-! ===== BEGIN a static call of a method with an exception table ===== -/
section VXS
variable {p : Program} {l : Launch} {e : Env} {R : Room} {s : State} {m : MethodId} {args : Array Value} {below : List Frame} {meth : Method} {c : Code} {T : State} {H : Heap} {locs : List Loc} {cells slots : Nat}
abbrev vx_CSW (R : Room) (s : State) (args : Array Value) (own : String) (index : Nat) (y : MethodName) (bytes : ByteArray) (maxL : Nat) (ret : Option FieldType) (hh : List (Nat × Nat × Nat × Nat)) (ws : List Cond) (rm : Room) (mc ms n : Nat) : Prop :=
  (rm.cells = mc ∧ rm.slots = ms ∧ rm.frames + 1 ≤ R.frames ∧ 8 + (maxL + 11) + rm.locals ≤ R.locals ∧ (∀ w ∈ ws, ∀ (a' : Array Value) (U : State), s.WarmedH U.vm → w.before a' U = true) ∧ Cond.codeWith y bytes maxL ret hh ∈ ws) ∧
  (Cond.codeWith y bytes maxL ret hh).before args s = true ∧ (Cond.initialized y.cls).before args s = true ∧ (y.cls ≠ "java/lang/invoke/MethodHandle" ∧ y.cls ≠ "java/lang/invoke/VarHandle") ∧
  (∀ sig, parseMethodDescriptor y.desc = some sig → n = sig.parameters.length) ∧ (Cond.methodLink own index y).before args s = true ∧ (Cond.static y).before args s = true
theorem vx_cwSW {own : String} {index maxL mc ms : Nat} {y : MethodName} {bytes : ByteArray} {ret : Option FieldType} {hh : List (Nat × Nat × Nat × Nat)} {Ts ws ws' : List Cond} {rm : Room} (n : Nat) (ht : ∀ w ∈ Ts, w.before args s = true) (hT : GoodIn Ts (va_wsS own index y ws)) (hw : ws = Cond.codeWith y bytes maxL ret hh :: ws') (hrc : rm.cells = mc) (hrs : rm.slots = ms)
    (hd : y.cls ≠ "java/lang/invoke/MethodHandle" ∧ y.cls ≠ "java/lang/invoke/VarHandle" ∧ (parseMethodDescriptor y.desc).map (fun d => d.parameters.length) = some n) (hR : rm.frames + 1 ≤ R.frames ∧ 8 + (maxL + 11) + rm.locals ≤ R.locals) :
    vx_CSW R s args own index y bytes maxL ret hh ws rm mc ms n := by
  have ok : ∀ w ∈ va_wsS own index y ws, w.before args s = true := fun w h => ht w (hT w h).1
  have hG : GoodIn Ts ws := fun w h => hT w (by unfold va_wsS; exact List.mem_append_right _ h)
  have hc : Cond.codeWith y bytes maxL ret hh ∈ ws := by rw [hw]; exact List.mem_cons_self
  refine ⟨⟨hrc, hrs, hR.1, hR.2, pay_in ht hG, hc⟩, ht _ (hG _ hc).1, ok _ (by simp [va_wsS]), ⟨hd.1, hd.2.1⟩, fun sig h => ?_, ok _ (by simp [va_wsS]), ok _ (by simp [va_wsS])⟩
  have h2 := hd.2.2
  rw [h] at h2
  exact (Option.some.inj h2).symm
theorem vx_callSW (X : Stand p l e R s m args below meth c T locs cells slots) (hexec : p.tables.exec = Jvm.exec) {own : String} {index : Nat} {y : MethodName} {bytes : ByteArray} {maxL : Nat} {ret : Option FieldType} {hh : List (Nat × Nat × Nat × Nat)}
    (hown : s.vm.findClass own = some m.cls) (hlink : (Cond.methodLink own index y).before args s = true) (hstat : (Cond.static y).before args s = true) (hinit : (Cond.initialized y.cls).before args s = true)
    (hcode : (Cond.codeWith y bytes maxL ret hh).before args s = true) (hy : y.cls ≠ "java/lang/invoke/MethodHandle" ∧ y.cls ≠ "java/lang/invoke/VarHandle")
    {W9 : Nat} {Pre : Pt → Array Value → Prop} {Post : Pt → Array Value → Option Value → Pt → Prop} (hK : Back l R p e below s args y 3 W9 Pre Post)
    {g : JFrame} (hg : g.method = m) (hsize : g.locals.size = c.maxLocals) {argsL rest : List Value} (hlen : ∀ sig, parseMethodDescriptor y.desc = some sig → argsL.length = sig.parameters.length)
    (hstack : g.stack = argsL.reverse ++ rest) (hW : 2 * g.monitorRoom + (rest.map fun v => v.category).sum ≤ W9) (hdg : decode c.code g.pc = .ok (.invokestatic index, 3))
    (hpre : ∀ vm₁, s.WarmedH vm₁ → Pre ⟨T.setVm vm₁, locs, cells, slots⟩ argsL.toArray) :
    ∃ (v : Option Value) (vm₁ : Vm) (B : Pt), s.WarmedH vm₁ ∧ Stand p l e R s m args below meth c B.U B.locs B.cells B.slots ∧ Post ⟨T.setVm vm₁, locs, cells, slots⟩ argsL.toArray v B ∧
      ∀ target, Steps p.tables e below (B.U.setTop { g with pc := g.pc + 3, stack := v.toList ++ rest }) target → Steps p.tables e below (T.setTop g) target := by
  obtain ⟨mk, methM, cM, hnamed, hmethM, -, -, -, -, -, -, hsigM⟩ := Cond.codeWith_spec hcode
  have hstatic : methM.isStatic = true := Cond.static_spec hnamed hmethM hstat
  obtain ⟨kP, hkP, -⟩ := className_of_methodNamed hnamed
  have hinitP : kP.init = .initialized := Cond.initialized_spec (findClass_of_methodNamed hnamed) hkP hinit
  obtain ⟨vm₁, X₁, hstep₁⟩ := X.invokestatic hexec hown hlink hnamed hmethM hstatic hkP hinitP hy (g := g) hg (argsL := argsL) (rest := rest) (hlen _ hsigM) hstack hdg
  obtain ⟨v, B, X', hpost, hsteps⟩ := hK m meth c ⟨T.setVm vm₁, locs, cells, slots⟩ { g with stack := rest } (.invokestatic index) mk argsL.toArray X₁ hg hsize hdg hW (X₁.named hnamed) (hpre vm₁ X₁.warmed)
  exact ⟨v, vm₁, B, X₁.warmed, X', hpost, fun target h => hstep₁ _ fun acts => by rw [doInvoke_state]; exact hsteps.trans h⟩
theorem vx_runSW {y : MethodName} {bytes cc : ByteArray} {maxL nL mc ms n index : Nat} {ret : Option FieldType} {hh : List (Nat × Nat × Nat × Nat)} {ws : List Cond} {rm : Room} {Pc : Array Value → State → Prop} {Qc : Array Value → State → Outcome → State → Prop} {free : Addr → Prop} {Ts : List Cond} {own : String} {As rest : List Value} {g : JFrame}
    (S : CallFix p m c cc nL s args Ts own) (hM : Met l y ws rm Pc Qc mc ms free) (cw : vx_CSW R s args own index y bytes maxL ret hh ws rm mc ms n) (hp : PreS s H Pc As)
    (hg : g.method = m) (hn : As.length = n) (hsize : g.locals.size = nL) (hstack : g.stack = As.reverse ++ rest) (hW : 2 * g.monitorRoom + (rest.map fun v => v.category).sum ≤ 8) (hdg : decode cc g.pc = .ok (.invokestatic index, 3)) (hf : cells + mc ≤ R.cells ∧ slots + ms ≤ R.slots) :
    va_Run p l e R s m args below meth c H locs cells slots mc ms g rest (Qc As.toArray) (free) := by
  obtain ⟨⟨hrc, hrs, hfr, hlo, hws, hcw⟩, hcode, hini, hy, hlen, hl, hstt⟩ := cw
  have hK : Back l R p e below s args y 3 8 (PreOf R mc ms Pc) (PostOf Qc mc ms free) := va_backW (hh := hh) (bytes := bytes) (maxL := maxL) (ret := ret) hM hp.1 hrc hrs hfr hlo hws hcw (fun a' U hW => word_at hW (Or.inl (by first | rfl | simp [Cond.onTables, Cond.keeps, Cond.steady])) hini)
  obtain ⟨hx, hb, hml, ho, -⟩ := S
  intro T hT X
  obtain ⟨v, vm₁, ⟨U', l2, c2, s2⟩, hW₁, X', ⟨g', mk, t, L, e1, e2, hq, h1, hL, h2, h3⟩, st⟩ := vx_callSW X hx (hh := hh) (bytes := bytes) (maxL := maxL) (ret := ret) ho hl hstt hini hcode hy hK hg (hsize.trans hml.symm) (argsL := As) (rest := rest) (fun sig h => hn.trans (hlen sig h)) hstack hW (by rw [hb]; exact hdg)
    (fun vm₁ hW₁ => ⟨hf.1, hf.2, hp.2 (T.setVm vm₁) hT hW₁⟩)
  dsimp only [Pt.U, Pt.locs, Pt.cells, Pt.slots] at X' e1 e2 h1 h2 h3 st
  subst h1; subst h2; subst h3
  exact ⟨v, (T.setVm vm₁).calling g' mk As.toArray, t, U', L, hT, X', hL, e1, e2, hq, st⟩
/-- not caught here, past rows that name other classes: it goes on to the caller -/
theorem vx_outP {p : Program} {l : Launch} {e : Env} {R : Room} {s : State} {m : MethodId} {args : Array Value} {below : List Frame} {meth : Method} {c : Code} {H : Heap} {locs : List Loc} {cells slots : Nat} {free : Addr → Prop} {ls : Array Slot} {rest : List Value} {Qc : Array Value → State → Outcome → State → Prop} {XC : String → State → State → Prop}
    {pc : Nat} {own E : String} {ce : Cell} {q : Addr} {mc ms : Nat} (hown : s.vm.findClass own = some m.cls) (hlocks : meth.locks = false)
    (hpass : ∀ z ∈ c.exceptionTable.toList, covers z pc = false ∨ (z.catchType ≠ 0 ∧ ∃ nm : String, (Cond.classLink own z.catchType nm).before args s = true ∧ va_Nc E nm s)) (hcell : H[q]? = some ce) (hv : ce.vm = .none) (hcl : s.vm.findClass E = some ce.cls)
    (hx : ∀ t : State, t.heap = H → s.vm.Alike t.vm → XC E s t) (hf : ∀ z ∈ locs, free z.base) (hc : cells ≤ mc) (hs : slots ≤ ms) :
    vx_W p l e R s m args below meth c H locs cells slots (vx_MQ below Qc XC args s mc ms free) (F0 m pc ls rest) q := by
  intro T hT X
  have hpl : e.platform.magicAccessors = ({} : Platform).magicAccessors := by rw [X.admits.platform]
  obtain ⟨vm', hW', X', st⟩ := X.outThrough hlocks q (g := F0 m pc ls rest) rfl rfl rfl (cell := ce) (by rw [hT]; exact hcell) (by rw [hv]; rfl)
    (by obtain ⟨k9, h9, -⟩ := Vm.findClass_spec hcl; exact ⟨k9, h9⟩) (fun z hz => by
      rcases hpass z hz with h | ⟨hz0, nm, hl1, hn1⟩
      · exact Or.inl h
      · obtain ⟨c6, hc6, hcl6⟩ := Cond.classLink_spec hown hl1 e.platform hpl
        obtain ⟨a8, b8, h1, h2, h3⟩ := hn1
        cases Option.some.inj (h1.symm.trans hcl)
        cases Option.some.inj (h2.symm.trans hc6)
        exact Or.inr ⟨hz0, _, hcl6, h3⟩)
  obtain ⟨g₀, hfr⟩ := X'.frames_eq
  have hcell9 : ((T.setVm vm').setFrames (.throwing q :: below)).heap[q]? = some ce := by
    show T.heap[q]? = some ce
    rw [hT]; exact hcell
  have hend : Ended ((T.setVm vm').setFrames (.throwing q :: below)) below (.threw q) := State.frames_setFrames _ (State.cur_lt_of_frames hfr)
  refine ⟨(T.setVm vm').setFrames (.throwing q :: below), ?_, .threw q, X'.here.running, hend, Or.inr ⟨q, rfl, E, ce, locs, hx _ hT (X'.ends _).1.alike, hcell9, hv, hcl, (X'.ends _).1, (X'.ends _).2.mono hc hs, hf⟩⟩
  rw [X.pushThrowing_eq]
  exact st
/-- a thing of a world lies in the heap -/
theorem vx_lt {D : va_G} {cl : List vw_C} {ws : va_W} {H1 : Heap} (h : va_P D cl ws H1) {k : Nat} {q : Nat × va_E} (hk : ws[k]? = some q) : q.1 < H1.size := (h k q hk).lt
end VXS
/-! ===== END ===== -/
/-! ===== BEGIN methods with a table of their own: called by a name, returning or throwing ===== -/
section VXH
/-! vx_backW, vx_callVX, vx_callSX, vx_callVW, vx_runVW, vx_runVX, vx_runSX, vx_ofWH follow the same proofs as their sisters above (Free/Laws.lean, Shelf42/LK1.lean); vx_outP calls Shelf42/NT130.lean (outThrough). -/
section
variable {l : Launch} {R : Room} {p : Program} {e : Env} {below : List Frame} {s : State} {sargs : Array Value} {y : MethodName} {len W9 : Nat}
theorem vx_backW {ws : List Cond} {rm : Room} {Pc : Array Value → State → Prop} {Qc : Array Value → State → Outcome → State → Prop} {XC : String → State → State → Prop} {mc ms : Nat} {free : Addr → Prop} {bytes : ByteArray} {maxL : Nat} {ret : Option FieldType} {hh : List (Nat × Nat × Nat × Nat)}
    (hM : vx_Met l y ws rm Pc Qc XC mc ms free) (hblind : FrameBlind Pc) (hrc : rm.cells = mc) (hrs : rm.slots = ms)
    (hframes : rm.frames + 1 ≤ R.frames) (hlocals : W9 + (maxL + 11) + rm.locals ≤ R.locals)
    (hws : ∀ w ∈ ws, ∀ a' U, s.WarmedH U.vm → w.before a' U = true) (hcode : Cond.codeWith y bytes maxL ret hh ∈ ws) (hinit : ∀ a' U, s.WarmedH U.vm → (Cond.initialized y.cls).before a' U = true) :
    vx_Back l R p e below s sargs y len W9 (PreOf R mc ms Pc) (PostOf Qc mc ms free) (vx_Post XC mc ms free) := by
  intro m meth c A g ig mk a X hg hsize hdg hW hn hp
  have h1 : (headSpec ws rm).pre.before a A.U = true := atoms_intro fun w hw => hws w hw _ _ X.warmed
  have h2 : (Cond.codeWith y bytes maxL ret hh).before a A.U = true := hws _ hcode _ _ X.warmed
  have h3 : (Cond.initialized y.cls).before a A.U = true := hinit _ _ X.warmed
  have h4 : A.cells + (headSpec ws rm).room.cells ≤ R.cells := by rw [show (headSpec ws rm).room.cells = mc from hrc]; exact hp.1
  have h5 : A.slots + (headSpec ws rm).room.slots ≤ R.slots := by rw [show (headSpec ws rm).room.slots = ms from hrs]; exact hp.2.1
  have hPc : Pc a (A.U.calling g mk a) := hblind _ _ _ _ hp.2.2
  obtain ⟨U, Ls, c0, s0⟩ := A
  dsimp only [Pt.U, Pt.locs, Pt.cells, Pt.slots] at h1 h2 h3 h4 h5 X hn hPc ⊢
  obtain ⟨m9, methY, cY, hn9, hmY, hcY, -, hlY, -⟩ := Cond.codeWith_spec h2
  cases Option.some.inj (hn9.symm.trans hn)
  obtain ⟨kY, hkY, -⟩ := className_of_methodNamed hn
  have hinitY : kY.init = .initialized := Cond.initialized_spec (findClass_of_methodNamed hn) hkY h3
  have h : At U g.method c below := by rw [hg]; exact X.here
  have hlocals9 : W9 + (maxL + 11) + (headSpec ws rm).room.locals ≤ R.locals := hlocals
  have happ : (headSpec ws rm).appliesLoose y e.platform (U.calling g mk a) = true :=
    Spec.appliesLoose_calling (g := g) h hdg hn hkY hinitY
      (X.room_calling (g := g) (R' := (headSpec ws rm).room) hsize hmY hcY hframes (by rw [hlY]; omega) h4 h5) h1
  obtain ⟨mid, hmid⟩ := h.above
  have hfr : (U.setTop g).frames = (.java g :: mid) ++ below := by rw [State.frames_setTop' g h.top, hmid]; rfl
  obtain ⟨o, s₂, hsteps, -, hend, hq⟩ := Steps.callFree hM p X.admits X.cas X.clock (acts := []) hfr happ hPc trivial
  have hq' : vx_Q Qc XC mc ms free a (U.calling g mk a) o s₂ := hq
  rw [State.frames_setTop' g h.top] at hend
  obtain ⟨g₀, hg0⟩ := Option.isSome_iff_exists.mp h.top
  obtain ⟨r, hr⟩ := State.topJava?_eq_some.mp hg0
  have hr' : (({ U with heap := s₂.heap, slotsUsed := s₂.slotsUsed } : State).setVm s₂.vm).frames = .java g₀ :: r := hr
  rcases hq' with ⟨hqc, L, hfe, hL⟩ | ⟨q, rfl, E, ce, L, hx, hce, hcv, hcl, hW₂, hsm, hL⟩
  · obtain ⟨⟨v, rfl⟩, hW₂, e2, q2, q3, q4, q5, q6⟩ := id hfe
    have e3 : s₂ = ({ (U.calling g mk a).setFrames s₂.frames with heap := s₂.heap, slotsUsed := s₂.slotsUsed } : State).setVm s₂.vm := by
      have : s₂ = ({ s₂ with vm := (U.calling g mk a).vm } : State).setVm s₂.vm := rfl
      rw [e2] at this
      exact this
    obtain ⟨c₂, i₂, len₂, hc₂, hd₂, hf₂⟩ := hend
    have hW' : U.WarmedH s₂.vm := hW₂
    have hcc : c₂ = c := by
      have h1 : s₂.code? g.method = U.code? g.method := by
        rw [State.code?_eq, State.code?_eq, hW'.alike.method?]
      exact Option.some.inj (hc₂.symm.trans (h1.trans h.code))
    subst hcc
    have hlen : len₂ = len := by rw [hdg] at hd₂; cases hd₂; rfl
    subst hlen
    have hs₂ : s₂ = (({ U with heap := s₂.heap, slotsUsed := s₂.slotsUsed } : State).setVm s₂.vm).setTop { g with pc := g.pc + len₂, stack := v.toList ++ g.stack } := by
      refine e3.trans ?_
      rw [hf₂, State.calling_eq h.top, State.setFrames_setFrames, State.setTop_of_frames _ hr', hr]
      rfl
    have hsame : U.sameButNew ({ U with heap := s₂.heap, slotsUsed := s₂.slotsUsed } : State) L mc ms := by
      refine ⟨?_, q2, q3, q4, q5, q6⟩
      obtain ⟨t, ht, -⟩ := State.frames_cons hr
      show ({ U with heap := s₂.heap, slotsUsed := s₂.slotsUsed } : State) = { U.setFrames U.frames with heap := s₂.heap, slotsUsed := s₂.slotsUsed }
      rw [State.setFrames_self ht]
    subst hg
    refine Or.inl ⟨v, ⟨(({ U with heap := s₂.heap, slotsUsed := s₂.slotsUsed } : State).setVm s₂.vm), Ls ++ L, c0 + mc, s0 + ms⟩,
      ⟨X.admits, X.cas, X.clock, X.frames, X.room, X.hears, X.method, X.code, (X.here.setHeapUsed s₂.heap s₂.slotsUsed).setVm hW'.alike, X.tail, State.WarmedH.trans X.warmed hW', X.limits, X.bytes, X.same.trans (hsame.setVm s.vm)⟩,
      ⟨g, mk, s₂, L, rfl, rfl, hqc, rfl, hL, rfl, rfl⟩, ?_⟩
    show Steps p.tables e below _ ((({ U with heap := s₂.heap, slotsUsed := s₂.slotsUsed } : State).setVm s₂.vm).setTop { g with pc := g.pc + len₂, stack := v.toList ++ g.stack })
    rw [← hs₂]
    exact hsteps
  · obtain ⟨e2, q2, q3, q4, q5, q6⟩ := id hsm
    have e3 : s₂ = ({ (U.calling g mk a).setFrames s₂.frames with heap := s₂.heap, slotsUsed := s₂.slotsUsed } : State).setVm s₂.vm := by
      have : s₂ = ({ s₂ with vm := (U.calling g mk a).vm } : State).setVm s₂.vm := rfl
      rw [e2] at this
      exact this
    have hf₂ : s₂.frames = .throwing q :: .java g :: U.frames.tail := hend
    have hW' : U.WarmedH s₂.vm := hW₂
    have hs₂ : s₂ = ((({ U with heap := s₂.heap, slotsUsed := s₂.slotsUsed } : State).setVm s₂.vm).setTop g).pushFrame (.throwing q) := by
      refine e3.trans ?_
      rw [hf₂, State.calling_eq h.top, State.setFrames_setFrames, State.pushFrame, State.frames_setTop _ hr', State.setTop_of_frames _ hr', State.setFrames_setFrames, hr]
      rfl
    have hsame : U.sameButNew ({ U with heap := s₂.heap, slotsUsed := s₂.slotsUsed } : State) L mc ms := by
      refine ⟨?_, q2, q3, q4, q5, q6⟩
      obtain ⟨t, ht, -⟩ := State.frames_cons hr
      show ({ U with heap := s₂.heap, slotsUsed := s₂.slotsUsed } : State) = { U.setFrames U.frames with heap := s₂.heap, slotsUsed := s₂.slotsUsed }
      rw [State.setFrames_self ht]
    subst hg
    refine Or.inr ⟨q, ⟨(({ U with heap := s₂.heap, slotsUsed := s₂.slotsUsed } : State).setVm s₂.vm), Ls ++ L, c0 + mc, s0 + ms⟩,
      ⟨X.admits, X.cas, X.clock, X.frames, X.room, X.hears, X.method, X.code, (X.here.setHeapUsed s₂.heap s₂.slotsUsed).setVm hW'.alike, X.tail, State.WarmedH.trans X.warmed hW', X.limits, X.bytes, X.same.trans (hsame.setVm s.vm)⟩,
      ⟨g, mk, s₂, L, E, ce, rfl, rfl, hx, hce, hcv, hcl, rfl, hL, rfl, rfl⟩, ?_⟩
    show Steps p.tables e below _ (((({ U with heap := s₂.heap, slotsUsed := s₂.slotsUsed } : State).setVm s₂.vm).setTop g).pushFrame (.throwing q))
    rw [← hs₂]
    exact hsteps
end
variable {p : Program} {l : Launch} {e : Env} {R : Room} {s : State} {m : MethodId} {args : Array Value} {below : List Frame} {meth : Method} {c : Code} {T : State} {H : Heap} {locs : List Loc} {cells slots : Nat}
theorem vx_callVX (X : Stand p l e R s m args below meth c T locs cells slots) (hexec : p.tables.exec = Jvm.exec) {own C : String} {index : Nat} {y : MethodName} {bytes : ByteArray} {maxL : Nat} {ret : Option FieldType} {hh : List (Nat × Nat × Nat × Nat)}
    (hown : s.vm.findClass own = some m.cls) (hlink : (Cond.methodLink own index y).before args s = true) (hinst : (Cond.instanceMethod y).before args s = true) (hsel : (Cond.selects C y y).before args s = true)
    (hcode : (Cond.codeWith y bytes maxL ret hh).before args s = true) (hy : y.cls ≠ "java/lang/invoke/MethodHandle" ∧ y.cls ≠ "java/lang/invoke/VarHandle")
    {W9 : Nat} {Pre : Pt → Array Value → Prop} {Post : Pt → Array Value → Option Value → Pt → Prop} {PostX : Pt → Array Value → Addr → Pt → Prop} (hK : vx_Back l R p e below s args y 3 W9 Pre Post PostX)
    {b : Addr} {cellB : Cell} (hcell : T.heap[b]? = some cellB) (hobj : cellB.vm.isStatics = false) (hcls : s.vm.findClass C = some cellB.cls)
    {g : JFrame} (hg : g.method = m) (hsize : g.locals.size = c.maxLocals) {argsL rest : List Value} (hlen : ∀ sig, parseMethodDescriptor y.desc = some sig → argsL.length = sig.parameters.length)
    (hstack : g.stack = argsL.reverse ++ .ref b :: rest) (hW : 2 * g.monitorRoom + (rest.map fun v => v.category).sum ≤ W9) (hdg : decode c.code g.pc = .ok (.invokevirtual index, 3))
    (hpre : ∀ vm₁, s.WarmedH vm₁ → Pre ⟨T.setVm vm₁, locs, cells, slots⟩ (Value.ref b :: argsL).toArray) :
    (∃ (v : Option Value) (vm₁ : Vm) (B : Pt), s.WarmedH vm₁ ∧ Stand p l e R s m args below meth c B.U B.locs B.cells B.slots ∧ Post ⟨T.setVm vm₁, locs, cells, slots⟩ (Value.ref b :: argsL).toArray v B ∧
      ∀ target, Steps p.tables e below (B.U.setTop { g with pc := g.pc + 3, stack := v.toList ++ rest }) target → Steps p.tables e below (T.setTop g) target) ∨
    (∃ (q : Addr) (vm₁ : Vm) (B : Pt), s.WarmedH vm₁ ∧ Stand p l e R s m args below meth c B.U B.locs B.cells B.slots ∧ PostX ⟨T.setVm vm₁, locs, cells, slots⟩ (Value.ref b :: argsL).toArray q B ∧
      Steps p.tables e below (T.setTop g) ((B.U.setTop { g with stack := rest }).pushFrame (.throwing q))) := by
  obtain ⟨mk, methM, hnamed, hmethM, hstM, habM⟩ := Cond.instanceMethod_spec hinst
  obtain ⟨m8, methM', cM, hn8, hmethM', -, -, -, -, -, -, hsigM⟩ := Cond.codeWith_spec hcode
  cases Option.some.inj (hn8.symm.trans hnamed)
  cases hmethM.symm.trans hmethM'
  obtain ⟨c2, r2, m2, q1, q2, q3, q4, kP, hkP, hkPi⟩ := Cond.selects_spec hsel
  cases hcls.symm.trans q1
  cases (State.methodFound?_of_named hnamed hy).symm.trans q2
  cases hnamed.symm.trans q3
  have hselP : selectMethod e.platform s.vm cellB.cls mk = .method mk := by rw [Launch.admits_selectMethod X.admits]; exact q4
  obtain ⟨vm₁, X₁, hstep₁⟩ := X.invokevirtual hexec hown hlink hnamed hmethM hstM hkP hkPi hy (a := b) (cell := cellB) hcell
    (fun z h => by rw [h] at hobj; cases hobj) hselP hmethM habM hkP hkPi (g := g) hg (argsL := argsL) (rest := rest) (hlen _ hsigM) hstack hdg
  rcases hK m meth c ⟨T.setVm vm₁, locs, cells, slots⟩ { g with stack := rest } (.invokevirtual index) mk (Value.ref b :: argsL).toArray X₁ hg hsize hdg hW (X₁.named hnamed) (hpre vm₁ X₁.warmed) with ⟨v, B, X', hpost, hsteps⟩ | ⟨q, B, X', hpost, hsteps⟩
  · exact Or.inl ⟨v, vm₁, B, X₁.warmed, X', hpost, fun target h => hstep₁ _ fun acts => by rw [doInvoke_state]; exact hsteps.trans h⟩
  · exact Or.inr ⟨q, vm₁, B, X₁.warmed, X', hpost, hstep₁ _ fun acts => by rw [doInvoke_state]; exact hsteps⟩
theorem vx_callSX (X : Stand p l e R s m args below meth c T locs cells slots) (hexec : p.tables.exec = Jvm.exec) {own : String} {index : Nat} {y : MethodName} {bytes : ByteArray} {maxL : Nat} {ret : Option FieldType} {hh : List (Nat × Nat × Nat × Nat)}
    (hown : s.vm.findClass own = some m.cls) (hlink : (Cond.methodLink own index y).before args s = true) (hstat : (Cond.static y).before args s = true) (hinit : (Cond.initialized y.cls).before args s = true)
    (hcode : (Cond.codeWith y bytes maxL ret hh).before args s = true) (hy : y.cls ≠ "java/lang/invoke/MethodHandle" ∧ y.cls ≠ "java/lang/invoke/VarHandle")
    {W9 : Nat} {Pre : Pt → Array Value → Prop} {Post : Pt → Array Value → Option Value → Pt → Prop} {PostX : Pt → Array Value → Addr → Pt → Prop} (hK : vx_Back l R p e below s args y 3 W9 Pre Post PostX)
    {g : JFrame} (hg : g.method = m) (hsize : g.locals.size = c.maxLocals) {argsL rest : List Value} (hlen : ∀ sig, parseMethodDescriptor y.desc = some sig → argsL.length = sig.parameters.length)
    (hstack : g.stack = argsL.reverse ++ rest) (hW : 2 * g.monitorRoom + (rest.map fun v => v.category).sum ≤ W9) (hdg : decode c.code g.pc = .ok (.invokestatic index, 3))
    (hpre : ∀ vm₁, s.WarmedH vm₁ → Pre ⟨T.setVm vm₁, locs, cells, slots⟩ argsL.toArray) :
    (∃ (v : Option Value) (vm₁ : Vm) (B : Pt), s.WarmedH vm₁ ∧ Stand p l e R s m args below meth c B.U B.locs B.cells B.slots ∧ Post ⟨T.setVm vm₁, locs, cells, slots⟩ argsL.toArray v B ∧
      ∀ target, Steps p.tables e below (B.U.setTop { g with pc := g.pc + 3, stack := v.toList ++ rest }) target → Steps p.tables e below (T.setTop g) target) ∨
    (∃ (q : Addr) (vm₁ : Vm) (B : Pt), s.WarmedH vm₁ ∧ Stand p l e R s m args below meth c B.U B.locs B.cells B.slots ∧ PostX ⟨T.setVm vm₁, locs, cells, slots⟩ argsL.toArray q B ∧
      Steps p.tables e below (T.setTop g) ((B.U.setTop { g with stack := rest }).pushFrame (.throwing q))) := by
  obtain ⟨mk, methM, cM, hnamed, hmethM, -, -, -, -, -, -, hsigM⟩ := Cond.codeWith_spec hcode
  have hstatic : methM.isStatic = true := Cond.static_spec hnamed hmethM hstat
  obtain ⟨kP, hkP, -⟩ := className_of_methodNamed hnamed
  have hinitP : kP.init = .initialized := Cond.initialized_spec (findClass_of_methodNamed hnamed) hkP hinit
  obtain ⟨vm₁, X₁, hstep₁⟩ := X.invokestatic hexec hown hlink hnamed hmethM hstatic hkP hinitP hy (g := g) hg (argsL := argsL) (rest := rest) (hlen _ hsigM) hstack hdg
  rcases hK m meth c ⟨T.setVm vm₁, locs, cells, slots⟩ { g with stack := rest } (.invokestatic index) mk argsL.toArray X₁ hg hsize hdg hW (X₁.named hnamed) (hpre vm₁ X₁.warmed) with ⟨v, B, X', hpost, hsteps⟩ | ⟨q, B, X', hpost, hsteps⟩
  · exact Or.inl ⟨v, vm₁, B, X₁.warmed, X', hpost, fun target h => hstep₁ _ fun acts => by rw [doInvoke_state]; exact hsteps.trans h⟩
  · exact Or.inr ⟨q, vm₁, B, X₁.warmed, X', hpost, hstep₁ _ fun acts => by rw [doInvoke_state]; exact hsteps⟩
theorem vx_callVW (X : Stand p l e R s m args below meth c T locs cells slots) (hexec : p.tables.exec = Jvm.exec) {own C : String} {index : Nat} {y : MethodName} {bytes : ByteArray} {maxL : Nat} {ret : Option FieldType} {hh : List (Nat × Nat × Nat × Nat)}
    (hown : s.vm.findClass own = some m.cls) (hlink : (Cond.methodLink own index y).before args s = true) (hinst : (Cond.instanceMethod y).before args s = true) (hsel : (Cond.selects C y y).before args s = true)
    (hcode : (Cond.codeWith y bytes maxL ret hh).before args s = true) (hy : y.cls ≠ "java/lang/invoke/MethodHandle" ∧ y.cls ≠ "java/lang/invoke/VarHandle")
    {W9 : Nat} {Pre : Pt → Array Value → Prop} {Post : Pt → Array Value → Option Value → Pt → Prop} (hK : Back l R p e below s args y 3 W9 Pre Post)
    {b : Addr} {cellB : Cell} (hcell : T.heap[b]? = some cellB) (hobj : cellB.vm.isStatics = false) (hcls : s.vm.findClass C = some cellB.cls)
    {g : JFrame} (hg : g.method = m) (hsize : g.locals.size = c.maxLocals) {argsL rest : List Value} (hlen : ∀ sig, parseMethodDescriptor y.desc = some sig → argsL.length = sig.parameters.length)
    (hstack : g.stack = argsL.reverse ++ .ref b :: rest) (hW : 2 * g.monitorRoom + (rest.map fun v => v.category).sum ≤ W9) (hdg : decode c.code g.pc = .ok (.invokevirtual index, 3))
    (hpre : ∀ vm₁, s.WarmedH vm₁ → Pre ⟨T.setVm vm₁, locs, cells, slots⟩ (Value.ref b :: argsL).toArray) :
    ∃ (v : Option Value) (vm₁ : Vm) (B : Pt), s.WarmedH vm₁ ∧ Stand p l e R s m args below meth c B.U B.locs B.cells B.slots ∧ Post ⟨T.setVm vm₁, locs, cells, slots⟩ (Value.ref b :: argsL).toArray v B ∧
      ∀ target, Steps p.tables e below (B.U.setTop { g with pc := g.pc + 3, stack := v.toList ++ rest }) target → Steps p.tables e below (T.setTop g) target := by
  obtain ⟨mk, methM, hnamed, hmethM, hstM, habM⟩ := Cond.instanceMethod_spec hinst
  obtain ⟨m8, methM', cM, hn8, hmethM', -, -, -, -, -, -, hsigM⟩ := Cond.codeWith_spec hcode
  cases Option.some.inj (hn8.symm.trans hnamed)
  cases hmethM.symm.trans hmethM'
  obtain ⟨c2, r2, m2, q1, q2, q3, q4, kP, hkP, hkPi⟩ := Cond.selects_spec hsel
  cases hcls.symm.trans q1
  cases (State.methodFound?_of_named hnamed hy).symm.trans q2
  cases hnamed.symm.trans q3
  have hselP : selectMethod e.platform s.vm cellB.cls mk = .method mk := by rw [Launch.admits_selectMethod X.admits]; exact q4
  obtain ⟨vm₁, X₁, hstep₁⟩ := X.invokevirtual hexec hown hlink hnamed hmethM hstM hkP hkPi hy (a := b) (cell := cellB) hcell
    (fun z h => by rw [h] at hobj; cases hobj) hselP hmethM habM hkP hkPi (g := g) hg (argsL := argsL) (rest := rest) (hlen _ hsigM) hstack hdg
  obtain ⟨v, B, X', hpost, hsteps⟩ := hK m meth c ⟨T.setVm vm₁, locs, cells, slots⟩ { g with stack := rest } (.invokevirtual index) mk (Value.ref b :: argsL).toArray X₁ hg hsize hdg hW (X₁.named hnamed) (hpre vm₁ X₁.warmed)
  exact ⟨v, vm₁, B, X₁.warmed, X', hpost, fun target h => hstep₁ _ fun acts => by rw [doInvoke_state]; exact hsteps.trans h⟩
abbrev vx_CVW (R : Room) (s : State) (args : Array Value) (own C : String) (index : Nat) (y : MethodName) (bytes : ByteArray) (maxL : Nat) (ret : Option FieldType) (hh : List (Nat × Nat × Nat × Nat)) (ws : List Cond) (rm : Room) (mc ms n : Nat) : Prop :=
  (rm.cells = mc ∧ rm.slots = ms ∧ rm.frames + 1 ≤ R.frames ∧ 8 + (maxL + 11) + rm.locals ≤ R.locals ∧ (∀ w ∈ ws, ∀ (a' : Array Value) (U : State), s.WarmedH U.vm → w.before a' U = true) ∧ Cond.codeWith y bytes maxL ret hh ∈ ws) ∧
  (Cond.codeWith y bytes maxL ret hh).before args s = true ∧ (Cond.initialized y.cls).before args s = true ∧ (y.cls ≠ "java/lang/invoke/MethodHandle" ∧ y.cls ≠ "java/lang/invoke/VarHandle") ∧
  (∀ sig, parseMethodDescriptor y.desc = some sig → n = sig.parameters.length) ∧ (Cond.methodLink own index y).before args s = true ∧ (Cond.instanceMethod y).before args s = true ∧ (Cond.selects C y y).before args s = true
theorem vx_cwVW {own C : String} {index maxL mc ms : Nat} {y : MethodName} {bytes : ByteArray} {ret : Option FieldType} {hh : List (Nat × Nat × Nat × Nat)} {Ts ws ws' : List Cond} {rm : Room} (n : Nat) (ht : ∀ w ∈ Ts, w.before args s = true) (hT : GoodIn Ts (wsV own index C y ws)) (hw : ws = Cond.codeWith y bytes maxL ret hh :: ws') (hrc : rm.cells = mc) (hrs : rm.slots = ms)
    (hd : y.cls = C ∧ y.cls ≠ "java/lang/invoke/MethodHandle" ∧ y.cls ≠ "java/lang/invoke/VarHandle" ∧ (parseMethodDescriptor y.desc).map (fun d => d.parameters.length) = some n) (hR : rm.frames + 1 ≤ R.frames ∧ 8 + (maxL + 11) + rm.locals ≤ R.locals) :
    vx_CVW R s args own C index y bytes maxL ret hh ws rm mc ms n := by
  obtain ⟨hC, hd⟩ := hd
  subst hC
  have ok : ∀ w ∈ wsV own index y.cls y ws, w.before args s = true := fun w h => ht w (hT w h).1
  have hG : GoodIn Ts ws := fun w h => hT w (by unfold wsV; exact List.mem_append_right _ h)
  have hc : Cond.codeWith y bytes maxL ret hh ∈ ws := by rw [hw]; exact List.mem_cons_self
  refine ⟨⟨hrc, hrs, hR.1, hR.2, pay_in ht hG, hc⟩, ht _ (hG _ hc).1, ok _ (by simp [wsV]), ⟨hd.1, hd.2.1⟩, fun sig h => ?_, ok _ (by simp [wsV]), ok _ (by simp [wsV]), ok _ (by simp [wsV])⟩
  have h2 := hd.2.2
  rw [h] at h2
  exact (Option.some.inj h2).symm
theorem vx_runVW {y : MethodName} {bytes cc : ByteArray} {maxL nL mc ms n index : Nat} {ret : Option FieldType} {hh : List (Nat × Nat × Nat × Nat)} {ws : List Cond} {rm : Room} {Pc : Array Value → State → Prop} {Qc : Array Value → State → Outcome → State → Prop} {free : Addr → Prop} {Ts : List Cond} {own C : String} {b : Addr} {As rest : List Value} {g : JFrame}
    (S : CallFix p m c cc nL s args Ts own) (hM : Met l y ws rm Pc Qc mc ms free) (cw : vx_CVW R s args own C index y bytes maxL ret hh ws rm mc ms n) (hp : PreV s H C b Pc As)
    (hg : g.method = m) (hn : As.length = n) (hsize : g.locals.size = nL) (hstack : g.stack = As.reverse ++ .ref b :: rest) (hW : 2 * g.monitorRoom + (rest.map fun v => v.category).sum ≤ 8) (hdg : decode cc g.pc = .ok (.invokevirtual index, 3)) (hf : cells + mc ≤ R.cells ∧ slots + ms ≤ R.slots) :
    va_Run p l e R s m args below meth c H locs cells slots mc ms g rest (Qc (Value.ref b :: As).toArray) free := by
  obtain ⟨⟨hrc, hrs, hfr, hlo, hws, hcw⟩, hcode, hini, hy, hlen, hl, hin, hse⟩ := cw
  have hK : Back l R p e below s args y 3 8 (PreOf R mc ms Pc) (PostOf Qc mc ms free) := va_backW (hh := hh) (bytes := bytes) (maxL := maxL) (ret := ret) hM hp.1 hrc hrs hfr hlo hws hcw (fun a' U hW => word_at hW (Or.inl (by first | rfl | simp [Cond.onTables, Cond.keeps, Cond.steady])) hini)
  obtain ⟨hx, hb, hml, ho, -⟩ := S
  obtain ⟨-, ⟨cellB, hcB, hoB, hclB⟩, hPc⟩ := hp
  intro T hT X
  obtain ⟨v, vm₁, ⟨U', l2, c2, s2⟩, hW₁, X', ⟨g', mk, t, L, e1, e2, hq, h1, hL, h2, h3⟩, st⟩ := vx_callVW X hx (C := C) (hh := hh) (bytes := bytes) (maxL := maxL) (ret := ret) ho hl hin hse hcode hy hK (by rw [hT]; exact hcB) hoB hclB hg (hsize.trans hml.symm) (argsL := As) (rest := rest) (fun sig h => hn.trans (hlen sig h)) hstack hW (by rw [hb]; exact hdg)
    (fun vm₁ hW₁ => ⟨hf.1, hf.2, hPc (T.setVm vm₁) hT hW₁⟩)
  dsimp only [Pt.U, Pt.locs, Pt.cells, Pt.slots] at X' e1 e2 h1 h2 h3 st
  subst h1; subst h2; subst h3
  exact ⟨v, (T.setVm vm₁).calling g' mk (Value.ref b :: As).toArray, t, U', L, hT, X', hL, e1, e2, hq, st⟩
section
variable {y : MethodName} {bytes cc : ByteArray} {maxL nL mc ms n index : Nat} {ret : Option FieldType} {ws : List Cond} {rm : Room} {Pc : Array Value → State → Prop} {Qc : Array Value → State → Outcome → State → Prop} {XC : String → State → State → Prop} {free : Addr → Prop} {Ts : List Cond} {own C : String} {b : Addr} {As rest : List Value} {g : JFrame}
theorem vx_runVX {hh : List (Nat × Nat × Nat × Nat)} (S : CallFix p m c cc nL s args Ts own) (hM : vx_Met l y ws rm Pc Qc XC mc ms free) (cw : vx_CVW R s args own C index y bytes maxL ret hh ws rm mc ms n) (hp : PreV s H C b Pc As)
    (hg : g.method = m) (hn : As.length = n) (hsize : g.locals.size = nL) (hstack : g.stack = As.reverse ++ .ref b :: rest) (hW : 2 * g.monitorRoom + (rest.map fun v => v.category).sum ≤ 8) (hdg : decode cc g.pc = .ok (.invokevirtual index, 3)) (hf : cells + mc ≤ R.cells ∧ slots + ms ≤ R.slots) :
    vx_Run p l e R s m args below meth c H locs cells slots mc ms g rest (Qc (Value.ref b :: As).toArray) XC free := by
  obtain ⟨⟨hrc, hrs, hfr, hlo, hws, hcw⟩, hcode, hini, hy, hlen, hl, hin, hse⟩ := cw
  have hK : vx_Back l R p e below s args y 3 8 (PreOf R mc ms Pc) (PostOf Qc mc ms free) (vx_Post XC mc ms free) := vx_backW (hh := hh) (bytes := bytes) (maxL := maxL) (ret := ret) hM hp.1 hrc hrs hfr hlo hws hcw (fun a' U hW => word_at hW (Or.inl (by first | rfl | simp [Cond.onTables, Cond.keeps, Cond.steady])) hini)
  obtain ⟨hx, hb, hml, ho, -⟩ := S
  obtain ⟨-, ⟨cellB, hcB, hoB, hclB⟩, hPc⟩ := hp
  intro T hT X
  rcases vx_callVX X hx (C := C) (hh := hh) (bytes := bytes) (maxL := maxL) (ret := ret) ho hl hin hse hcode hy hK (by rw [hT]; exact hcB) hoB hclB hg (hsize.trans hml.symm) (argsL := As) (rest := rest) (fun sig h => hn.trans (hlen sig h)) hstack hW (by rw [hb]; exact hdg)
    (fun vm₁ hW₁ => ⟨hf.1, hf.2, hPc (T.setVm vm₁) hT hW₁⟩) with ⟨v, vm₁, ⟨U', l2, c2, s2⟩, hW₁, X', ⟨g', mk, t, L, e1, e2, hq, h1, hL, h2, h3⟩, st⟩ | ⟨q, vm₁, ⟨U', l2, c2, s2⟩, hW₁, X', ⟨g', mk, t, L, E, ce, e1, e2, hq, hce, hcv, hcl, h1, hL, h2, h3⟩, st⟩
  · dsimp only [Pt.U, Pt.locs, Pt.cells, Pt.slots] at X' e1 e2 h1 h2 h3 st
    subst h1; subst h2; subst h3
    exact Or.inl ⟨v, (T.setVm vm₁).calling g' mk (Value.ref b :: As).toArray, t, U', L, hT, X', hL, e1, e2, hq, st⟩
  · dsimp only [Pt.U, Pt.locs, Pt.cells, Pt.slots] at X' e1 e2 h1 h2 h3 st hcl
    subst h1; subst h2; subst h3
    exact Or.inr ⟨q, (T.setVm vm₁).calling g' mk (Value.ref b :: As).toArray, t, U', L, E, ce, hT, X', hL, e1, e2, hq, hce, hcv, vx_cls hW₁ hcl, st⟩
theorem vx_runSX {hh : List (Nat × Nat × Nat × Nat)} (S : CallFix p m c cc nL s args Ts own) (hM : vx_Met l y ws rm Pc Qc XC mc ms free) (cw : vx_CSW R s args own index y bytes maxL ret hh ws rm mc ms n) (hp : PreS s H Pc As)
    (hg : g.method = m) (hn : As.length = n) (hsize : g.locals.size = nL) (hstack : g.stack = As.reverse ++ rest) (hW : 2 * g.monitorRoom + (rest.map fun v => v.category).sum ≤ 8) (hdg : decode cc g.pc = .ok (.invokestatic index, 3)) (hf : cells + mc ≤ R.cells ∧ slots + ms ≤ R.slots) :
    vx_Run p l e R s m args below meth c H locs cells slots mc ms g rest (Qc As.toArray) XC free := by
  obtain ⟨⟨hrc, hrs, hfr, hlo, hws, hcw⟩, hcode, hini, hy, hlen, hl, hstt⟩ := cw
  have hK : vx_Back l R p e below s args y 3 8 (PreOf R mc ms Pc) (PostOf Qc mc ms free) (vx_Post XC mc ms free) := vx_backW (hh := hh) (bytes := bytes) (maxL := maxL) (ret := ret) hM hp.1 hrc hrs hfr hlo hws hcw (fun a' U hW => word_at hW (Or.inl (by first | rfl | simp [Cond.onTables, Cond.keeps, Cond.steady])) hini)
  obtain ⟨hx, hb, hml, ho, -⟩ := S
  intro T hT X
  rcases vx_callSX X hx (hh := hh) (bytes := bytes) (maxL := maxL) (ret := ret) ho hl hstt hini hcode hy hK hg (hsize.trans hml.symm) (argsL := As) (rest := rest) (fun sig h => hn.trans (hlen sig h)) hstack hW (by rw [hb]; exact hdg)
    (fun vm₁ hW₁ => ⟨hf.1, hf.2, hp.2 (T.setVm vm₁) hT hW₁⟩) with ⟨v, vm₁, ⟨U', l2, c2, s2⟩, hW₁, X', ⟨g', mk, t, L, e1, e2, hq, h1, hL, h2, h3⟩, st⟩ | ⟨q, vm₁, ⟨U', l2, c2, s2⟩, hW₁, X', ⟨g', mk, t, L, E, ce, e1, e2, hq, hce, hcv, hcl, h1, hL, h2, h3⟩, st⟩
  · dsimp only [Pt.U, Pt.locs, Pt.cells, Pt.slots] at X' e1 e2 h1 h2 h3 st
    subst h1; subst h2; subst h3
    exact Or.inl ⟨v, (T.setVm vm₁).calling g' mk As.toArray, t, U', L, hT, X', hL, e1, e2, hq, st⟩
  · dsimp only [Pt.U, Pt.locs, Pt.cells, Pt.slots] at X' e1 e2 h1 h2 h3 st hcl
    subst h1; subst h2; subst h3
    exact Or.inr ⟨q, (T.setVm vm₁).calling g' mk As.toArray, t, U', L, E, ce, hT, X', hL, e1, e2, hq, hce, hcv, vx_cls hW₁ hcl, st⟩
end
end VXH
theorem vx_ofWH {l : Launch} {y : MethodName} {ws ws' : List Cond} {rm : Room} {Pc : Array Value → State → Prop} {Qc : Array Value → State → Outcome → State → Prop} {XC : String → State → State → Prop} {mc ms : Nat} {free : Addr → Prop} {cc : ByteArray} {maxL : Nat} {ret : Option FieldType} {hh : List (Nat × Nat × Nat × Nat)}
    (hy : plainName y.cls = true) (hw : ws = Cond.codeWith y cc maxL ret hh :: ws')
    (body : ∀ p e s m args below meth c s₁, BodyLoose p l y (headSpec ws rm) cc maxL ret e s m args below meth c s₁ → c.maxLocals = maxL → Pc args s →
      W p l e (headSpec ws rm).room s m args below meth c s.heap [] 0 0 (vx_MQ below Qc XC args s mc ms free) (entryFrame m args maxL)) : vx_Met l y ws rm Pc Qc XC mc ms free := by
  refine MetFree.of_bodyS (code := cc) (maxLocals := maxL) (ret := ret) hy ?_ ?_
  · intro args s m h hn
    obtain ⟨m9, meth, c, hn9, h1, h2, h3, h4, -, h5, h6, -⟩ := Cond.codeWith_spec (atoms_spec (ws := ws) h _ (by rw [hw]; exact List.mem_cons_self))
    cases hn.symm.trans hn9
    exact ⟨meth, c, h1, h2, h3, h4, h5, h6⟩
  · intro p e s m args below meth c s₁ B hml hP _
    have hh0 : s₁.heap = s.heap := by rw [B.state]; rfl
    obtain ⟨t, a1, o, b1, b2, b3⟩ := body p e s m args below meth c s₁ B hml hP s₁ hh0 (Stand.of_body B)
    exact ⟨t, o, a1, b1, b2, b3⟩
/-! ===== END ===== -/
end
section
/-! names: classes, methods, words -/
abbrev R_Q : String := "QuoteGraph"
abbrev R_Qt : String := "QuoteGraph$Quote"
abbrev R_Bl : String := "QuoteGraph$Blend"
abbrev R_Gr : String := "QuoteGraph$Greater"
abbrev R_Op : String := "QuoteGraph$Option"
abbrev R_La : String := "QuoteGraph$Lattice"
abbrev R_Pa : String := "QuoteGraph$Paths"
abbrev R_Ne : String := "QuoteGraph$Net"
abbrev R_M : String := "QuoteGraphModel"
abbrev R_Nd : String := "QuoteGraph$Node"
abbrev R_En : String := "QuoteGraph$Engine"
abbrev R_Tr : String := "QuoteGraph$Trouble"
abbrev R_L : String := "QuoteGraphLaw"
def F_Q : u_T := fun k => match k with
  | 0 => ("QuoteGraph", "nodes", "[LQuoteGraph$Node;", true)
  | 1 => ("QuoteGraph", "engines", "[LQuoteGraph$Engine;", true)
  | 2 => ("QuoteGraph", "nodeCount", "I", false)
  | 3 => ("QuoteGraph", "toldCount", "I", false)
  | 4 => ("QuoteGraph", "workedCount", "I", false)
  | _ => ("QuoteGraph", "failureCount", "I", false)
def t_Q : Nat → FieldType := fun k => match k with
  | 0 => .array (.object "QuoteGraph$Node")
  | 1 => .array (.object "QuoteGraph$Engine")
  | 2 => .int
  | 3 => .int
  | 4 => .int
  | _ => .int
theorem n_Q : ∀ a, a < 6 → ∀ b, b < 6 → a ≠ b → (F_Q a).2.1 ≠ (F_Q b).2.1 := by decide +kernel
theorem t_Q_ok : ∀ k, k < 6 → parseFieldDescriptor (F_Q k).2.2.1 = some (t_Q k) := by decide +kernel
def F_Qt : u_T := fun k => match k with
  | 0 => ("QuoteGraph$Node", "number", "I", true)
  | 1 => ("QuoteGraph$Node", "parts", "[LQuoteGraph$Node;", true)
  | 2 => ("QuoteGraph$Node", "partCount", "I", false)
  | 3 => ("QuoteGraph$Node", "amount", "J", false)
  | 4 => ("QuoteGraph$Node", "valid", "Z", false)
  | 5 => ("QuoteGraph$Node", "frozen", "Z", false)
  | 6 => ("QuoteGraph$Node", "missed", "Z", false)
  | 7 => ("QuoteGraph$Node", "timesWorked", "I", false)
  | 8 => ("QuoteGraph$Node", "rememberedAmount", "J", false)
  | _ => ("QuoteGraph$Node", "rememberedValid", "Z", false)
def t_Qt : Nat → FieldType := fun k => match k with
  | 0 => .int
  | 1 => .array (.object "QuoteGraph$Node")
  | 2 => .int
  | 3 => .long
  | 4 => .boolean
  | 5 => .boolean
  | 6 => .boolean
  | 7 => .int
  | 8 => .long
  | _ => .boolean
theorem n_Qt : ∀ a, a < 10 → ∀ b, b < 10 → a ≠ b → (F_Qt a).2.1 ≠ (F_Qt b).2.1 := by decide +kernel
theorem t_Qt_ok : ∀ k, k < 10 → parseFieldDescriptor (F_Qt k).2.2.1 = some (t_Qt k) := by decide +kernel
def F_Bl : u_T := fun k => match k with
  | 0 => ("QuoteGraph$Node", "number", "I", true)
  | 1 => ("QuoteGraph$Node", "parts", "[LQuoteGraph$Node;", true)
  | 2 => ("QuoteGraph$Node", "partCount", "I", false)
  | 3 => ("QuoteGraph$Node", "amount", "J", false)
  | 4 => ("QuoteGraph$Node", "valid", "Z", false)
  | 5 => ("QuoteGraph$Node", "frozen", "Z", false)
  | 6 => ("QuoteGraph$Node", "missed", "Z", false)
  | 7 => ("QuoteGraph$Node", "timesWorked", "I", false)
  | 8 => ("QuoteGraph$Node", "rememberedAmount", "J", false)
  | 9 => ("QuoteGraph$Node", "rememberedValid", "Z", false)
  | 10 => ("QuoteGraph$Blend", "firstEighths", "J", true)
  | _ => ("QuoteGraph$Blend", "secondEighths", "J", true)
def t_Bl : Nat → FieldType := fun k => match k with
  | 0 => .int
  | 1 => .array (.object "QuoteGraph$Node")
  | 2 => .int
  | 3 => .long
  | 4 => .boolean
  | 5 => .boolean
  | 6 => .boolean
  | 7 => .int
  | 8 => .long
  | 9 => .boolean
  | 10 => .long
  | _ => .long
theorem n_Bl : ∀ a, a < 12 → ∀ b, b < 12 → a ≠ b → (F_Bl a).2.1 ≠ (F_Bl b).2.1 := by decide +kernel
theorem t_Bl_ok : ∀ k, k < 12 → parseFieldDescriptor (F_Bl k).2.2.1 = some (t_Bl k) := by decide +kernel
def F_Gr : u_T := fun k => match k with
  | 0 => ("QuoteGraph$Node", "number", "I", true)
  | 1 => ("QuoteGraph$Node", "parts", "[LQuoteGraph$Node;", true)
  | 2 => ("QuoteGraph$Node", "partCount", "I", false)
  | 3 => ("QuoteGraph$Node", "amount", "J", false)
  | 4 => ("QuoteGraph$Node", "valid", "Z", false)
  | 5 => ("QuoteGraph$Node", "frozen", "Z", false)
  | 6 => ("QuoteGraph$Node", "missed", "Z", false)
  | 7 => ("QuoteGraph$Node", "timesWorked", "I", false)
  | 8 => ("QuoteGraph$Node", "rememberedAmount", "J", false)
  | _ => ("QuoteGraph$Node", "rememberedValid", "Z", false)
def t_Gr : Nat → FieldType := fun k => match k with
  | 0 => .int
  | 1 => .array (.object "QuoteGraph$Node")
  | 2 => .int
  | 3 => .long
  | 4 => .boolean
  | 5 => .boolean
  | 6 => .boolean
  | 7 => .int
  | 8 => .long
  | _ => .boolean
theorem n_Gr : ∀ a, a < 10 → ∀ b, b < 10 → a ≠ b → (F_Gr a).2.1 ≠ (F_Gr b).2.1 := by decide +kernel
theorem t_Gr_ok : ∀ k, k < 10 → parseFieldDescriptor (F_Gr k).2.2.1 = some (t_Gr k) := by decide +kernel
def F_Op : u_T := fun k => match k with
  | 0 => ("QuoteGraph$Node", "number", "I", true)
  | 1 => ("QuoteGraph$Node", "parts", "[LQuoteGraph$Node;", true)
  | 2 => ("QuoteGraph$Node", "partCount", "I", false)
  | 3 => ("QuoteGraph$Node", "amount", "J", false)
  | 4 => ("QuoteGraph$Node", "valid", "Z", false)
  | 5 => ("QuoteGraph$Node", "frozen", "Z", false)
  | 6 => ("QuoteGraph$Node", "missed", "Z", false)
  | 7 => ("QuoteGraph$Node", "timesWorked", "I", false)
  | 8 => ("QuoteGraph$Node", "rememberedAmount", "J", false)
  | 9 => ("QuoteGraph$Node", "rememberedValid", "Z", false)
  | 10 => ("QuoteGraph$Option", "spot", "LQuoteGraph$Node;", true)
  | 11 => ("QuoteGraph$Option", "move", "LQuoteGraph$Node;", true)
  | 12 => ("QuoteGraph$Option", "kind", "I", true)
  | 13 => ("QuoteGraph$Option", "strike", "J", true)
  | 14 => ("QuoteGraph$Option", "steps", "I", true)
  | 15 => ("QuoteGraph$Option", "rate", "LQuoteGraph$Node;", false)
  | 16 => ("QuoteGraph$Option", "knock", "LQuoteGraph$Node;", false)
  | 17 => ("QuoteGraph$Option", "chance", "I", false)
  | 18 => ("QuoteGraph$Option", "american", "Z", false)
  | 19 => ("QuoteGraph$Option", "engine", "LQuoteGraph$Engine;", false)
  | _ => ("QuoteGraph$Option", "size", "I", false)
def t_Op : Nat → FieldType := fun k => match k with
  | 0 => .int
  | 1 => .array (.object "QuoteGraph$Node")
  | 2 => .int
  | 3 => .long
  | 4 => .boolean
  | 5 => .boolean
  | 6 => .boolean
  | 7 => .int
  | 8 => .long
  | 9 => .boolean
  | 10 => .object "QuoteGraph$Node"
  | 11 => .object "QuoteGraph$Node"
  | 12 => .int
  | 13 => .long
  | 14 => .int
  | 15 => .object "QuoteGraph$Node"
  | 16 => .object "QuoteGraph$Node"
  | 17 => .int
  | 18 => .boolean
  | 19 => .object "QuoteGraph$Engine"
  | _ => .int
theorem n_Op : ∀ a, a < 21 → ∀ b, b < 21 → a ≠ b → (F_Op a).2.1 ≠ (F_Op b).2.1 := by decide +kernel
theorem t_Op_ok : ∀ k, k < 21 → parseFieldDescriptor (F_Op k).2.2.1 = some (t_Op k) := by decide +kernel
def F_La : u_T := fun k => match k with
  | 0 => ("QuoteGraph$Engine", "leastSize", "I", true)
  | 1 => ("QuoteGraph$Engine", "mostSize", "I", true)
  | _ => ("QuoteGraph$Lattice", "row", "[J", true)
def t_La : Nat → FieldType := fun k => match k with
  | 0 => .int
  | 1 => .int
  | _ => .array .long
theorem n_La : ∀ a, a < 3 → ∀ b, b < 3 → a ≠ b → (F_La a).2.1 ≠ (F_La b).2.1 := by decide +kernel
theorem t_La_ok : ∀ k, k < 3 → parseFieldDescriptor (F_La k).2.2.1 = some (t_La k) := by decide +kernel
def F_Pa : u_T := fun k => match k with
  | 0 => ("QuoteGraph$Engine", "leastSize", "I", true)
  | 1 => ("QuoteGraph$Engine", "mostSize", "I", true)
  | _ => ("QuoteGraph$Paths", "draw", "J", false)
def t_Pa : Nat → FieldType := fun k => match k with
  | 0 => .int
  | 1 => .int
  | _ => .long
theorem n_Pa : ∀ a, a < 3 → ∀ b, b < 3 → a ≠ b → (F_Pa a).2.1 ≠ (F_Pa b).2.1 := by decide +kernel
theorem t_Pa_ok : ∀ k, k < 3 → parseFieldDescriptor (F_Pa k).2.2.1 = some (t_Pa k) := by decide +kernel
def F_Ne : u_T := fun k => match k with
  | 0 => ("QuoteGraph$Engine", "leastSize", "I", true)
  | 1 => ("QuoteGraph$Engine", "mostSize", "I", true)
  | _ => ("QuoteGraph$Net", "row", "[J", true)
def t_Ne : Nat → FieldType := fun k => match k with
  | 0 => .int
  | 1 => .int
  | _ => .array .long
theorem n_Ne : ∀ a, a < 3 → ∀ b, b < 3 → a ≠ b → (F_Ne a).2.1 ≠ (F_Ne b).2.1 := by decide +kernel
theorem t_Ne_ok : ∀ k, k < 3 → parseFieldDescriptor (F_Ne k).2.2.1 = some (t_Ne k) := by decide +kernel
def F_M : u_T := fun k => match k with
  | 0 => ("QuoteGraphModel", "sort", "[I", true)
  | 1 => ("QuoteGraphModel", "part", "[I", true)
  | 2 => ("QuoteGraphModel", "held", "[J", true)
  | 3 => ("QuoteGraphModel", "valid", "[Z", true)
  | 4 => ("QuoteGraphModel", "frozen", "[Z", true)
  | 5 => ("QuoteGraphModel", "missed", "[Z", true)
  | 6 => ("QuoteGraphModel", "worked", "[I", true)
  | 7 => ("QuoteGraphModel", "weightA", "[J", true)
  | 8 => ("QuoteGraphModel", "weightB", "[J", true)
  | 9 => ("QuoteGraphModel", "kind", "[I", true)
  | 10 => ("QuoteGraphModel", "steps", "[I", true)
  | 11 => ("QuoteGraphModel", "chance", "[I", true)
  | 12 => ("QuoteGraphModel", "american", "[Z", true)
  | 13 => ("QuoteGraphModel", "engine", "[I", true)
  | 14 => ("QuoteGraphModel", "size", "[I", true)
  | 15 => ("QuoteGraphModel", "list", "[I", true)
  | 16 => ("QuoteGraphModel", "next", "[I", true)
  | 17 => ("QuoteGraphModel", "oldHeld", "[J", true)
  | 18 => ("QuoteGraphModel", "oldValid", "[Z", true)
  | 19 => ("QuoteGraphModel", "row", "[J", true)
  | 20 => ("QuoteGraphModel", "fresh", "[J", true)
  | 21 => ("QuoteGraphModel", "nodes", "I", false)
  | 22 => ("QuoteGraphModel", "told", "I", false)
  | 23 => ("QuoteGraphModel", "workedAll", "I", false)
  | 24 => ("QuoteGraphModel", "troubles", "I", false)
  | 25 => ("QuoteGraphModel", "thrown", "I", false)
  | 26 => ("QuoteGraphModel", "trouble", "I", false)
  | 27 => ("QuoteGraphModel", "now", "I", false)
  | 28 => ("QuoteGraphModel", "spot", "J", false)
  | 29 => ("QuoteGraphModel", "move", "J", false)
  | 30 => ("QuoteGraphModel", "knock", "J", false)
  | _ => ("QuoteGraphModel", "discount", "J", false)
def t_M : Nat → FieldType := fun k => match k with
  | 0 => .array .int
  | 1 => .array .int
  | 2 => .array .long
  | 3 => .array .boolean
  | 4 => .array .boolean
  | 5 => .array .boolean
  | 6 => .array .int
  | 7 => .array .long
  | 8 => .array .long
  | 9 => .array .int
  | 10 => .array .int
  | 11 => .array .int
  | 12 => .array .boolean
  | 13 => .array .int
  | 14 => .array .int
  | 15 => .array .int
  | 16 => .array .int
  | 17 => .array .long
  | 18 => .array .boolean
  | 19 => .array .long
  | 20 => .array .long
  | 21 => .int
  | 22 => .int
  | 23 => .int
  | 24 => .int
  | 25 => .int
  | 26 => .int
  | 27 => .int
  | 28 => .long
  | 29 => .long
  | 30 => .long
  | _ => .long
theorem n_M : ∀ a, a < 32 → ∀ b, b < 32 → a ≠ b → (F_M a).2.1 ≠ (F_M b).2.1 := by decide +kernel
theorem t_M_ok : ∀ k, k < 32 → parseFieldDescriptor (F_M k).2.2.1 = some (t_M k) := by decide +kernel
abbrev classes : List vw_C := [(R_Q, F_Q, 6), (R_Qt, F_Qt, 10), (R_Bl, F_Bl, 12), (R_Gr, F_Gr, 10), (R_Op, F_Op, 21), (R_La, F_La, 3), (R_Pa, F_Pa, 3), (R_Ne, F_Ne, 3), (R_M, F_M, 32)]
def y_Bl_init : MethodName := ⟨"QuoteGraph$Blend", "<init>", "(ILQuoteGraph$Node;LQuoteGraph$Node;JJ)V"⟩
abbrev b_Bl_init : ByteArray := prog_2_method_1_code
def y_Bl_sort : MethodName := ⟨"QuoteGraph$Blend", "sort", "()I"⟩
abbrev b_Bl_sort : ByteArray := prog_2_method_2_code
def y_Bl_workOut : MethodName := ⟨"QuoteGraph$Blend", "workOut", "()J"⟩
abbrev b_Bl_workOut : ByteArray := prog_2_method_3_code
def y_En_init : MethodName := ⟨"QuoteGraph$Engine", "<init>", "(II)V"⟩
abbrev b_En_init : ByteArray := prog_3_method_1_code
def y_Gr_init : MethodName := ⟨"QuoteGraph$Greater", "<init>", "(ILQuoteGraph$Node;LQuoteGraph$Node;)V"⟩
abbrev b_Gr_init : ByteArray := prog_4_method_1_code
def y_Gr_sort : MethodName := ⟨"QuoteGraph$Greater", "sort", "()I"⟩
abbrev b_Gr_sort : ByteArray := prog_4_method_2_code
def y_Gr_workOut : MethodName := ⟨"QuoteGraph$Greater", "workOut", "()J"⟩
abbrev b_Gr_workOut : ByteArray := prog_4_method_3_code
def y_L_blend : MethodName := ⟨"QuoteGraphLaw", "blend", "(LQuoteGraph;IIDD[J)I"⟩
abbrev b_L_blend : ByteArray := method_4_code
def y_L_bump : MethodName := ⟨"QuoteGraphLaw", "bump", "(LQuoteGraph;IID[D)I"⟩
abbrev b_L_bump : ByteArray := method_12_code
def y_L_engine : MethodName := ⟨"QuoteGraphLaw", "engine", "(LQuoteGraph;III)I"⟩
abbrev b_L_engine : ByteArray := method_8_code
def y_L_freeze : MethodName := ⟨"QuoteGraphLaw", "freeze", "(LQuoteGraph;IZ)I"⟩
abbrev b_L_freeze : ByteArray := method_11_code
def y_L_greater : MethodName := ⟨"QuoteGraphLaw", "greater", "(LQuoteGraph;II[J)I"⟩
abbrev b_L_greater : ByteArray := method_5_code
def y_L_law : MethodName := ⟨"QuoteGraphLaw", "law", "([I)Z"⟩
abbrev b_L_law : ByteArray := code
def y_L_node : MethodName := ⟨"QuoteGraphLaw", "node", "(LQuoteGraph;II[J)I"⟩
abbrev b_L_node : ByteArray := method_14_code
def y_L_option : MethodName := ⟨"QuoteGraphLaw", "option", "(LQuoteGraph;IIIDI[J)I"⟩
abbrev b_L_option : ByteArray := method_6_code
def y_L_quote : MethodName := ⟨"QuoteGraphLaw", "quote", "(LQuoteGraph;D[J)I"⟩
abbrev b_L_quote : ByteArray := method_3_code
def y_L_set : MethodName := ⟨"QuoteGraphLaw", "set", "(LQuoteGraph;ID[J)I"⟩
abbrev b_L_set : ByteArray := method_9_code
def y_L_terms : MethodName := ⟨"QuoteGraphLaw", "terms", "(LQuoteGraph;IIIZI)I"⟩
abbrev b_L_terms : ByteArray := method_7_code
def y_L_uses : MethodName := ⟨"QuoteGraphLaw", "uses", "(LQuoteGraph;II[J)I"⟩
abbrev b_L_uses : ByteArray := method_13_code
def y_L_value : MethodName := ⟨"QuoteGraphLaw", "value", "(LQuoteGraph;I[D)I"⟩
abbrev b_L_value : ByteArray := method_10_code
def y_La_checkSuits : MethodName := ⟨"QuoteGraph$Lattice", "checkSuits", "(LQuoteGraph$Option;)V"⟩
abbrev b_La_checkSuits : ByteArray := prog_5_method_2_code
def y_La_init : MethodName := ⟨"QuoteGraph$Lattice", "<init>", "()V"⟩
abbrev b_La_init : ByteArray := prog_5_method_1_code
def y_La_price : MethodName := ⟨"QuoteGraph$Lattice", "price", "(LQuoteGraph$Option;J)J"⟩
abbrev b_La_price : ByteArray := prog_5_method_3_code
def y_La_stepBack : MethodName := ⟨"QuoteGraph$Lattice", "stepBack", "(LQuoteGraph$Option;JI)V"⟩
abbrev b_La_stepBack : ByteArray := prog_5_method_4_code
def y_M_ask : MethodName := ⟨"QuoteGraphModel", "ask", "(I)Z"⟩
abbrev b_M_ask : ByteArray := prog_13_method_27_code
def y_M_badPart : MethodName := ⟨"QuoteGraphModel", "badPart", "(II)Z"⟩
abbrev b_M_badPart : ByteArray := prog_13_method_12_code
def y_M_blend : MethodName := ⟨"QuoteGraphModel", "blend", "(IIDD)I"⟩
abbrev b_M_blend : ByteArray := prog_13_method_8_code
def y_M_bounded : MethodName := ⟨"QuoteGraphModel", "bounded", "(J)J"⟩
abbrev b_M_bounded : ByteArray := prog_13_method_19_code
def y_M_bump : MethodName := ⟨"QuoteGraphModel", "bump", "(IID)D"⟩
abbrev b_M_bump : ByteArray := prog_13_method_30_code
def y_M_count : MethodName := ⟨"QuoteGraphModel", "count", "(I)I"⟩
abbrev b_M_count : ByteArray := prog_13_method_33_code
def y_M_create : MethodName := ⟨"QuoteGraphModel", "create", "(III)I"⟩
abbrev b_M_create : ByteArray := prog_13_method_6_code
def y_M_earlier : MethodName := ⟨"QuoteGraphModel", "earlier", "(JJ)J"⟩
abbrev b_M_earlier : ByteArray := prog_13_method_21_code
def y_M_engine : MethodName := ⟨"QuoteGraphModel", "engine", "(III)V"⟩
abbrev b_M_engine : ByteArray := prog_13_method_17_code
def y_M_far : MethodName := ⟨"QuoteGraphModel", "far", "(DD)Z"⟩
abbrev b_M_far : ByteArray := prog_13_method_5_code
def y_M_floored : MethodName := ⟨"QuoteGraphModel", "floored", "(JJ)J"⟩
abbrev b_M_floored : ByteArray := prog_13_method_3_code
def y_M_freeze : MethodName := ⟨"QuoteGraphModel", "freeze", "(IZ)V"⟩
abbrev b_M_freeze : ByteArray := prog_13_method_29_code
def y_M_greater : MethodName := ⟨"QuoteGraphModel", "greater", "(II)I"⟩
abbrev b_M_greater : ByteArray := prog_13_method_9_code
def y_M_hangs : MethodName := ⟨"QuoteGraphModel", "hangs", "(II)Z"⟩
abbrev b_M_hangs : ByteArray := prog_13_method_11_code
def y_M_init : MethodName := ⟨"QuoteGraphModel", "<init>", "()V"⟩
abbrev b_M_init : ByteArray := prog_13_method_1_code
def y_M_lattice : MethodName := ⟨"QuoteGraphModel", "lattice", "()J"⟩
abbrev b_M_lattice : ByteArray := prog_13_method_22_code
def y_M_net : MethodName := ⟨"QuoteGraphModel", "net", "()J"⟩
abbrev b_M_net : ByteArray := prog_13_method_24_code
def y_M_no : MethodName := ⟨"QuoteGraphModel", "no", "(I)Z"⟩
abbrev b_M_no : ByteArray := prog_13_method_4_code
def y_M_noOption : MethodName := ⟨"QuoteGraphModel", "noOption", "(I)Z"⟩
abbrev b_M_noOption : ByteArray := prog_13_method_13_code
def y_M_node : MethodName := ⟨"QuoteGraphModel", "node", "(II)I"⟩
abbrev b_M_node : ByteArray := prog_13_method_32_code
def y_M_option : MethodName := ⟨"QuoteGraphModel", "option", "(IIIDI)I"⟩
abbrev b_M_option : ByteArray := prog_13_method_10_code
def y_M_paths : MethodName := ⟨"QuoteGraphModel", "paths", "()J"⟩
abbrev b_M_paths : ByteArray := prog_13_method_23_code
def y_M_payoff : MethodName := ⟨"QuoteGraphModel", "payoff", "(J)J"⟩
abbrev b_M_payoff : ByteArray := prog_13_method_20_code
def y_M_quote : MethodName := ⟨"QuoteGraphModel", "quote", "(D)I"⟩
abbrev b_M_quote : ByteArray := prog_13_method_7_code
def y_M_result : MethodName := ⟨"QuoteGraphModel", "result", "(I)J"⟩
abbrev b_M_result : ByteArray := prog_13_method_26_code
def y_M_set : MethodName := ⟨"QuoteGraphModel", "set", "(ID)I"⟩
abbrev b_M_set : ByteArray := prog_13_method_18_code
def y_M_tell : MethodName := ⟨"QuoteGraphModel", "tell", "(I)V"⟩
abbrev b_M_tell : ByteArray := prog_13_method_14_code
def y_M_terms : MethodName := ⟨"QuoteGraphModel", "terms", "(IIIZI)V"⟩
abbrev b_M_terms : ByteArray := prog_13_method_16_code
def y_M_thrown : MethodName := ⟨"QuoteGraphModel", "thrown", "()I"⟩
abbrev b_M_thrown : ByteArray := prog_13_method_2_code
def y_M_users : MethodName := ⟨"QuoteGraphModel", "users", "(II)I"⟩
abbrev b_M_users : ByteArray := prog_13_method_15_code
def y_M_uses : MethodName := ⟨"QuoteGraphModel", "uses", "(II)Z"⟩
abbrev b_M_uses : ByteArray := prog_13_method_31_code
def y_M_value : MethodName := ⟨"QuoteGraphModel", "value", "(I)D"⟩
abbrev b_M_value : ByteArray := prog_13_method_28_code
def y_M_valueOfOption : MethodName := ⟨"QuoteGraphModel", "valueOfOption", "(I)J"⟩
abbrev b_M_valueOfOption : ByteArray := prog_13_method_25_code
def y_Nd_bit : MethodName := ⟨"QuoteGraph$Node", "bit", "()I"⟩
abbrev b_Nd_bit : ByteArray := prog_7_method_4_code
def y_Nd_init : MethodName := ⟨"QuoteGraph$Node", "<init>", "(I[LQuoteGraph$Node;I)V"⟩
abbrev b_Nd_init : ByteArray := prog_7_method_1_code
def y_Nd_partBits : MethodName := ⟨"QuoteGraph$Node", "partBits", "()I"⟩
abbrev b_Nd_partBits : ByteArray := prog_7_method_5_code
def y_Nd_remember : MethodName := ⟨"QuoteGraph$Node", "remember", "()V"⟩
abbrev b_Nd_remember : ByteArray := prog_7_method_6_code
def y_Nd_restore : MethodName := ⟨"QuoteGraph$Node", "restore", "()V"⟩
abbrev b_Nd_restore : ByteArray := prog_7_method_7_code
def y_Ne_checkSuits : MethodName := ⟨"QuoteGraph$Net", "checkSuits", "(LQuoteGraph$Option;)V"⟩
abbrev b_Ne_checkSuits : ByteArray := prog_6_method_2_code
def y_Ne_init : MethodName := ⟨"QuoteGraph$Net", "<init>", "()V"⟩
abbrev b_Ne_init : ByteArray := prog_6_method_1_code
def y_Ne_price : MethodName := ⟨"QuoteGraph$Net", "price", "(LQuoteGraph$Option;J)J"⟩
abbrev b_Ne_price : ByteArray := prog_6_method_3_code
def y_Ne_stepBack : MethodName := ⟨"QuoteGraph$Net", "stepBack", "(LQuoteGraph$Option;JI)V"⟩
abbrev b_Ne_stepBack : ByteArray := prog_6_method_4_code
def y_Op_discount : MethodName := ⟨"QuoteGraph$Option", "discount", "()J"⟩
abbrev b_Op_discount : ByteArray := prog_8_method_5_code
def y_Op_heldAt : MethodName := ⟨"QuoteGraph$Option", "heldAt", "(JJ)J"⟩
abbrev b_Op_heldAt : ByteArray := prog_8_method_10_code
def y_Op_init : MethodName := ⟨"QuoteGraph$Option", "<init>", "(ILQuoteGraph$Node;LQuoteGraph$Node;IJI)V"⟩
abbrev b_Op_init : ByteArray := prog_8_method_1_code
def y_Op_isOut : MethodName := ⟨"QuoteGraph$Option", "isOut", "(J)Z"⟩
abbrev b_Op_isOut : ByteArray := prog_8_method_7_code
def y_Op_payoff : MethodName := ⟨"QuoteGraph$Option", "payoff", "(J)J"⟩
abbrev b_Op_payoff : ByteArray := prog_8_method_8_code
def y_Op_payoffInside : MethodName := ⟨"QuoteGraph$Option", "payoffInside", "(J)J"⟩
abbrev b_Op_payoffInside : ByteArray := prog_8_method_9_code
def y_Op_priceAt : MethodName := ⟨"QuoteGraph$Option", "priceAt", "(I)J"⟩
abbrev b_Op_priceAt : ByteArray := prog_8_method_6_code
def y_Op_sort : MethodName := ⟨"QuoteGraph$Option", "sort", "()I"⟩
abbrev b_Op_sort : ByteArray := prog_8_method_2_code
def y_Op_takeParts : MethodName := ⟨"QuoteGraph$Option", "takeParts", "(LQuoteGraph$Node;LQuoteGraph$Node;)V"⟩
abbrev b_Op_takeParts : ByteArray := prog_8_method_3_code
def y_Op_workOut : MethodName := ⟨"QuoteGraph$Option", "workOut", "()J"⟩
abbrev b_Op_workOut : ByteArray := prog_8_method_4_code
def y_Pa_checkSuits : MethodName := ⟨"QuoteGraph$Paths", "checkSuits", "(LQuoteGraph$Option;)V"⟩
abbrev b_Pa_checkSuits : ByteArray := prog_9_method_2_code
def y_Pa_drawsUp : MethodName := ⟨"QuoteGraph$Paths", "drawsUp", "(I)Z"⟩
abbrev b_Pa_drawsUp : ByteArray := prog_9_method_5_code
def y_Pa_endOfPath : MethodName := ⟨"QuoteGraph$Paths", "endOfPath", "(LQuoteGraph$Option;)J"⟩
abbrev b_Pa_endOfPath : ByteArray := prog_9_method_4_code
def y_Pa_init : MethodName := ⟨"QuoteGraph$Paths", "<init>", "()V"⟩
abbrev b_Pa_init : ByteArray := prog_9_method_1_code
def y_Pa_price : MethodName := ⟨"QuoteGraph$Paths", "price", "(LQuoteGraph$Option;J)J"⟩
abbrev b_Pa_price : ByteArray := prog_9_method_3_code
def y_Q_add : MethodName := ⟨"QuoteGraph", "add", "(LQuoteGraph$Node;)I"⟩
abbrev b_Q_add : ByteArray := prog_1_method_15_code
def y_Q_ask : MethodName := ⟨"QuoteGraph", "ask", "(LQuoteGraph$Node;)V"⟩
abbrev b_Q_ask : ByteArray := prog_1_method_30_code
def y_Q_bitsUsedBy : MethodName := ⟨"QuoteGraph", "bitsUsedBy", "(LQuoteGraph$Node;)I"⟩
abbrev b_Q_bitsUsedBy : ByteArray := prog_1_method_27_code
def y_Q_blend : MethodName := ⟨"QuoteGraph", "blend", "(IIDD)I"⟩
abbrev b_Q_blend : ByteArray := prog_1_method_3_code
def y_Q_bump : MethodName := ⟨"QuoteGraph", "bump", "(IID)D"⟩
abbrev b_Q_bump : ByteArray := prog_1_method_11_code
def y_Q_checkNotFrozen : MethodName := ⟨"QuoteGraph", "checkNotFrozen", "(LQuoteGraph$Option;)V"⟩
abbrev b_Q_checkNotFrozen : ByteArray := prog_1_method_17_code
def y_Q_checkRange : MethodName := ⟨"QuoteGraph", "checkRange", "(III)V"⟩
abbrev b_Q_checkRange : ByteArray := prog_1_method_18_code
def y_Q_checkRoom : MethodName := ⟨"QuoteGraph", "checkRoom", "()V"⟩
abbrev b_Q_checkRoom : ByteArray := prog_1_method_16_code
def y_Q_count : MethodName := ⟨"QuoteGraph", "count", "(I)I"⟩
abbrev b_Q_count : ByteArray := prog_1_method_14_code
def y_Q_eighthsOf : MethodName := ⟨"QuoteGraph", "eighthsOf", "(DI)J"⟩
abbrev b_Q_eighthsOf : ByteArray := prog_1_method_19_code
def y_Q_engine : MethodName := ⟨"QuoteGraph", "engine", "(III)V"⟩
abbrev b_Q_engine : ByteArray := prog_1_method_7_code
def y_Q_extraPartAt : MethodName := ⟨"QuoteGraph", "extraPartAt", "(ILQuoteGraph$Option;)LQuoteGraph$Node;"⟩
abbrev b_Q_extraPartAt : ByteArray := prog_1_method_25_code
def y_Q_freeze : MethodName := ⟨"QuoteGraph", "freeze", "(IZ)V"⟩
abbrev b_Q_freeze : ByteArray := prog_1_method_10_code
def y_Q_greater : MethodName := ⟨"QuoteGraph", "greater", "(II)I"⟩
abbrev b_Q_greater : ByteArray := prog_1_method_4_code
def y_Q_hangsOn : MethodName := ⟨"QuoteGraph", "hangsOn", "(LQuoteGraph$Node;LQuoteGraph$Node;)Z"⟩
abbrev b_Q_hangsOn : ByteArray := prog_1_method_26_code
def y_Q_init : MethodName := ⟨"QuoteGraph", "<init>", "()V"⟩
abbrev b_Q_init : ByteArray := prog_1_method_1_code
def y_Q_isThere : MethodName := ⟨"QuoteGraph", "isThere", "(I)Z"⟩
abbrev b_Q_isThere : ByteArray := prog_1_method_21_code
def y_Q_makeUsersStale : MethodName := ⟨"QuoteGraph", "makeUsersStale", "(LQuoteGraph$Node;)V"⟩
abbrev b_Q_makeUsersStale : ByteArray := prog_1_method_33_code
def y_Q_node : MethodName := ⟨"QuoteGraph", "node", "(II)I"⟩
abbrev b_Q_node : ByteArray := prog_1_method_13_code
def y_Q_nodeAt : MethodName := ⟨"QuoteGraph", "nodeAt", "(I)LQuoteGraph$Node;"⟩
abbrev b_Q_nodeAt : ByteArray := prog_1_method_22_code
def y_Q_notTooLarge : MethodName := ⟨"QuoteGraph", "notTooLarge", "(J)J"⟩
abbrev b_Q_notTooLarge : ByteArray := prog_1_method_37_code
def y_Q_numberOf : MethodName := ⟨"QuoteGraph", "numberOf", "(J)D"⟩
abbrev b_Q_numberOf : ByteArray := prog_1_method_20_code
def y_Q_option : MethodName := ⟨"QuoteGraph", "option", "(IIIDI)I"⟩
abbrev b_Q_option : ByteArray := prog_1_method_5_code
def y_Q_optionAt : MethodName := ⟨"QuoteGraph", "optionAt", "(I)LQuoteGraph$Option;"⟩
abbrev b_Q_optionAt : ByteArray := prog_1_method_24_code
def y_Q_quote : MethodName := ⟨"QuoteGraph", "quote", "(D)I"⟩
abbrev b_Q_quote : ByteArray := prog_1_method_2_code
def y_Q_quoteAt : MethodName := ⟨"QuoteGraph", "quoteAt", "(I)LQuoteGraph$Quote;"⟩
abbrev b_Q_quoteAt : ByteArray := prog_1_method_23_code
def y_Q_raise : MethodName := ⟨"QuoteGraph", "raise", "(LQuoteGraph$Trouble;)V"⟩
abbrev b_Q_raise : ByteArray := prog_1_method_32_code
def y_Q_rememberAll : MethodName := ⟨"QuoteGraph", "rememberAll", "()V"⟩
abbrev b_Q_rememberAll : ByteArray := prog_1_method_34_code
def y_Q_restoreAll : MethodName := ⟨"QuoteGraph", "restoreAll", "()V"⟩
abbrev b_Q_restoreAll : ByteArray := prog_1_method_35_code
def y_Q_rounded : MethodName := ⟨"QuoteGraph", "rounded", "(JI)J"⟩
abbrev b_Q_rounded : ByteArray := prog_1_method_36_code
def y_Q_set : MethodName := ⟨"QuoteGraph", "set", "(ID)I"⟩
abbrev b_Q_set : ByteArray := prog_1_method_8_code
def y_Q_tell : MethodName := ⟨"QuoteGraph", "tell", "(LQuoteGraph$Node;)V"⟩
abbrev b_Q_tell : ByteArray := prog_1_method_28_code
def y_Q_tellUsersOf : MethodName := ⟨"QuoteGraph", "tellUsersOf", "(LQuoteGraph$Node;)V"⟩
abbrev b_Q_tellUsersOf : ByteArray := prog_1_method_29_code
def y_Q_terms : MethodName := ⟨"QuoteGraph", "terms", "(IIIZI)V"⟩
abbrev b_Q_terms : ByteArray := prog_1_method_6_code
def y_Q_tryToAsk : MethodName := ⟨"QuoteGraph", "tryToAsk", "(LQuoteGraph$Node;)LQuoteGraph$Trouble;"⟩
abbrev b_Q_tryToAsk : ByteArray := prog_1_method_31_code
def y_Q_uses : MethodName := ⟨"QuoteGraph", "uses", "(II)Z"⟩
abbrev b_Q_uses : ByteArray := prog_1_method_12_code
def y_Q_value : MethodName := ⟨"QuoteGraph", "value", "(I)D"⟩
abbrev b_Q_value : ByteArray := prog_1_method_9_code
def y_Qt_init : MethodName := ⟨"QuoteGraph$Quote", "<init>", "(IJ)V"⟩
abbrev b_Qt_init : ByteArray := prog_10_method_1_code
def y_Qt_sort : MethodName := ⟨"QuoteGraph$Quote", "sort", "()I"⟩
abbrev b_Qt_sort : ByteArray := prog_10_method_2_code
def y_Qt_workOut : MethodName := ⟨"QuoteGraph$Quote", "workOut", "()J"⟩
abbrev b_Qt_workOut : ByteArray := prog_10_method_3_code
def GW : List Cond := lw_tbl.filter goodWord
theorem gw_of (i : Nat) (w : Cond) (h : lw_tbl[i]? = some w) (g : goodWord w = true) : w ∈ GW := List.mem_filter.mpr ⟨List.mem_of_getElem? h, g⟩
theorem GW_good : GW.all goodWord = true := by rw [List.all_eq_true]; intro w h; exact (List.mem_filter.mp h).2
theorem i_Q : ∀ w ∈ u_ws R_Q F_Q 6, w ∈ GW := by intro w h; exact List.mem_filter.mpr ⟨(show ∀ w ∈ u_ws R_Q F_Q 6, w ∈ lw_tbl by decide +kernel) w h, (show ∀ w ∈ u_ws R_Q F_Q 6, goodWord w = true by decide +kernel) w h⟩
theorem i_Qt : ∀ w ∈ u_ws R_Qt F_Qt 10, w ∈ GW := by intro w h; exact List.mem_filter.mpr ⟨(show ∀ w ∈ u_ws R_Qt F_Qt 10, w ∈ lw_tbl by decide +kernel) w h, (show ∀ w ∈ u_ws R_Qt F_Qt 10, goodWord w = true by decide +kernel) w h⟩
theorem i_Bl : ∀ w ∈ u_ws R_Bl F_Bl 12, w ∈ GW := by intro w h; exact List.mem_filter.mpr ⟨(show ∀ w ∈ u_ws R_Bl F_Bl 12, w ∈ lw_tbl by decide +kernel) w h, (show ∀ w ∈ u_ws R_Bl F_Bl 12, goodWord w = true by decide +kernel) w h⟩
theorem i_Gr : ∀ w ∈ u_ws R_Gr F_Gr 10, w ∈ GW := by intro w h; exact List.mem_filter.mpr ⟨(show ∀ w ∈ u_ws R_Gr F_Gr 10, w ∈ lw_tbl by decide +kernel) w h, (show ∀ w ∈ u_ws R_Gr F_Gr 10, goodWord w = true by decide +kernel) w h⟩
theorem i_Op : ∀ w ∈ u_ws R_Op F_Op 21, w ∈ GW := by intro w h; exact List.mem_filter.mpr ⟨(show ∀ w ∈ u_ws R_Op F_Op 21, w ∈ lw_tbl by decide +kernel) w h, (show ∀ w ∈ u_ws R_Op F_Op 21, goodWord w = true by decide +kernel) w h⟩
theorem i_La : ∀ w ∈ u_ws R_La F_La 3, w ∈ GW := by intro w h; exact List.mem_filter.mpr ⟨(show ∀ w ∈ u_ws R_La F_La 3, w ∈ lw_tbl by decide +kernel) w h, (show ∀ w ∈ u_ws R_La F_La 3, goodWord w = true by decide +kernel) w h⟩
theorem i_Pa : ∀ w ∈ u_ws R_Pa F_Pa 3, w ∈ GW := by intro w h; exact List.mem_filter.mpr ⟨(show ∀ w ∈ u_ws R_Pa F_Pa 3, w ∈ lw_tbl by decide +kernel) w h, (show ∀ w ∈ u_ws R_Pa F_Pa 3, goodWord w = true by decide +kernel) w h⟩
theorem i_Ne : ∀ w ∈ u_ws R_Ne F_Ne 3, w ∈ GW := by intro w h; exact List.mem_filter.mpr ⟨(show ∀ w ∈ u_ws R_Ne F_Ne 3, w ∈ lw_tbl by decide +kernel) w h, (show ∀ w ∈ u_ws R_Ne F_Ne 3, goodWord w = true by decide +kernel) w h⟩
theorem i_M : ∀ w ∈ u_ws R_M F_M 32, w ∈ GW := by intro w h; exact List.mem_filter.mpr ⟨(show ∀ w ∈ u_ws R_M F_M 32, w ∈ lw_tbl by decide +kernel) w h, (show ∀ w ∈ u_ws R_M F_M 32, goodWord w = true by decide +kernel) w h⟩
end
section
/-! the words of the tables, by their places -/
theorem gw_0 : (Cond.selects "java/lang/Throwable" ⟨"java/lang/Throwable", "fillInStackTrace", "(I)Ljava/lang/Throwable;"⟩ ⟨"java/lang/Throwable", "fillInStackTrace", "(I)Ljava/lang/Throwable;"⟩) ∈ GW := gw_of 0 _ (by decide +kernel) rfl
theorem gw_1 : (Cond.selects "QuoteGraph" y_Q_checkRoom y_Q_checkRoom) ∈ GW := gw_of 1 _ (by decide +kernel) rfl
theorem gw_2 : (Cond.selects "QuoteGraph" y_Q_add y_Q_add) ∈ GW := gw_of 2 _ (by decide +kernel) rfl
theorem gw_3 : (Cond.selects "QuoteGraph" y_Q_nodeAt y_Q_nodeAt) ∈ GW := gw_of 3 _ (by decide +kernel) rfl
theorem gw_4 : (Cond.selects "QuoteGraph" y_Q_isThere y_Q_isThere) ∈ GW := gw_of 4 _ (by decide +kernel) rfl
theorem gw_5 : (Cond.selects "QuoteGraph" y_Q_optionAt y_Q_optionAt) ∈ GW := gw_of 5 _ (by decide +kernel) rfl
theorem gw_6 : (Cond.selects "QuoteGraph" y_Q_extraPartAt y_Q_extraPartAt) ∈ GW := gw_of 6 _ (by decide +kernel) rfl
theorem gw_7 : (Cond.selects "QuoteGraph" y_Q_hangsOn y_Q_hangsOn) ∈ GW := gw_of 7 _ (by decide +kernel) rfl
theorem gw_8 : (Cond.selects "QuoteGraph" y_Q_bitsUsedBy y_Q_bitsUsedBy) ∈ GW := gw_of 8 _ (by decide +kernel) rfl
theorem gw_9 : (Cond.selects "QuoteGraph" y_Q_tell y_Q_tell) ∈ GW := gw_of 9 _ (by decide +kernel) rfl
theorem gw_10 : (Cond.selects "QuoteGraph" y_Q_tellUsersOf y_Q_tellUsersOf) ∈ GW := gw_of 10 _ (by decide +kernel) rfl
theorem gw_11 : (Cond.selects "QuoteGraph" y_Q_quoteAt y_Q_quoteAt) ∈ GW := gw_of 11 _ (by decide +kernel) rfl
theorem gw_12 : (Cond.selects "QuoteGraph" y_Q_tryToAsk y_Q_tryToAsk) ∈ GW := gw_of 12 _ (by decide +kernel) rfl
theorem gw_13 : (Cond.selects "QuoteGraph" y_Q_ask y_Q_ask) ∈ GW := gw_of 13 _ (by decide +kernel) rfl
theorem gw_14 : (Cond.selects "QuoteGraph$Option" y_Op_discount y_Op_discount) ∈ GW := gw_of 14 _ (by decide +kernel) rfl
theorem gw_15 : (Cond.selects "QuoteGraph$Lattice" y_La_stepBack y_La_stepBack) ∈ GW := gw_of 15 _ (by decide +kernel) rfl
theorem gw_16 : (Cond.selects "QuoteGraph$Net" y_Ne_stepBack y_Ne_stepBack) ∈ GW := gw_of 16 _ (by decide +kernel) rfl
theorem gw_17 : (Cond.selects "QuoteGraph$Paths" y_Pa_endOfPath y_Pa_endOfPath) ∈ GW := gw_of 17 _ (by decide +kernel) rfl
theorem gw_18 : (Cond.selects "QuoteGraph$Paths" y_Pa_drawsUp y_Pa_drawsUp) ∈ GW := gw_of 18 _ (by decide +kernel) rfl
theorem gw_19 : (Cond.selects "QuoteGraph" y_Q_raise y_Q_raise) ∈ GW := gw_of 19 _ (by decide +kernel) rfl
theorem gw_20 : (Cond.selects "QuoteGraph" y_Q_rememberAll y_Q_rememberAll) ∈ GW := gw_of 20 _ (by decide +kernel) rfl
theorem gw_21 : (Cond.selects "QuoteGraph" y_Q_makeUsersStale y_Q_makeUsersStale) ∈ GW := gw_of 21 _ (by decide +kernel) rfl
theorem gw_22 : (Cond.selects "QuoteGraph" y_Q_restoreAll y_Q_restoreAll) ∈ GW := gw_of 22 _ (by decide +kernel) rfl
theorem gw_23 : (Cond.selects "QuoteGraphModel" y_M_far y_M_far) ∈ GW := gw_of 23 _ (by decide +kernel) rfl
theorem gw_24 : (Cond.selects "QuoteGraphModel" y_M_create y_M_create) ∈ GW := gw_of 24 _ (by decide +kernel) rfl
theorem gw_25 : (Cond.selects "QuoteGraphModel" y_M_no y_M_no) ∈ GW := gw_of 25 _ (by decide +kernel) rfl
theorem gw_26 : (Cond.selects "QuoteGraphModel" y_M_noOption y_M_noOption) ∈ GW := gw_of 26 _ (by decide +kernel) rfl
theorem gw_27 : (Cond.selects "QuoteGraphModel" y_M_badPart y_M_badPart) ∈ GW := gw_of 27 _ (by decide +kernel) rfl
theorem gw_28 : (Cond.selects "QuoteGraphModel" y_M_hangs y_M_hangs) ∈ GW := gw_of 28 _ (by decide +kernel) rfl
theorem gw_29 : (Cond.selects "QuoteGraphModel" y_M_tell y_M_tell) ∈ GW := gw_of 29 _ (by decide +kernel) rfl
theorem gw_30 : (Cond.selects "QuoteGraphModel" y_M_users y_M_users) ∈ GW := gw_of 30 _ (by decide +kernel) rfl
theorem gw_31 : (Cond.selects "QuoteGraphModel" y_M_ask y_M_ask) ∈ GW := gw_of 31 _ (by decide +kernel) rfl
theorem gw_32 : (Cond.selects "QuoteGraphModel" y_M_result y_M_result) ∈ GW := gw_of 32 _ (by decide +kernel) rfl
theorem gw_33 : (Cond.selects "QuoteGraphModel" y_M_floored y_M_floored) ∈ GW := gw_of 33 _ (by decide +kernel) rfl
theorem gw_34 : (Cond.selects "QuoteGraphModel" y_M_valueOfOption y_M_valueOfOption) ∈ GW := gw_of 34 _ (by decide +kernel) rfl
theorem gw_35 : (Cond.selects "QuoteGraphModel" y_M_lattice y_M_lattice) ∈ GW := gw_of 35 _ (by decide +kernel) rfl
theorem gw_36 : (Cond.selects "QuoteGraphModel" y_M_payoff y_M_payoff) ∈ GW := gw_of 36 _ (by decide +kernel) rfl
theorem gw_37 : (Cond.selects "QuoteGraphModel" y_M_earlier y_M_earlier) ∈ GW := gw_of 37 _ (by decide +kernel) rfl
theorem gw_38 : (Cond.selects "QuoteGraphModel" y_M_bounded y_M_bounded) ∈ GW := gw_of 38 _ (by decide +kernel) rfl
theorem gw_39 : (Cond.selects "QuoteGraphModel" y_M_paths y_M_paths) ∈ GW := gw_of 39 _ (by decide +kernel) rfl
theorem gw_40 : (Cond.selects "QuoteGraphModel" y_M_net y_M_net) ∈ GW := gw_of 40 _ (by decide +kernel) rfl
theorem gw_41 : (Cond.initialized "QuoteGraphLaw") ∈ GW := gw_of 41 _ (by decide +kernel) rfl
theorem gw_42 : (Cond.initialized "QuoteGraph") ∈ GW := gw_of 42 _ (by decide +kernel) rfl
theorem gw_43 : (Cond.initialized "QuoteGraph$Engine") ∈ GW := gw_of 43 _ (by decide +kernel) rfl
theorem gw_44 : (Cond.initialized "QuoteGraph$Lattice") ∈ GW := gw_of 44 _ (by decide +kernel) rfl
theorem gw_45 : (Cond.initialized "QuoteGraph$Paths") ∈ GW := gw_of 45 _ (by decide +kernel) rfl
theorem gw_46 : (Cond.initialized "QuoteGraph$Net") ∈ GW := gw_of 46 _ (by decide +kernel) rfl
theorem gw_47 : (Cond.initialized "QuoteGraphModel") ∈ GW := gw_of 47 _ (by decide +kernel) rfl
theorem gw_48 : (Cond.initialized "java/lang/Throwable") ∈ GW := gw_of 48 _ (by decide +kernel) rfl
theorem gw_49 : (Cond.initialized "java/lang/Exception") ∈ GW := gw_of 49 _ (by decide +kernel) rfl
theorem gw_50 : (Cond.initialized "java/lang/RuntimeException") ∈ GW := gw_of 50 _ (by decide +kernel) rfl
theorem gw_51 : (Cond.initialized "java/lang/IllegalArgumentException") ∈ GW := gw_of 51 _ (by decide +kernel) rfl
theorem gw_52 : (Cond.initialized "java/lang/IllegalStateException") ∈ GW := gw_of 52 _ (by decide +kernel) rfl
theorem gw_53 : (Cond.initialized "QuoteGraph$Node") ∈ GW := gw_of 53 _ (by decide +kernel) rfl
theorem gw_54 : (Cond.initialized "QuoteGraph$Quote") ∈ GW := gw_of 54 _ (by decide +kernel) rfl
theorem gw_55 : (Cond.initialized "QuoteGraph$Blend") ∈ GW := gw_of 55 _ (by decide +kernel) rfl
theorem gw_56 : (Cond.initialized "QuoteGraph$Greater") ∈ GW := gw_of 56 _ (by decide +kernel) rfl
theorem gw_57 : (Cond.initialized "QuoteGraph$Option") ∈ GW := gw_of 57 _ (by decide +kernel) rfl
theorem gw_58 : (Cond.initialized "java/lang/ArithmeticException") ∈ GW := gw_of 58 _ (by decide +kernel) rfl
theorem gw_59 : (Cond.initialized "java/lang/Math") ∈ GW := gw_of 59 _ (by decide +kernel) rfl
theorem gw_60 : (Cond.initialized "java/lang/UnsupportedOperationException") ∈ GW := gw_of 60 _ (by decide +kernel) rfl
theorem gw_61 : (Cond.initialized "java/lang/Enum") ∈ GW := gw_of 61 _ (by decide +kernel) rfl
theorem gw_62 : (Cond.initialized "QuoteGraph$Trouble") ∈ GW := gw_of 62 _ (by decide +kernel) rfl
theorem gw_63 : (Cond.classLink "QuoteGraphLaw" 8 "QuoteGraph") ∈ GW := gw_of 63 _ (by decide +kernel) rfl
theorem gw_64 : (Cond.instantiable "QuoteGraph" 6) ∈ GW := gw_of 64 _ (by decide +kernel) rfl
theorem gw_65 : (Cond.methodLink "QuoteGraphLaw" 64 y_Q_init) ∈ GW := gw_of 65 _ (by decide +kernel) rfl
theorem gw_66 : (Cond.instanceMethod y_Q_init) ∈ GW := gw_of 66 _ (by decide +kernel) rfl
theorem gw_67 : (Cond.code y_Q_init b_Q_init 1 none) ∈ GW := gw_of 67 _ (by decide +kernel) rfl
theorem gw_68 : (Cond.methodLink "QuoteGraph" 3 ⟨"java/lang/Object", "<init>", "()V"⟩) ∈ GW := gw_of 68 _ (by decide +kernel) rfl
theorem gw_69 : (Cond.instanceMethod ⟨"java/lang/Object", "<init>", "()V"⟩) ∈ GW := gw_of 69 _ (by decide +kernel) rfl
theorem gw_70 : (Cond.code ⟨"java/lang/Object", "<init>", "()V"⟩ object_method_1_code 1 none) ∈ GW := gw_of 70 _ (by decide +kernel) rfl
theorem gw_71 : (Cond.classLink "QuoteGraph" 9 "QuoteGraph$Node") ∈ GW := gw_of 71 _ (by decide +kernel) rfl
theorem gw_73 : (Cond.classLink "QuoteGraph" 15 "QuoteGraph$Engine") ∈ GW := gw_of 73 _ (by decide +kernel) rfl
theorem gw_75 : (Cond.classLink "QuoteGraph" 17 "QuoteGraph$Lattice") ∈ GW := gw_of 75 _ (by decide +kernel) rfl
theorem gw_76 : (Cond.instantiable "QuoteGraph$Lattice" 3) ∈ GW := gw_of 76 _ (by decide +kernel) rfl
theorem gw_77 : (Cond.methodLink "QuoteGraph" 19 y_La_init) ∈ GW := gw_of 77 _ (by decide +kernel) rfl
theorem gw_78 : (Cond.instanceMethod y_La_init) ∈ GW := gw_of 78 _ (by decide +kernel) rfl
theorem gw_79 : (Cond.code y_La_init b_La_init 1 none) ∈ GW := gw_of 79 _ (by decide +kernel) rfl
theorem gw_80 : (Cond.methodLink "QuoteGraph$Lattice" 3 y_En_init) ∈ GW := gw_of 80 _ (by decide +kernel) rfl
theorem gw_81 : (Cond.instanceMethod y_En_init) ∈ GW := gw_of 81 _ (by decide +kernel) rfl
theorem gw_82 : (Cond.code y_En_init b_En_init 3 none) ∈ GW := gw_of 82 _ (by decide +kernel) rfl
theorem gw_83 : (Cond.methodLink "QuoteGraph$Engine" 1 ⟨"java/lang/Object", "<init>", "()V"⟩) ∈ GW := gw_of 83 _ (by decide +kernel) rfl
theorem gw_84 : (Cond.fieldLink "QuoteGraph$Lattice" 9 "QuoteGraph$Lattice" "row" "[J") ∈ GW := gw_of 84 _ (by decide +kernel) rfl
theorem gw_85 : (Cond.fieldLink "QuoteGraph$Engine" 7 "QuoteGraph$Engine" "leastSize" "I") ∈ GW := gw_of 85 _ (by decide +kernel) rfl
theorem gw_86 : (Cond.fieldLink "QuoteGraph" 107 "QuoteGraph$Engine" "leastSize" "I") ∈ GW := gw_of 86 _ (by decide +kernel) rfl
theorem gw_87 : (Cond.fieldLink "QuoteGraph$Engine" 13 "QuoteGraph$Engine" "mostSize" "I") ∈ GW := gw_of 87 _ (by decide +kernel) rfl
theorem gw_88 : (Cond.fieldLink "QuoteGraph" 110 "QuoteGraph$Engine" "mostSize" "I") ∈ GW := gw_of 88 _ (by decide +kernel) rfl
theorem gw_89 : (Cond.laysFinal "QuoteGraph$Lattice" "QuoteGraph$Lattice" "row" "[J") ∈ GW := gw_of 89 _ (by decide +kernel) rfl
theorem gw_90 : (Cond.soleField "QuoteGraph$Lattice" "row") ∈ GW := gw_of 90 _ (by decide +kernel) rfl
theorem gw_91 : (Cond.laysFinal "QuoteGraph$Lattice" "QuoteGraph$Engine" "leastSize" "I") ∈ GW := gw_of 91 _ (by decide +kernel) rfl
theorem gw_92 : (Cond.soleField "QuoteGraph$Engine" "leastSize") ∈ GW := gw_of 92 _ (by decide +kernel) rfl
theorem gw_93 : (Cond.laysFinal "QuoteGraph$Lattice" "QuoteGraph$Engine" "mostSize" "I") ∈ GW := gw_of 93 _ (by decide +kernel) rfl
theorem gw_94 : (Cond.soleField "QuoteGraph$Engine" "mostSize") ∈ GW := gw_of 94 _ (by decide +kernel) rfl
theorem gw_95 : (Cond.superclass "QuoteGraph$Lattice" "QuoteGraph$Engine") ∈ GW := gw_of 95 _ (by decide +kernel) rfl
theorem gw_96 : (Cond.arrayClass .long) ∈ GW := gw_of 96 _ (by decide +kernel) rfl
theorem gw_97 : (Cond.classLink "QuoteGraph" 20 "QuoteGraph$Paths") ∈ GW := gw_of 97 _ (by decide +kernel) rfl
theorem gw_98 : (Cond.instantiable "QuoteGraph$Paths" 3) ∈ GW := gw_of 98 _ (by decide +kernel) rfl
theorem gw_99 : (Cond.methodLink "QuoteGraph" 22 y_Pa_init) ∈ GW := gw_of 99 _ (by decide +kernel) rfl
theorem gw_100 : (Cond.instanceMethod y_Pa_init) ∈ GW := gw_of 100 _ (by decide +kernel) rfl
theorem gw_101 : (Cond.code y_Pa_init b_Pa_init 1 none) ∈ GW := gw_of 101 _ (by decide +kernel) rfl
theorem gw_102 : (Cond.methodLink "QuoteGraph$Paths" 3 y_En_init) ∈ GW := gw_of 102 _ (by decide +kernel) rfl
theorem gw_103 : (Cond.fieldLink "QuoteGraph$Paths" 26 "QuoteGraph$Paths" "draw" "J") ∈ GW := gw_of 103 _ (by decide +kernel) rfl
theorem gw_104 : (Cond.lays "QuoteGraph$Paths" "QuoteGraph$Paths" "draw" "J") ∈ GW := gw_of 104 _ (by decide +kernel) rfl
theorem gw_105 : (Cond.soleField "QuoteGraph$Paths" "draw") ∈ GW := gw_of 105 _ (by decide +kernel) rfl
theorem gw_106 : (Cond.laysFinal "QuoteGraph$Paths" "QuoteGraph$Engine" "leastSize" "I") ∈ GW := gw_of 106 _ (by decide +kernel) rfl
theorem gw_107 : (Cond.laysFinal "QuoteGraph$Paths" "QuoteGraph$Engine" "mostSize" "I") ∈ GW := gw_of 107 _ (by decide +kernel) rfl
theorem gw_108 : (Cond.superclass "QuoteGraph$Paths" "QuoteGraph$Engine") ∈ GW := gw_of 108 _ (by decide +kernel) rfl
theorem gw_109 : (Cond.classLink "QuoteGraph" 23 "QuoteGraph$Net") ∈ GW := gw_of 109 _ (by decide +kernel) rfl
theorem gw_110 : (Cond.instantiable "QuoteGraph$Net" 3) ∈ GW := gw_of 110 _ (by decide +kernel) rfl
theorem gw_111 : (Cond.methodLink "QuoteGraph" 25 y_Ne_init) ∈ GW := gw_of 111 _ (by decide +kernel) rfl
theorem gw_112 : (Cond.instanceMethod y_Ne_init) ∈ GW := gw_of 112 _ (by decide +kernel) rfl
theorem gw_113 : (Cond.code y_Ne_init b_Ne_init 1 none) ∈ GW := gw_of 113 _ (by decide +kernel) rfl
theorem gw_114 : (Cond.methodLink "QuoteGraph$Net" 3 y_En_init) ∈ GW := gw_of 114 _ (by decide +kernel) rfl
theorem gw_115 : (Cond.fieldLink "QuoteGraph$Net" 9 "QuoteGraph$Net" "row" "[J") ∈ GW := gw_of 115 _ (by decide +kernel) rfl
theorem gw_116 : (Cond.laysFinal "QuoteGraph$Net" "QuoteGraph$Net" "row" "[J") ∈ GW := gw_of 116 _ (by decide +kernel) rfl
theorem gw_117 : (Cond.soleField "QuoteGraph$Net" "row") ∈ GW := gw_of 117 _ (by decide +kernel) rfl
theorem gw_118 : (Cond.laysFinal "QuoteGraph$Net" "QuoteGraph$Engine" "leastSize" "I") ∈ GW := gw_of 118 _ (by decide +kernel) rfl
theorem gw_119 : (Cond.laysFinal "QuoteGraph$Net" "QuoteGraph$Engine" "mostSize" "I") ∈ GW := gw_of 119 _ (by decide +kernel) rfl
theorem gw_120 : (Cond.superclass "QuoteGraph$Net" "QuoteGraph$Engine") ∈ GW := gw_of 120 _ (by decide +kernel) rfl
theorem gw_121 : (Cond.fieldLink "QuoteGraph" 11 "QuoteGraph" "nodes" "[LQuoteGraph$Node;") ∈ GW := gw_of 121 _ (by decide +kernel) rfl
theorem gw_122 : (Cond.fieldLink "QuoteGraph" 26 "QuoteGraph" "engines" "[LQuoteGraph$Engine;") ∈ GW := gw_of 122 _ (by decide +kernel) rfl
theorem gw_123 : (Cond.fieldLink "QuoteGraph" 42 "QuoteGraph" "nodeCount" "I") ∈ GW := gw_of 123 _ (by decide +kernel) rfl
theorem gw_124 : (Cond.fieldLink "QuoteGraph" 120 "QuoteGraph" "toldCount" "I") ∈ GW := gw_of 124 _ (by decide +kernel) rfl
theorem gw_125 : (Cond.fieldLink "QuoteGraph" 189 "QuoteGraph" "workedCount" "I") ∈ GW := gw_of 125 _ (by decide +kernel) rfl
theorem gw_126 : (Cond.fieldLink "QuoteGraph" 192 "QuoteGraph" "failureCount" "I") ∈ GW := gw_of 126 _ (by decide +kernel) rfl
theorem gw_127 : (Cond.laysFinal "QuoteGraph" "QuoteGraph" "nodes" "[LQuoteGraph$Node;") ∈ GW := gw_of 127 _ (by decide +kernel) rfl
theorem gw_128 : (Cond.soleField "QuoteGraph" "nodes") ∈ GW := gw_of 128 _ (by decide +kernel) rfl
theorem gw_129 : (Cond.laysFinal "QuoteGraph" "QuoteGraph" "engines" "[LQuoteGraph$Engine;") ∈ GW := gw_of 129 _ (by decide +kernel) rfl
theorem gw_130 : (Cond.soleField "QuoteGraph" "engines") ∈ GW := gw_of 130 _ (by decide +kernel) rfl
theorem gw_131 : (Cond.lays "QuoteGraph" "QuoteGraph" "nodeCount" "I") ∈ GW := gw_of 131 _ (by decide +kernel) rfl
theorem gw_132 : (Cond.soleField "QuoteGraph" "nodeCount") ∈ GW := gw_of 132 _ (by decide +kernel) rfl
theorem gw_133 : (Cond.lays "QuoteGraph" "QuoteGraph" "toldCount" "I") ∈ GW := gw_of 133 _ (by decide +kernel) rfl
theorem gw_134 : (Cond.soleField "QuoteGraph" "toldCount") ∈ GW := gw_of 134 _ (by decide +kernel) rfl
theorem gw_135 : (Cond.lays "QuoteGraph" "QuoteGraph" "workedCount" "I") ∈ GW := gw_of 135 _ (by decide +kernel) rfl
theorem gw_136 : (Cond.soleField "QuoteGraph" "workedCount") ∈ GW := gw_of 136 _ (by decide +kernel) rfl
theorem gw_137 : (Cond.lays "QuoteGraph" "QuoteGraph" "failureCount" "I") ∈ GW := gw_of 137 _ (by decide +kernel) rfl
theorem gw_138 : (Cond.soleField "QuoteGraph" "failureCount") ∈ GW := gw_of 138 _ (by decide +kernel) rfl
theorem gw_139 : (Cond.superclass "QuoteGraph" "java/lang/Object") ∈ GW := gw_of 139 _ (by decide +kernel) rfl
theorem gw_140 : (Cond.methodLink "QuoteGraphLaw" 122 y_Q_count) ∈ GW := gw_of 140 _ (by decide +kernel) rfl
theorem gw_141 : (Cond.instanceMethod y_Q_count) ∈ GW := gw_of 141 _ (by decide +kernel) rfl
theorem gw_142 : (Cond.selects "QuoteGraph" y_Q_count y_Q_count) ∈ GW := gw_of 142 _ (by decide +kernel) rfl
theorem gw_143 : (Cond.code y_Q_count b_Q_count 2 (some .int)) ∈ GW := gw_of 143 _ (by decide +kernel) rfl
theorem gw_144 : (Cond.methodLink "QuoteGraphLaw" 70 y_L_quote) ∈ GW := gw_of 144 _ (by decide +kernel) rfl
theorem gw_145 : (Cond.static y_L_quote) ∈ GW := gw_of 145 _ (by decide +kernel) rfl
theorem gw_146 : (Cond.codeWith y_L_quote b_L_quote 5 (some .int) [(0, 9, 12, 13), (0, 9, 16, 15)]) ∈ GW := gw_of 146 _ (by decide +kernel) rfl
theorem gw_147 : (Cond.classLink "QuoteGraphLaw" 13 "java/lang/IllegalArgumentException") ∈ GW := gw_of 147 _ (by decide +kernel) rfl
theorem gw_148 : (Cond.classLink "QuoteGraphLaw" 15 "java/lang/IllegalStateException") ∈ GW := gw_of 148 _ (by decide +kernel) rfl
theorem gw_149 : (Cond.methodLink "QuoteGraphLaw" 7 y_Q_quote) ∈ GW := gw_of 149 _ (by decide +kernel) rfl
theorem gw_150 : (Cond.instanceMethod y_Q_quote) ∈ GW := gw_of 150 _ (by decide +kernel) rfl
theorem gw_151 : (Cond.selects "QuoteGraph" y_Q_quote y_Q_quote) ∈ GW := gw_of 151 _ (by decide +kernel) rfl
theorem gw_152 : (Cond.code y_Q_quote b_Q_quote 5 (some .int)) ∈ GW := gw_of 152 _ (by decide +kernel) rfl
theorem gw_153 : (Cond.constantLong "QuoteGraph" 30 128) ∈ GW := gw_of 153 _ (by decide +kernel) rfl
theorem gw_154 : (Cond.constant "QuoteGraph" 32 100000) ∈ GW := gw_of 154 _ (by decide +kernel) rfl
theorem gw_155 : (Cond.methodLink "QuoteGraph" 33 y_Q_eighthsOf) ∈ GW := gw_of 155 _ (by decide +kernel) rfl
theorem gw_156 : (Cond.static y_Q_eighthsOf) ∈ GW := gw_of 156 _ (by decide +kernel) rfl
theorem gw_157 : (Cond.code y_Q_eighthsOf b_Q_eighthsOf 5 (some .long)) ∈ GW := gw_of 157 _ (by decide +kernel) rfl
theorem gw_158 : (Cond.constantDouble "QuoteGraph" 205 4620693217682128896) ∈ GW := gw_of 158 _ (by decide +kernel) rfl
theorem gw_159 : (Cond.classLink "QuoteGraph" 143 "java/lang/IllegalArgumentException") ∈ GW := gw_of 159 _ (by decide +kernel) rfl
theorem gw_160 : (Cond.instantiable "java/lang/IllegalArgumentException" 6) ∈ GW := gw_of 160 _ (by decide +kernel) rfl
theorem gw_168 : (Cond.selects "java/lang/IllegalArgumentException" ⟨"java/lang/Throwable", "fillInStackTrace", "(I)Ljava/lang/Throwable;"⟩ ⟨"java/lang/Throwable", "fillInStackTrace", "(I)Ljava/lang/Throwable;"⟩) ∈ GW := gw_of 168 _ (by decide +kernel) rfl
theorem gw_169 : (Cond.selects "java/lang/IllegalArgumentException" ⟨"java/lang/Throwable", "fillInStackTrace", "()Ljava/lang/Throwable;"⟩ ⟨"java/lang/Throwable", "fillInStackTrace", "()Ljava/lang/Throwable;"⟩) ∈ GW := gw_of 169 _ (by decide +kernel) rfl
theorem gw_170 : (Cond.lays "java/lang/IllegalArgumentException" "java/lang/Throwable" "cause" "Ljava/lang/Throwable;") ∈ GW := gw_of 170 _ (by decide +kernel) rfl
theorem gw_171 : (Cond.lays "java/lang/Throwable" "java/lang/Throwable" "cause" "Ljava/lang/Throwable;") ∈ GW := gw_of 171 _ (by decide +kernel) rfl
theorem gw_172 : (Cond.lays "java/lang/IllegalArgumentException" "java/lang/Throwable" "stackTrace" "[Ljava/lang/StackTraceElement;") ∈ GW := gw_of 172 _ (by decide +kernel) rfl
theorem gw_173 : (Cond.lays "java/lang/Throwable" "java/lang/Throwable" "stackTrace" "[Ljava/lang/StackTraceElement;") ∈ GW := gw_of 173 _ (by decide +kernel) rfl
theorem gw_174 : (Cond.lays "java/lang/IllegalArgumentException" "java/lang/Throwable" "suppressedExceptions" "Ljava/util/List;") ∈ GW := gw_of 174 _ (by decide +kernel) rfl
theorem gw_175 : (Cond.lays "java/lang/Throwable" "java/lang/Throwable" "suppressedExceptions" "Ljava/util/List;") ∈ GW := gw_of 175 _ (by decide +kernel) rfl
theorem gw_176 : (Cond.lays "java/lang/IllegalArgumentException" "java/lang/Throwable" "detailMessage" "Ljava/lang/String;") ∈ GW := gw_of 176 _ (by decide +kernel) rfl
theorem gw_177 : (Cond.lays "java/lang/Throwable" "java/lang/Throwable" "detailMessage" "Ljava/lang/String;") ∈ GW := gw_of 177 _ (by decide +kernel) rfl
theorem gw_178 : (Cond.lays "java/lang/IllegalArgumentException" "java/lang/Throwable" "backtrace" "Ljava/lang/Object;") ∈ GW := gw_of 178 _ (by decide +kernel) rfl
theorem gw_179 : (Cond.lays "java/lang/Throwable" "java/lang/Throwable" "backtrace" "Ljava/lang/Object;") ∈ GW := gw_of 179 _ (by decide +kernel) rfl
theorem gw_180 : (Cond.fieldLink "java/lang/Throwable" 198 "java/lang/Throwable" "backtrace" "Ljava/lang/Object;") ∈ GW := gw_of 180 _ (by decide +kernel) rfl
theorem gw_181 : (Cond.superclass "java/lang/Throwable" "java/lang/Object") ∈ GW := gw_of 181 _ (by decide +kernel) rfl
theorem gw_182 : (Cond.instanceMethod ⟨"java/lang/Throwable", "<init>", "()V"⟩) ∈ GW := gw_of 182 _ (by decide +kernel) rfl
theorem gw_183 : (Cond.code ⟨"java/lang/Throwable", "<init>", "()V"⟩ prog_22_method_1_code 1 none) ∈ GW := gw_of 183 _ (by decide +kernel) rfl
theorem gw_184 : (Cond.methodLink "java/lang/Throwable" 1 ⟨"java/lang/Object", "<init>", "()V"⟩) ∈ GW := gw_of 184 _ (by decide +kernel) rfl
theorem gw_185 : (Cond.fieldLink "java/lang/Throwable" 13 "java/lang/Throwable" "UNASSIGNED_STACK" "[Ljava/lang/StackTraceElement;") ∈ GW := gw_of 185 _ (by decide +kernel) rfl
theorem gw_187 : (Cond.fieldLink "java/lang/Throwable" 20 "java/lang/Throwable" "SUPPRESSED_SENTINEL" "Ljava/util/List;") ∈ GW := gw_of 187 _ (by decide +kernel) rfl
theorem gw_189 : (Cond.methodLink "java/lang/Throwable" 27 ⟨"java/lang/Throwable", "fillInStackTrace", "()Ljava/lang/Throwable;"⟩) ∈ GW := gw_of 189 _ (by decide +kernel) rfl
theorem gw_190 : (Cond.instanceMethod ⟨"java/lang/Throwable", "fillInStackTrace", "()Ljava/lang/Throwable;"⟩) ∈ GW := gw_of 190 _ (by decide +kernel) rfl
theorem gw_191 : (Cond.sameMethod "java/lang/Throwable" "java/lang/Throwable" "fillInStackTrace" "()Ljava/lang/Throwable;") ∈ GW := gw_of 191 _ (by decide +kernel) rfl
theorem gw_192 : (Cond.selects "java/lang/ArithmeticException" ⟨"java/lang/Throwable", "fillInStackTrace", "()Ljava/lang/Throwable;"⟩ ⟨"java/lang/Throwable", "fillInStackTrace", "()Ljava/lang/Throwable;"⟩) ∈ GW := gw_of 192 _ (by decide +kernel) rfl
theorem gw_193 : (Cond.selects "java/lang/IllegalStateException" ⟨"java/lang/Throwable", "fillInStackTrace", "()Ljava/lang/Throwable;"⟩ ⟨"java/lang/Throwable", "fillInStackTrace", "()Ljava/lang/Throwable;"⟩) ∈ GW := gw_of 193 _ (by decide +kernel) rfl
theorem gw_194 : (Cond.selects "java/lang/UnsupportedOperationException" ⟨"java/lang/Throwable", "fillInStackTrace", "()Ljava/lang/Throwable;"⟩ ⟨"java/lang/Throwable", "fillInStackTrace", "()Ljava/lang/Throwable;"⟩) ∈ GW := gw_of 194 _ (by decide +kernel) rfl
theorem gw_195 : (Cond.codeSync ⟨"java/lang/Throwable", "fillInStackTrace", "()Ljava/lang/Throwable;"⟩ prog_22_method_18_code 1 (some (.object "java/lang/Throwable"))) ∈ GW := gw_of 195 _ (by decide +kernel) rfl
theorem gw_196 : (Cond.methodLink "java/lang/Throwable" 202 ⟨"java/lang/Throwable", "fillInStackTrace", "(I)Ljava/lang/Throwable;"⟩) ∈ GW := gw_of 196 _ (by decide +kernel) rfl
theorem gw_198 : (Cond.instanceMethod ⟨"java/lang/Throwable", "fillInStackTrace", "(I)Ljava/lang/Throwable;"⟩) ∈ GW := gw_of 198 _ (by decide +kernel) rfl
theorem gw_199 : (Cond.instantiable "java/lang/Throwable" 6) ∈ GW := gw_of 199 _ (by decide +kernel) rfl
theorem gw_200 : (Cond.native ⟨"java/lang/Throwable", "fillInStackTrace", "(I)Ljava/lang/Throwable;"⟩) ∈ GW := gw_of 200 _ (by decide +kernel) rfl
theorem gw_202 : (Cond.methodLink "QuoteGraph" 147 ⟨"java/lang/IllegalArgumentException", "<init>", "(Ljava/lang/String;)V"⟩) ∈ GW := gw_of 202 _ (by decide +kernel) rfl
theorem gw_203 : (Cond.instanceMethod ⟨"java/lang/IllegalArgumentException", "<init>", "(Ljava/lang/String;)V"⟩) ∈ GW := gw_of 203 _ (by decide +kernel) rfl
theorem gw_204 : (Cond.code ⟨"java/lang/IllegalArgumentException", "<init>", "(Ljava/lang/String;)V"⟩ prog_17_method_2_code 2 none) ∈ GW := gw_of 204 _ (by decide +kernel) rfl
theorem gw_205 : (Cond.methodLink "java/lang/IllegalArgumentException" 7 ⟨"java/lang/RuntimeException", "<init>", "(Ljava/lang/String;)V"⟩) ∈ GW := gw_of 205 _ (by decide +kernel) rfl
theorem gw_206 : (Cond.instanceMethod ⟨"java/lang/RuntimeException", "<init>", "(Ljava/lang/String;)V"⟩) ∈ GW := gw_of 206 _ (by decide +kernel) rfl
theorem gw_207 : (Cond.code ⟨"java/lang/RuntimeException", "<init>", "(Ljava/lang/String;)V"⟩ prog_20_method_2_code 2 none) ∈ GW := gw_of 207 _ (by decide +kernel) rfl
theorem gw_208 : (Cond.methodLink "java/lang/RuntimeException" 7 ⟨"java/lang/Exception", "<init>", "(Ljava/lang/String;)V"⟩) ∈ GW := gw_of 208 _ (by decide +kernel) rfl
theorem gw_209 : (Cond.instanceMethod ⟨"java/lang/Exception", "<init>", "(Ljava/lang/String;)V"⟩) ∈ GW := gw_of 209 _ (by decide +kernel) rfl
theorem gw_210 : (Cond.code ⟨"java/lang/Exception", "<init>", "(Ljava/lang/String;)V"⟩ prog_16_method_2_code 2 none) ∈ GW := gw_of 210 _ (by decide +kernel) rfl
theorem gw_211 : (Cond.methodLink "java/lang/Exception" 7 ⟨"java/lang/Throwable", "<init>", "(Ljava/lang/String;)V"⟩) ∈ GW := gw_of 211 _ (by decide +kernel) rfl
theorem gw_212 : (Cond.instanceMethod ⟨"java/lang/Throwable", "<init>", "(Ljava/lang/String;)V"⟩) ∈ GW := gw_of 212 _ (by decide +kernel) rfl
theorem gw_213 : (Cond.code ⟨"java/lang/Throwable", "<init>", "(Ljava/lang/String;)V"⟩ prog_22_method_2_code 2 none) ∈ GW := gw_of 213 _ (by decide +kernel) rfl
theorem gw_215 : (Cond.fieldLink "java/lang/Throwable" 31 "java/lang/Throwable" "detailMessage" "Ljava/lang/String;") ∈ GW := gw_of 215 _ (by decide +kernel) rfl
theorem gw_216 : (Cond.fieldLink "java/lang/Throwable" 7 "java/lang/Throwable" "cause" "Ljava/lang/Throwable;") ∈ GW := gw_of 216 _ (by decide +kernel) rfl
theorem gw_217 : (Cond.fieldLink "java/lang/Throwable" 17 "java/lang/Throwable" "stackTrace" "[Ljava/lang/StackTraceElement;") ∈ GW := gw_of 217 _ (by decide +kernel) rfl
theorem gw_218 : (Cond.fieldLink "java/lang/Throwable" 24 "java/lang/Throwable" "suppressedExceptions" "Ljava/util/List;") ∈ GW := gw_of 218 _ (by decide +kernel) rfl
theorem gw_219 : (Cond.soleField "java/lang/Throwable" "backtrace") ∈ GW := gw_of 219 _ (by decide +kernel) rfl
theorem gw_220 : (Cond.soleField "java/lang/Throwable" "detailMessage") ∈ GW := gw_of 220 _ (by decide +kernel) rfl
theorem gw_221 : (Cond.soleField "java/lang/Throwable" "cause") ∈ GW := gw_of 221 _ (by decide +kernel) rfl
theorem gw_222 : (Cond.soleField "java/lang/Throwable" "stackTrace") ∈ GW := gw_of 222 _ (by decide +kernel) rfl
theorem gw_223 : (Cond.lays "java/lang/IllegalArgumentException" "java/lang/Throwable" "depth" "I") ∈ GW := gw_of 223 _ (by decide +kernel) rfl
theorem gw_224 : (Cond.soleField "java/lang/Throwable" "depth") ∈ GW := gw_of 224 _ (by decide +kernel) rfl
theorem gw_225 : (Cond.soleField "java/lang/Throwable" "suppressedExceptions") ∈ GW := gw_of 225 _ (by decide +kernel) rfl
theorem gw_226 : (Cond.superclass "java/lang/IllegalArgumentException" "java/lang/RuntimeException") ∈ GW := gw_of 226 _ (by decide +kernel) rfl
theorem gw_227 : (Cond.arrayClass .byte) ∈ GW := gw_of 227 _ (by decide +kernel) rfl
theorem gw_228 : (Cond.methodLink "QuoteGraph" 37 y_Q_checkRoom) ∈ GW := gw_of 228 _ (by decide +kernel) rfl
theorem gw_230 : (Cond.instanceMethod y_Q_checkRoom) ∈ GW := gw_of 230 _ (by decide +kernel) rfl
theorem gw_231 : (Cond.code y_Q_checkRoom b_Q_checkRoom 1 none) ∈ GW := gw_of 231 _ (by decide +kernel) rfl
theorem gw_232 : (Cond.classLink "QuoteGraph" 153 "java/lang/IllegalStateException") ∈ GW := gw_of 232 _ (by decide +kernel) rfl
theorem gw_233 : (Cond.instantiable "java/lang/IllegalStateException" 6) ∈ GW := gw_of 233 _ (by decide +kernel) rfl
theorem gw_235 : (Cond.selects "java/lang/IllegalStateException" ⟨"java/lang/Throwable", "fillInStackTrace", "(I)Ljava/lang/Throwable;"⟩ ⟨"java/lang/Throwable", "fillInStackTrace", "(I)Ljava/lang/Throwable;"⟩) ∈ GW := gw_of 235 _ (by decide +kernel) rfl
theorem gw_236 : (Cond.lays "java/lang/IllegalStateException" "java/lang/Throwable" "cause" "Ljava/lang/Throwable;") ∈ GW := gw_of 236 _ (by decide +kernel) rfl
theorem gw_237 : (Cond.lays "java/lang/IllegalStateException" "java/lang/Throwable" "stackTrace" "[Ljava/lang/StackTraceElement;") ∈ GW := gw_of 237 _ (by decide +kernel) rfl
theorem gw_238 : (Cond.lays "java/lang/IllegalStateException" "java/lang/Throwable" "suppressedExceptions" "Ljava/util/List;") ∈ GW := gw_of 238 _ (by decide +kernel) rfl
theorem gw_239 : (Cond.lays "java/lang/IllegalStateException" "java/lang/Throwable" "detailMessage" "Ljava/lang/String;") ∈ GW := gw_of 239 _ (by decide +kernel) rfl
theorem gw_240 : (Cond.lays "java/lang/IllegalStateException" "java/lang/Throwable" "backtrace" "Ljava/lang/Object;") ∈ GW := gw_of 240 _ (by decide +kernel) rfl
theorem gw_242 : (Cond.methodLink "QuoteGraph" 157 ⟨"java/lang/IllegalStateException", "<init>", "(Ljava/lang/String;)V"⟩) ∈ GW := gw_of 242 _ (by decide +kernel) rfl
theorem gw_243 : (Cond.instanceMethod ⟨"java/lang/IllegalStateException", "<init>", "(Ljava/lang/String;)V"⟩) ∈ GW := gw_of 243 _ (by decide +kernel) rfl
theorem gw_244 : (Cond.code ⟨"java/lang/IllegalStateException", "<init>", "(Ljava/lang/String;)V"⟩ prog_18_method_2_code 2 none) ∈ GW := gw_of 244 _ (by decide +kernel) rfl
theorem gw_245 : (Cond.methodLink "java/lang/IllegalStateException" 7 ⟨"java/lang/RuntimeException", "<init>", "(Ljava/lang/String;)V"⟩) ∈ GW := gw_of 245 _ (by decide +kernel) rfl
theorem gw_246 : (Cond.lays "java/lang/IllegalStateException" "java/lang/Throwable" "depth" "I") ∈ GW := gw_of 246 _ (by decide +kernel) rfl
theorem gw_247 : (Cond.superclass "java/lang/IllegalStateException" "java/lang/RuntimeException") ∈ GW := gw_of 247 _ (by decide +kernel) rfl
theorem gw_248 : (Cond.classLink "QuoteGraph" 40 "QuoteGraph$Quote") ∈ GW := gw_of 248 _ (by decide +kernel) rfl
theorem gw_249 : (Cond.instantiable "QuoteGraph$Quote" 10) ∈ GW := gw_of 249 _ (by decide +kernel) rfl
theorem gw_250 : (Cond.methodLink "QuoteGraph" 46 y_Qt_init) ∈ GW := gw_of 250 _ (by decide +kernel) rfl
theorem gw_251 : (Cond.instanceMethod y_Qt_init) ∈ GW := gw_of 251 _ (by decide +kernel) rfl
theorem gw_252 : (Cond.code y_Qt_init b_Qt_init 4 none) ∈ GW := gw_of 252 _ (by decide +kernel) rfl
theorem gw_253 : (Cond.classLink "QuoteGraph$Quote" 3 "QuoteGraph$Node") ∈ GW := gw_of 253 _ (by decide +kernel) rfl
theorem gw_254 : (Cond.methodLink "QuoteGraph$Quote" 5 y_Nd_init) ∈ GW := gw_of 254 _ (by decide +kernel) rfl
theorem gw_255 : (Cond.instanceMethod y_Nd_init) ∈ GW := gw_of 255 _ (by decide +kernel) rfl
theorem gw_256 : (Cond.code y_Nd_init b_Nd_init 4 none) ∈ GW := gw_of 256 _ (by decide +kernel) rfl
theorem gw_257 : (Cond.methodLink "QuoteGraph$Node" 1 ⟨"java/lang/Object", "<init>", "()V"⟩) ∈ GW := gw_of 257 _ (by decide +kernel) rfl
theorem gw_258 : (Cond.fieldLink "QuoteGraph$Node" 7 "QuoteGraph$Node" "number" "I") ∈ GW := gw_of 258 _ (by decide +kernel) rfl
theorem gw_259 : (Cond.fieldLink "QuoteGraph" 195 "QuoteGraph$Node" "number" "I") ∈ GW := gw_of 259 _ (by decide +kernel) rfl
theorem gw_260 : (Cond.fieldLink "QuoteGraph$Node" 13 "QuoteGraph$Node" "parts" "[LQuoteGraph$Node;") ∈ GW := gw_of 260 _ (by decide +kernel) rfl
theorem gw_261 : (Cond.fieldLink "QuoteGraph$Greater" 9 "QuoteGraph$Greater" "parts" "[LQuoteGraph$Node;") ∈ GW := gw_of 261 _ (by decide +kernel) rfl
theorem gw_262 : (Cond.sameField "QuoteGraph$Greater" "QuoteGraph$Node" "parts" "[LQuoteGraph$Node;") ∈ GW := gw_of 262 _ (by decide +kernel) rfl
theorem gw_263 : (Cond.fieldLink "QuoteGraph$Blend" 18 "QuoteGraph$Blend" "parts" "[LQuoteGraph$Node;") ∈ GW := gw_of 263 _ (by decide +kernel) rfl
theorem gw_264 : (Cond.sameField "QuoteGraph$Blend" "QuoteGraph$Node" "parts" "[LQuoteGraph$Node;") ∈ GW := gw_of 264 _ (by decide +kernel) rfl
theorem gw_265 : (Cond.fieldLink "QuoteGraph$Option" 41 "QuoteGraph$Option" "parts" "[LQuoteGraph$Node;") ∈ GW := gw_of 265 _ (by decide +kernel) rfl
theorem gw_266 : (Cond.sameField "QuoteGraph$Option" "QuoteGraph$Node" "parts" "[LQuoteGraph$Node;") ∈ GW := gw_of 266 _ (by decide +kernel) rfl
theorem gw_267 : (Cond.fieldLink "QuoteGraph" 232 "QuoteGraph$Node" "parts" "[LQuoteGraph$Node;") ∈ GW := gw_of 267 _ (by decide +kernel) rfl
theorem gw_268 : (Cond.fieldLink "QuoteGraph$Node" 17 "QuoteGraph$Node" "partCount" "I") ∈ GW := gw_of 268 _ (by decide +kernel) rfl
theorem gw_269 : (Cond.fieldLink "QuoteGraph$Option" 38 "QuoteGraph$Option" "partCount" "I") ∈ GW := gw_of 269 _ (by decide +kernel) rfl
theorem gw_270 : (Cond.sameField "QuoteGraph$Option" "QuoteGraph$Node" "partCount" "I") ∈ GW := gw_of 270 _ (by decide +kernel) rfl
theorem gw_271 : (Cond.fieldLink "QuoteGraph" 181 "QuoteGraph$Node" "partCount" "I") ∈ GW := gw_of 271 _ (by decide +kernel) rfl
theorem gw_272 : (Cond.fieldLink "QuoteGraph$Quote" 9 "QuoteGraph$Quote" "amount" "J") ∈ GW := gw_of 272 _ (by decide +kernel) rfl
theorem gw_273 : (Cond.sameField "QuoteGraph$Quote" "QuoteGraph$Node" "amount" "J") ∈ GW := gw_of 273 _ (by decide +kernel) rfl
theorem gw_274 : (Cond.fieldLink "QuoteGraph$Greater" 15 "QuoteGraph$Node" "amount" "J") ∈ GW := gw_of 274 _ (by decide +kernel) rfl
theorem gw_275 : (Cond.fieldLink "QuoteGraph$Blend" 22 "QuoteGraph$Node" "amount" "J") ∈ GW := gw_of 275 _ (by decide +kernel) rfl
theorem gw_276 : (Cond.fieldLink "QuoteGraph$Paths" 49 "QuoteGraph$Node" "amount" "J") ∈ GW := gw_of 276 _ (by decide +kernel) rfl
theorem gw_277 : (Cond.fieldLink "QuoteGraph$Option" 55 "QuoteGraph$Node" "amount" "J") ∈ GW := gw_of 277 _ (by decide +kernel) rfl
theorem gw_278 : (Cond.fieldLink "QuoteGraph$Node" 24 "QuoteGraph$Node" "amount" "J") ∈ GW := gw_of 278 _ (by decide +kernel) rfl
theorem gw_279 : (Cond.fieldLink "QuoteGraph" 123 "QuoteGraph$Quote" "amount" "J") ∈ GW := gw_of 279 _ (by decide +kernel) rfl
theorem gw_280 : (Cond.fieldLink "QuoteGraph" 138 "QuoteGraph$Node" "amount" "J") ∈ GW := gw_of 280 _ (by decide +kernel) rfl
theorem gw_281 : (Cond.fieldLink "QuoteGraph$Quote" 15 "QuoteGraph$Quote" "valid" "Z") ∈ GW := gw_of 281 _ (by decide +kernel) rfl
theorem gw_282 : (Cond.sameField "QuoteGraph$Quote" "QuoteGraph$Node" "valid" "Z") ∈ GW := gw_of 282 _ (by decide +kernel) rfl
theorem gw_283 : (Cond.fieldLink "QuoteGraph$Node" 31 "QuoteGraph$Node" "valid" "Z") ∈ GW := gw_of 283 _ (by decide +kernel) rfl
theorem gw_284 : (Cond.fieldLink "QuoteGraph" 150 "QuoteGraph$Node" "valid" "Z") ∈ GW := gw_of 284 _ (by decide +kernel) rfl
theorem gw_285 : (Cond.fieldLink "QuoteGraph" 158 "QuoteGraph$Node" "frozen" "Z") ∈ GW := gw_of 285 _ (by decide +kernel) rfl
theorem gw_286 : (Cond.fieldLink "QuoteGraph" 200 "QuoteGraph$Option" "frozen" "Z") ∈ GW := gw_of 286 _ (by decide +kernel) rfl
theorem gw_287 : (Cond.sameField "QuoteGraph$Option" "QuoteGraph$Node" "frozen" "Z") ∈ GW := gw_of 287 _ (by decide +kernel) rfl
theorem gw_288 : (Cond.fieldLink "QuoteGraph" 161 "QuoteGraph$Node" "missed" "Z") ∈ GW := gw_of 288 _ (by decide +kernel) rfl
theorem gw_289 : (Cond.fieldLink "QuoteGraph" 184 "QuoteGraph$Node" "timesWorked" "I") ∈ GW := gw_of 289 _ (by decide +kernel) rfl
theorem gw_290 : (Cond.fieldLink "QuoteGraph$Node" 28 "QuoteGraph$Node" "rememberedAmount" "J") ∈ GW := gw_of 290 _ (by decide +kernel) rfl
theorem gw_291 : (Cond.fieldLink "QuoteGraph$Node" 35 "QuoteGraph$Node" "rememberedValid" "Z") ∈ GW := gw_of 291 _ (by decide +kernel) rfl
theorem gw_292 : (Cond.laysFinal "QuoteGraph$Quote" "QuoteGraph$Node" "number" "I") ∈ GW := gw_of 292 _ (by decide +kernel) rfl
theorem gw_293 : (Cond.soleField "QuoteGraph$Node" "number") ∈ GW := gw_of 293 _ (by decide +kernel) rfl
theorem gw_294 : (Cond.laysFinal "QuoteGraph$Quote" "QuoteGraph$Node" "parts" "[LQuoteGraph$Node;") ∈ GW := gw_of 294 _ (by decide +kernel) rfl
theorem gw_295 : (Cond.soleField "QuoteGraph$Node" "parts") ∈ GW := gw_of 295 _ (by decide +kernel) rfl
theorem gw_296 : (Cond.lays "QuoteGraph$Quote" "QuoteGraph$Node" "partCount" "I") ∈ GW := gw_of 296 _ (by decide +kernel) rfl
theorem gw_297 : (Cond.soleField "QuoteGraph$Node" "partCount") ∈ GW := gw_of 297 _ (by decide +kernel) rfl
theorem gw_298 : (Cond.lays "QuoteGraph$Quote" "QuoteGraph$Node" "amount" "J") ∈ GW := gw_of 298 _ (by decide +kernel) rfl
theorem gw_299 : (Cond.soleField "QuoteGraph$Node" "amount") ∈ GW := gw_of 299 _ (by decide +kernel) rfl
theorem gw_300 : (Cond.lays "QuoteGraph$Quote" "QuoteGraph$Node" "valid" "Z") ∈ GW := gw_of 300 _ (by decide +kernel) rfl
theorem gw_301 : (Cond.soleField "QuoteGraph$Node" "valid") ∈ GW := gw_of 301 _ (by decide +kernel) rfl
theorem gw_302 : (Cond.lays "QuoteGraph$Quote" "QuoteGraph$Node" "frozen" "Z") ∈ GW := gw_of 302 _ (by decide +kernel) rfl
theorem gw_303 : (Cond.soleField "QuoteGraph$Node" "frozen") ∈ GW := gw_of 303 _ (by decide +kernel) rfl
theorem gw_304 : (Cond.lays "QuoteGraph$Quote" "QuoteGraph$Node" "missed" "Z") ∈ GW := gw_of 304 _ (by decide +kernel) rfl
theorem gw_305 : (Cond.soleField "QuoteGraph$Node" "missed") ∈ GW := gw_of 305 _ (by decide +kernel) rfl
theorem gw_306 : (Cond.lays "QuoteGraph$Quote" "QuoteGraph$Node" "timesWorked" "I") ∈ GW := gw_of 306 _ (by decide +kernel) rfl
theorem gw_307 : (Cond.soleField "QuoteGraph$Node" "timesWorked") ∈ GW := gw_of 307 _ (by decide +kernel) rfl
theorem gw_308 : (Cond.lays "QuoteGraph$Quote" "QuoteGraph$Node" "rememberedAmount" "J") ∈ GW := gw_of 308 _ (by decide +kernel) rfl
theorem gw_309 : (Cond.soleField "QuoteGraph$Node" "rememberedAmount") ∈ GW := gw_of 309 _ (by decide +kernel) rfl
theorem gw_310 : (Cond.lays "QuoteGraph$Quote" "QuoteGraph$Node" "rememberedValid" "Z") ∈ GW := gw_of 310 _ (by decide +kernel) rfl
theorem gw_311 : (Cond.soleField "QuoteGraph$Node" "rememberedValid") ∈ GW := gw_of 311 _ (by decide +kernel) rfl
theorem gw_312 : (Cond.superclass "QuoteGraph$Quote" "QuoteGraph$Node") ∈ GW := gw_of 312 _ (by decide +kernel) rfl
theorem gw_313 : (Cond.methodLink "QuoteGraph" 49 y_Q_add) ∈ GW := gw_of 313 _ (by decide +kernel) rfl
theorem gw_315 : (Cond.instanceMethod y_Q_add) ∈ GW := gw_of 315 _ (by decide +kernel) rfl
theorem gw_316 : (Cond.code y_Q_add b_Q_add 2 (some .int)) ∈ GW := gw_of 316 _ (by decide +kernel) rfl
theorem gw_317 : (Cond.methodLink "QuoteGraphLaw" 80 y_L_blend) ∈ GW := gw_of 317 _ (by decide +kernel) rfl
theorem gw_318 : (Cond.static y_L_blend) ∈ GW := gw_of 318 _ (by decide +kernel) rfl
theorem gw_319 : (Cond.codeWith y_L_blend b_L_blend 9 (some .int) [(0, 14, 17, 13), (0, 14, 21, 15)]) ∈ GW := gw_of 319 _ (by decide +kernel) rfl
theorem gw_320 : (Cond.methodLink "QuoteGraphLaw" 17 y_Q_blend) ∈ GW := gw_of 320 _ (by decide +kernel) rfl
theorem gw_321 : (Cond.instanceMethod y_Q_blend) ∈ GW := gw_of 321 _ (by decide +kernel) rfl
theorem gw_322 : (Cond.selects "QuoteGraph" y_Q_blend y_Q_blend) ∈ GW := gw_of 322 _ (by decide +kernel) rfl
theorem gw_323 : (Cond.code y_Q_blend b_Q_blend 13 (some .int)) ∈ GW := gw_of 323 _ (by decide +kernel) rfl
theorem gw_324 : (Cond.methodLink "QuoteGraph" 53 y_Q_nodeAt) ∈ GW := gw_of 324 _ (by decide +kernel) rfl
theorem gw_326 : (Cond.instanceMethod y_Q_nodeAt) ∈ GW := gw_of 326 _ (by decide +kernel) rfl
theorem gw_327 : (Cond.code y_Q_nodeAt b_Q_nodeAt 2 (some (.object "QuoteGraph$Node"))) ∈ GW := gw_of 327 _ (by decide +kernel) rfl
theorem gw_328 : (Cond.methodLink "QuoteGraph" 211 y_Q_isThere) ∈ GW := gw_of 328 _ (by decide +kernel) rfl
theorem gw_330 : (Cond.instanceMethod y_Q_isThere) ∈ GW := gw_of 330 _ (by decide +kernel) rfl
theorem gw_331 : (Cond.code y_Q_isThere b_Q_isThere 2 (some .boolean)) ∈ GW := gw_of 331 _ (by decide +kernel) rfl
theorem gw_333 : (Cond.classLink "QuoteGraph" 57 "QuoteGraph$Blend") ∈ GW := gw_of 333 _ (by decide +kernel) rfl
theorem gw_334 : (Cond.instantiable "QuoteGraph$Blend" 12) ∈ GW := gw_of 334 _ (by decide +kernel) rfl
theorem gw_335 : (Cond.methodLink "QuoteGraph" 59 y_Bl_init) ∈ GW := gw_of 335 _ (by decide +kernel) rfl
theorem gw_336 : (Cond.instanceMethod y_Bl_init) ∈ GW := gw_of 336 _ (by decide +kernel) rfl
theorem gw_337 : (Cond.code y_Bl_init b_Bl_init 8 none) ∈ GW := gw_of 337 _ (by decide +kernel) rfl
theorem gw_338 : (Cond.classLink "QuoteGraph$Blend" 3 "QuoteGraph$Node") ∈ GW := gw_of 338 _ (by decide +kernel) rfl
theorem gw_339 : (Cond.methodLink "QuoteGraph$Blend" 5 y_Nd_init) ∈ GW := gw_of 339 _ (by decide +kernel) rfl
theorem gw_340 : (Cond.fieldLink "QuoteGraph$Blend" 9 "QuoteGraph$Blend" "firstEighths" "J") ∈ GW := gw_of 340 _ (by decide +kernel) rfl
theorem gw_341 : (Cond.fieldLink "QuoteGraph$Blend" 15 "QuoteGraph$Blend" "secondEighths" "J") ∈ GW := gw_of 341 _ (by decide +kernel) rfl
theorem gw_342 : (Cond.laysFinal "QuoteGraph$Blend" "QuoteGraph$Blend" "firstEighths" "J") ∈ GW := gw_of 342 _ (by decide +kernel) rfl
theorem gw_343 : (Cond.soleField "QuoteGraph$Blend" "firstEighths") ∈ GW := gw_of 343 _ (by decide +kernel) rfl
theorem gw_344 : (Cond.laysFinal "QuoteGraph$Blend" "QuoteGraph$Blend" "secondEighths" "J") ∈ GW := gw_of 344 _ (by decide +kernel) rfl
theorem gw_345 : (Cond.soleField "QuoteGraph$Blend" "secondEighths") ∈ GW := gw_of 345 _ (by decide +kernel) rfl
theorem gw_346 : (Cond.laysFinal "QuoteGraph$Blend" "QuoteGraph$Node" "number" "I") ∈ GW := gw_of 346 _ (by decide +kernel) rfl
theorem gw_347 : (Cond.laysFinal "QuoteGraph$Blend" "QuoteGraph$Node" "parts" "[LQuoteGraph$Node;") ∈ GW := gw_of 347 _ (by decide +kernel) rfl
theorem gw_348 : (Cond.lays "QuoteGraph$Blend" "QuoteGraph$Node" "partCount" "I") ∈ GW := gw_of 348 _ (by decide +kernel) rfl
theorem gw_349 : (Cond.lays "QuoteGraph$Blend" "QuoteGraph$Node" "amount" "J") ∈ GW := gw_of 349 _ (by decide +kernel) rfl
theorem gw_350 : (Cond.lays "QuoteGraph$Blend" "QuoteGraph$Node" "valid" "Z") ∈ GW := gw_of 350 _ (by decide +kernel) rfl
theorem gw_351 : (Cond.lays "QuoteGraph$Blend" "QuoteGraph$Node" "frozen" "Z") ∈ GW := gw_of 351 _ (by decide +kernel) rfl
theorem gw_352 : (Cond.lays "QuoteGraph$Blend" "QuoteGraph$Node" "missed" "Z") ∈ GW := gw_of 352 _ (by decide +kernel) rfl
theorem gw_353 : (Cond.lays "QuoteGraph$Blend" "QuoteGraph$Node" "timesWorked" "I") ∈ GW := gw_of 353 _ (by decide +kernel) rfl
theorem gw_354 : (Cond.lays "QuoteGraph$Blend" "QuoteGraph$Node" "rememberedAmount" "J") ∈ GW := gw_of 354 _ (by decide +kernel) rfl
theorem gw_355 : (Cond.lays "QuoteGraph$Blend" "QuoteGraph$Node" "rememberedValid" "Z") ∈ GW := gw_of 355 _ (by decide +kernel) rfl
theorem gw_356 : (Cond.superclass "QuoteGraph$Blend" "QuoteGraph$Node") ∈ GW := gw_of 356 _ (by decide +kernel) rfl
theorem gw_357 : (Cond.methodLink "QuoteGraphLaw" 84 y_L_greater) ∈ GW := gw_of 357 _ (by decide +kernel) rfl
theorem gw_358 : (Cond.static y_L_greater) ∈ GW := gw_of 358 _ (by decide +kernel) rfl
theorem gw_359 : (Cond.codeWith y_L_greater b_L_greater 5 (some .int) [(0, 10, 13, 13), (0, 10, 17, 15)]) ∈ GW := gw_of 359 _ (by decide +kernel) rfl
theorem gw_360 : (Cond.methodLink "QuoteGraphLaw" 21 y_Q_greater) ∈ GW := gw_of 360 _ (by decide +kernel) rfl
theorem gw_361 : (Cond.instanceMethod y_Q_greater) ∈ GW := gw_of 361 _ (by decide +kernel) rfl
theorem gw_362 : (Cond.selects "QuoteGraph" y_Q_greater y_Q_greater) ∈ GW := gw_of 362 _ (by decide +kernel) rfl
theorem gw_363 : (Cond.code y_Q_greater b_Q_greater 5 (some .int)) ∈ GW := gw_of 363 _ (by decide +kernel) rfl
theorem gw_364 : (Cond.classLink "QuoteGraph" 62 "QuoteGraph$Greater") ∈ GW := gw_of 364 _ (by decide +kernel) rfl
theorem gw_365 : (Cond.instantiable "QuoteGraph$Greater" 10) ∈ GW := gw_of 365 _ (by decide +kernel) rfl
theorem gw_366 : (Cond.methodLink "QuoteGraph" 64 y_Gr_init) ∈ GW := gw_of 366 _ (by decide +kernel) rfl
theorem gw_367 : (Cond.instanceMethod y_Gr_init) ∈ GW := gw_of 367 _ (by decide +kernel) rfl
theorem gw_368 : (Cond.code y_Gr_init b_Gr_init 4 none) ∈ GW := gw_of 368 _ (by decide +kernel) rfl
theorem gw_369 : (Cond.classLink "QuoteGraph$Greater" 3 "QuoteGraph$Node") ∈ GW := gw_of 369 _ (by decide +kernel) rfl
theorem gw_370 : (Cond.methodLink "QuoteGraph$Greater" 5 y_Nd_init) ∈ GW := gw_of 370 _ (by decide +kernel) rfl
theorem gw_371 : (Cond.laysFinal "QuoteGraph$Greater" "QuoteGraph$Node" "number" "I") ∈ GW := gw_of 371 _ (by decide +kernel) rfl
theorem gw_372 : (Cond.laysFinal "QuoteGraph$Greater" "QuoteGraph$Node" "parts" "[LQuoteGraph$Node;") ∈ GW := gw_of 372 _ (by decide +kernel) rfl
theorem gw_373 : (Cond.lays "QuoteGraph$Greater" "QuoteGraph$Node" "partCount" "I") ∈ GW := gw_of 373 _ (by decide +kernel) rfl
theorem gw_374 : (Cond.lays "QuoteGraph$Greater" "QuoteGraph$Node" "amount" "J") ∈ GW := gw_of 374 _ (by decide +kernel) rfl
theorem gw_375 : (Cond.lays "QuoteGraph$Greater" "QuoteGraph$Node" "valid" "Z") ∈ GW := gw_of 375 _ (by decide +kernel) rfl
theorem gw_376 : (Cond.lays "QuoteGraph$Greater" "QuoteGraph$Node" "frozen" "Z") ∈ GW := gw_of 376 _ (by decide +kernel) rfl
theorem gw_377 : (Cond.lays "QuoteGraph$Greater" "QuoteGraph$Node" "missed" "Z") ∈ GW := gw_of 377 _ (by decide +kernel) rfl
theorem gw_378 : (Cond.lays "QuoteGraph$Greater" "QuoteGraph$Node" "timesWorked" "I") ∈ GW := gw_of 378 _ (by decide +kernel) rfl
theorem gw_379 : (Cond.lays "QuoteGraph$Greater" "QuoteGraph$Node" "rememberedAmount" "J") ∈ GW := gw_of 379 _ (by decide +kernel) rfl
theorem gw_380 : (Cond.lays "QuoteGraph$Greater" "QuoteGraph$Node" "rememberedValid" "Z") ∈ GW := gw_of 380 _ (by decide +kernel) rfl
theorem gw_381 : (Cond.superclass "QuoteGraph$Greater" "QuoteGraph$Node") ∈ GW := gw_of 381 _ (by decide +kernel) rfl
theorem gw_382 : (Cond.methodLink "QuoteGraphLaw" 88 y_L_option) ∈ GW := gw_of 382 _ (by decide +kernel) rfl
theorem gw_383 : (Cond.static y_L_option) ∈ GW := gw_of 383 _ (by decide +kernel) rfl
theorem gw_384 : (Cond.codeWith y_L_option b_L_option 9 (some .int) [(0, 16, 19, 13), (0, 16, 23, 15)]) ∈ GW := gw_of 384 _ (by decide +kernel) rfl
theorem gw_385 : (Cond.methodLink "QuoteGraphLaw" 25 y_Q_option) ∈ GW := gw_of 385 _ (by decide +kernel) rfl
theorem gw_386 : (Cond.instanceMethod y_Q_option) ∈ GW := gw_of 386 _ (by decide +kernel) rfl
theorem gw_387 : (Cond.selects "QuoteGraph" y_Q_option y_Q_option) ∈ GW := gw_of 387 _ (by decide +kernel) rfl
theorem gw_388 : (Cond.code y_Q_option b_Q_option 12 (some .int)) ∈ GW := gw_of 388 _ (by decide +kernel) rfl
theorem gw_389 : (Cond.methodLink "QuoteGraph" 67 y_Q_checkRange) ∈ GW := gw_of 389 _ (by decide +kernel) rfl
theorem gw_390 : (Cond.static y_Q_checkRange) ∈ GW := gw_of 390 _ (by decide +kernel) rfl
theorem gw_391 : (Cond.code y_Q_checkRange b_Q_checkRange 3 none) ∈ GW := gw_of 391 _ (by decide +kernel) rfl
theorem gw_393 : (Cond.classLink "QuoteGraph" 71 "QuoteGraph$Option") ∈ GW := gw_of 393 _ (by decide +kernel) rfl
theorem gw_394 : (Cond.instantiable "QuoteGraph$Option" 21) ∈ GW := gw_of 394 _ (by decide +kernel) rfl
theorem gw_395 : (Cond.methodLink "QuoteGraph" 73 y_Op_init) ∈ GW := gw_of 395 _ (by decide +kernel) rfl
theorem gw_396 : (Cond.instanceMethod y_Op_init) ∈ GW := gw_of 396 _ (by decide +kernel) rfl
theorem gw_397 : (Cond.code y_Op_init b_Op_init 8 none) ∈ GW := gw_of 397 _ (by decide +kernel) rfl
theorem gw_398 : (Cond.classLink "QuoteGraph$Option" 3 "QuoteGraph$Node") ∈ GW := gw_of 398 _ (by decide +kernel) rfl
theorem gw_399 : (Cond.methodLink "QuoteGraph$Option" 5 y_Nd_init) ∈ GW := gw_of 399 _ (by decide +kernel) rfl
theorem gw_400 : (Cond.fieldLink "QuoteGraph$Option" 9 "QuoteGraph$Option" "spot" "LQuoteGraph$Node;") ∈ GW := gw_of 400 _ (by decide +kernel) rfl
theorem gw_401 : (Cond.fieldLink "QuoteGraph$Paths" 45 "QuoteGraph$Option" "spot" "LQuoteGraph$Node;") ∈ GW := gw_of 401 _ (by decide +kernel) rfl
theorem gw_402 : (Cond.fieldLink "QuoteGraph$Option" 15 "QuoteGraph$Option" "move" "LQuoteGraph$Node;") ∈ GW := gw_of 402 _ (by decide +kernel) rfl
theorem gw_403 : (Cond.fieldLink "QuoteGraph$Paths" 65 "QuoteGraph$Option" "move" "LQuoteGraph$Node;") ∈ GW := gw_of 403 _ (by decide +kernel) rfl
theorem gw_404 : (Cond.fieldLink "QuoteGraph$Option" 18 "QuoteGraph$Option" "kind" "I") ∈ GW := gw_of 404 _ (by decide +kernel) rfl
theorem gw_405 : (Cond.fieldLink "QuoteGraph$Option" 22 "QuoteGraph$Option" "strike" "J") ∈ GW := gw_of 405 _ (by decide +kernel) rfl
theorem gw_406 : (Cond.fieldLink "QuoteGraph$Option" 26 "QuoteGraph$Option" "steps" "I") ∈ GW := gw_of 406 _ (by decide +kernel) rfl
theorem gw_407 : (Cond.fieldLink "QuoteGraph$Lattice" 15 "QuoteGraph$Option" "steps" "I") ∈ GW := gw_of 407 _ (by decide +kernel) rfl
theorem gw_408 : (Cond.fieldLink "QuoteGraph$Net" 39 "QuoteGraph$Option" "steps" "I") ∈ GW := gw_of 408 _ (by decide +kernel) rfl
theorem gw_409 : (Cond.fieldLink "QuoteGraph$Paths" 42 "QuoteGraph$Option" "steps" "I") ∈ GW := gw_of 409 _ (by decide +kernel) rfl
theorem gw_410 : (Cond.fieldLink "QuoteGraph$Option" 32 "QuoteGraph$Option" "rate" "LQuoteGraph$Node;") ∈ GW := gw_of 410 _ (by decide +kernel) rfl
theorem gw_411 : (Cond.fieldLink "QuoteGraph$Option" 35 "QuoteGraph$Option" "knock" "LQuoteGraph$Node;") ∈ GW := gw_of 411 _ (by decide +kernel) rfl
theorem gw_412 : (Cond.fieldLink "QuoteGraph$Option" 29 "QuoteGraph$Option" "chance" "I") ∈ GW := gw_of 412 _ (by decide +kernel) rfl
theorem gw_413 : (Cond.fieldLink "QuoteGraph$Net" 15 "QuoteGraph$Option" "chance" "I") ∈ GW := gw_of 413 _ (by decide +kernel) rfl
theorem gw_414 : (Cond.fieldLink "QuoteGraph$Lattice" 33 "QuoteGraph$Option" "chance" "I") ∈ GW := gw_of 414 _ (by decide +kernel) rfl
theorem gw_415 : (Cond.fieldLink "QuoteGraph$Paths" 58 "QuoteGraph$Option" "chance" "I") ∈ GW := gw_of 415 _ (by decide +kernel) rfl
theorem gw_416 : (Cond.fieldLink "QuoteGraph" 96 "QuoteGraph$Option" "chance" "I") ∈ GW := gw_of 416 _ (by decide +kernel) rfl
theorem gw_417 : (Cond.fieldLink "QuoteGraph$Paths" 9 "QuoteGraph$Option" "american" "Z") ∈ GW := gw_of 417 _ (by decide +kernel) rfl
theorem gw_418 : (Cond.fieldLink "QuoteGraph" 99 "QuoteGraph$Option" "american" "Z") ∈ GW := gw_of 418 _ (by decide +kernel) rfl
theorem gw_419 : (Cond.fieldLink "QuoteGraph$Option" 93 "QuoteGraph$Option" "american" "Z") ∈ GW := gw_of 419 _ (by decide +kernel) rfl
theorem gw_420 : (Cond.fieldLink "QuoteGraph$Option" 45 "QuoteGraph$Option" "engine" "LQuoteGraph$Engine;") ∈ GW := gw_of 420 _ (by decide +kernel) rfl
theorem gw_421 : (Cond.fieldLink "QuoteGraph" 76 "QuoteGraph$Option" "engine" "LQuoteGraph$Engine;") ∈ GW := gw_of 421 _ (by decide +kernel) rfl
theorem gw_422 : (Cond.fieldLink "QuoteGraph$Net" 28 "QuoteGraph$Option" "size" "I") ∈ GW := gw_of 422 _ (by decide +kernel) rfl
theorem gw_423 : (Cond.fieldLink "QuoteGraph$Paths" 30 "QuoteGraph$Option" "size" "I") ∈ GW := gw_of 423 _ (by decide +kernel) rfl
theorem gw_424 : (Cond.fieldLink "QuoteGraph" 113 "QuoteGraph$Option" "size" "I") ∈ GW := gw_of 424 _ (by decide +kernel) rfl
theorem gw_425 : (Cond.laysFinal "QuoteGraph$Option" "QuoteGraph$Option" "spot" "LQuoteGraph$Node;") ∈ GW := gw_of 425 _ (by decide +kernel) rfl
theorem gw_426 : (Cond.soleField "QuoteGraph$Option" "spot") ∈ GW := gw_of 426 _ (by decide +kernel) rfl
theorem gw_427 : (Cond.laysFinal "QuoteGraph$Option" "QuoteGraph$Option" "move" "LQuoteGraph$Node;") ∈ GW := gw_of 427 _ (by decide +kernel) rfl
theorem gw_428 : (Cond.soleField "QuoteGraph$Option" "move") ∈ GW := gw_of 428 _ (by decide +kernel) rfl
theorem gw_429 : (Cond.laysFinal "QuoteGraph$Option" "QuoteGraph$Option" "kind" "I") ∈ GW := gw_of 429 _ (by decide +kernel) rfl
theorem gw_430 : (Cond.soleField "QuoteGraph$Option" "kind") ∈ GW := gw_of 430 _ (by decide +kernel) rfl
theorem gw_431 : (Cond.laysFinal "QuoteGraph$Option" "QuoteGraph$Option" "strike" "J") ∈ GW := gw_of 431 _ (by decide +kernel) rfl
theorem gw_432 : (Cond.soleField "QuoteGraph$Option" "strike") ∈ GW := gw_of 432 _ (by decide +kernel) rfl
theorem gw_433 : (Cond.laysFinal "QuoteGraph$Option" "QuoteGraph$Option" "steps" "I") ∈ GW := gw_of 433 _ (by decide +kernel) rfl
theorem gw_434 : (Cond.soleField "QuoteGraph$Option" "steps") ∈ GW := gw_of 434 _ (by decide +kernel) rfl
theorem gw_435 : (Cond.lays "QuoteGraph$Option" "QuoteGraph$Option" "rate" "LQuoteGraph$Node;") ∈ GW := gw_of 435 _ (by decide +kernel) rfl
theorem gw_436 : (Cond.soleField "QuoteGraph$Option" "rate") ∈ GW := gw_of 436 _ (by decide +kernel) rfl
theorem gw_437 : (Cond.lays "QuoteGraph$Option" "QuoteGraph$Option" "knock" "LQuoteGraph$Node;") ∈ GW := gw_of 437 _ (by decide +kernel) rfl
theorem gw_438 : (Cond.soleField "QuoteGraph$Option" "knock") ∈ GW := gw_of 438 _ (by decide +kernel) rfl
theorem gw_439 : (Cond.lays "QuoteGraph$Option" "QuoteGraph$Option" "chance" "I") ∈ GW := gw_of 439 _ (by decide +kernel) rfl
theorem gw_440 : (Cond.soleField "QuoteGraph$Option" "chance") ∈ GW := gw_of 440 _ (by decide +kernel) rfl
theorem gw_441 : (Cond.lays "QuoteGraph$Option" "QuoteGraph$Option" "american" "Z") ∈ GW := gw_of 441 _ (by decide +kernel) rfl
theorem gw_442 : (Cond.soleField "QuoteGraph$Option" "american") ∈ GW := gw_of 442 _ (by decide +kernel) rfl
theorem gw_443 : (Cond.lays "QuoteGraph$Option" "QuoteGraph$Option" "engine" "LQuoteGraph$Engine;") ∈ GW := gw_of 443 _ (by decide +kernel) rfl
theorem gw_444 : (Cond.soleField "QuoteGraph$Option" "engine") ∈ GW := gw_of 444 _ (by decide +kernel) rfl
theorem gw_445 : (Cond.lays "QuoteGraph$Option" "QuoteGraph$Option" "size" "I") ∈ GW := gw_of 445 _ (by decide +kernel) rfl
theorem gw_446 : (Cond.soleField "QuoteGraph$Option" "size") ∈ GW := gw_of 446 _ (by decide +kernel) rfl
theorem gw_447 : (Cond.laysFinal "QuoteGraph$Option" "QuoteGraph$Node" "number" "I") ∈ GW := gw_of 447 _ (by decide +kernel) rfl
theorem gw_448 : (Cond.laysFinal "QuoteGraph$Option" "QuoteGraph$Node" "parts" "[LQuoteGraph$Node;") ∈ GW := gw_of 448 _ (by decide +kernel) rfl
theorem gw_449 : (Cond.lays "QuoteGraph$Option" "QuoteGraph$Node" "partCount" "I") ∈ GW := gw_of 449 _ (by decide +kernel) rfl
theorem gw_450 : (Cond.lays "QuoteGraph$Option" "QuoteGraph$Node" "amount" "J") ∈ GW := gw_of 450 _ (by decide +kernel) rfl
theorem gw_451 : (Cond.lays "QuoteGraph$Option" "QuoteGraph$Node" "valid" "Z") ∈ GW := gw_of 451 _ (by decide +kernel) rfl
theorem gw_452 : (Cond.lays "QuoteGraph$Option" "QuoteGraph$Node" "frozen" "Z") ∈ GW := gw_of 452 _ (by decide +kernel) rfl
theorem gw_453 : (Cond.lays "QuoteGraph$Option" "QuoteGraph$Node" "missed" "Z") ∈ GW := gw_of 453 _ (by decide +kernel) rfl
theorem gw_454 : (Cond.lays "QuoteGraph$Option" "QuoteGraph$Node" "timesWorked" "I") ∈ GW := gw_of 454 _ (by decide +kernel) rfl
theorem gw_455 : (Cond.lays "QuoteGraph$Option" "QuoteGraph$Node" "rememberedAmount" "J") ∈ GW := gw_of 455 _ (by decide +kernel) rfl
theorem gw_456 : (Cond.lays "QuoteGraph$Option" "QuoteGraph$Node" "rememberedValid" "Z") ∈ GW := gw_of 456 _ (by decide +kernel) rfl
theorem gw_457 : (Cond.superclass "QuoteGraph$Option" "QuoteGraph$Node") ∈ GW := gw_of 457 _ (by decide +kernel) rfl
theorem gw_458 : (Cond.methodLink "QuoteGraphLaw" 92 y_L_terms) ∈ GW := gw_of 458 _ (by decide +kernel) rfl
theorem gw_459 : (Cond.static y_L_terms) ∈ GW := gw_of 459 _ (by decide +kernel) rfl
theorem gw_460 : (Cond.codeWith y_L_terms b_L_terms 7 (some .int) [(0, 11, 14, 13), (0, 11, 18, 15)]) ∈ GW := gw_of 460 _ (by decide +kernel) rfl
theorem gw_461 : (Cond.methodLink "QuoteGraphLaw" 29 y_Q_terms) ∈ GW := gw_of 461 _ (by decide +kernel) rfl
theorem gw_462 : (Cond.instanceMethod y_Q_terms) ∈ GW := gw_of 462 _ (by decide +kernel) rfl
theorem gw_463 : (Cond.selects "QuoteGraph" y_Q_terms y_Q_terms) ∈ GW := gw_of 463 _ (by decide +kernel) rfl
theorem gw_464 : (Cond.code y_Q_terms b_Q_terms 9 none) ∈ GW := gw_of 464 _ (by decide +kernel) rfl
theorem gw_465 : (Cond.methodLink "QuoteGraph" 80 y_Q_optionAt) ∈ GW := gw_of 465 _ (by decide +kernel) rfl
theorem gw_467 : (Cond.instanceMethod y_Q_optionAt) ∈ GW := gw_of 467 _ (by decide +kernel) rfl
theorem gw_468 : (Cond.code y_Q_optionAt b_Q_optionAt 4 (some (.object "QuoteGraph$Option"))) ∈ GW := gw_of 468 _ (by decide +kernel) rfl
theorem gw_470 : (Cond.methodLink "QuoteGraph" 84 y_Q_extraPartAt) ∈ GW := gw_of 470 _ (by decide +kernel) rfl
theorem gw_472 : (Cond.instanceMethod y_Q_extraPartAt) ∈ GW := gw_of 472 _ (by decide +kernel) rfl
theorem gw_473 : (Cond.code y_Q_extraPartAt b_Q_extraPartAt 4 (some (.object "QuoteGraph$Node"))) ∈ GW := gw_of 473 _ (by decide +kernel) rfl
theorem gw_474 : (Cond.methodLink "QuoteGraph" 173 y_Q_hangsOn) ∈ GW := gw_of 474 _ (by decide +kernel) rfl
theorem gw_476 : (Cond.instanceMethod y_Q_hangsOn) ∈ GW := gw_of 476 _ (by decide +kernel) rfl
theorem gw_477 : (Cond.code y_Q_hangsOn b_Q_hangsOn 3 (some .boolean)) ∈ GW := gw_of 477 _ (by decide +kernel) rfl
theorem gw_478 : (Cond.methodLink "QuoteGraph" 223 y_Q_bitsUsedBy) ∈ GW := gw_of 478 _ (by decide +kernel) rfl
theorem gw_480 : (Cond.instanceMethod y_Q_bitsUsedBy) ∈ GW := gw_of 480 _ (by decide +kernel) rfl
theorem gw_481 : (Cond.code y_Q_bitsUsedBy b_Q_bitsUsedBy 5 (some .int)) ∈ GW := gw_of 481 _ (by decide +kernel) rfl
theorem gw_482 : (Cond.methodLink "QuoteGraph" 229 y_Nd_partBits) ∈ GW := gw_of 482 _ (by decide +kernel) rfl
theorem gw_483 : (Cond.instanceMethod y_Nd_partBits) ∈ GW := gw_of 483 _ (by decide +kernel) rfl
theorem gw_484 : (Cond.sameMethod "QuoteGraph$Node" "QuoteGraph$Node" "partBits" "()I") ∈ GW := gw_of 484 _ (by decide +kernel) rfl
theorem gw_485 : (Cond.selects "QuoteGraph$Blend" y_Nd_partBits y_Nd_partBits) ∈ GW := gw_of 485 _ (by decide +kernel) rfl
theorem gw_486 : (Cond.selects "QuoteGraph$Greater" y_Nd_partBits y_Nd_partBits) ∈ GW := gw_of 486 _ (by decide +kernel) rfl
theorem gw_487 : (Cond.selects "QuoteGraph$Option" y_Nd_partBits y_Nd_partBits) ∈ GW := gw_of 487 _ (by decide +kernel) rfl
theorem gw_488 : (Cond.selects "QuoteGraph$Quote" y_Nd_partBits y_Nd_partBits) ∈ GW := gw_of 488 _ (by decide +kernel) rfl
theorem gw_489 : (Cond.code y_Nd_partBits b_Nd_partBits 3 (some .int)) ∈ GW := gw_of 489 _ (by decide +kernel) rfl
theorem gw_490 : (Cond.methodLink "QuoteGraph$Node" 20 y_Nd_bit) ∈ GW := gw_of 490 _ (by decide +kernel) rfl
theorem gw_491 : (Cond.instanceMethod y_Nd_bit) ∈ GW := gw_of 491 _ (by decide +kernel) rfl
theorem gw_492 : (Cond.sameMethod "QuoteGraph$Node" "QuoteGraph$Node" "bit" "()I") ∈ GW := gw_of 492 _ (by decide +kernel) rfl
theorem gw_493 : (Cond.selects "QuoteGraph$Blend" y_Nd_bit y_Nd_bit) ∈ GW := gw_of 493 _ (by decide +kernel) rfl
theorem gw_494 : (Cond.selects "QuoteGraph$Greater" y_Nd_bit y_Nd_bit) ∈ GW := gw_of 494 _ (by decide +kernel) rfl
theorem gw_495 : (Cond.selects "QuoteGraph$Option" y_Nd_bit y_Nd_bit) ∈ GW := gw_of 495 _ (by decide +kernel) rfl
theorem gw_496 : (Cond.selects "QuoteGraph$Quote" y_Nd_bit y_Nd_bit) ∈ GW := gw_of 496 _ (by decide +kernel) rfl
theorem gw_497 : (Cond.code y_Nd_bit b_Nd_bit 1 (some .int)) ∈ GW := gw_of 497 _ (by decide +kernel) rfl
theorem gw_498 : (Cond.methodLink "QuoteGraph" 226 y_Nd_bit) ∈ GW := gw_of 498 _ (by decide +kernel) rfl
theorem gw_500 : (Cond.methodLink "QuoteGraph" 88 y_Q_checkNotFrozen) ∈ GW := gw_of 500 _ (by decide +kernel) rfl
theorem gw_501 : (Cond.static y_Q_checkNotFrozen) ∈ GW := gw_of 501 _ (by decide +kernel) rfl
theorem gw_502 : (Cond.code y_Q_checkNotFrozen b_Q_checkNotFrozen 1 none) ∈ GW := gw_of 502 _ (by decide +kernel) rfl
theorem gw_504 : (Cond.methodLink "QuoteGraph" 92 y_Op_takeParts) ∈ GW := gw_of 504 _ (by decide +kernel) rfl
theorem gw_505 : (Cond.instanceMethod y_Op_takeParts) ∈ GW := gw_of 505 _ (by decide +kernel) rfl
theorem gw_506 : (Cond.selects "QuoteGraph$Option" y_Op_takeParts y_Op_takeParts) ∈ GW := gw_of 506 _ (by decide +kernel) rfl
theorem gw_507 : (Cond.code y_Op_takeParts b_Op_takeParts 3 none) ∈ GW := gw_of 507 _ (by decide +kernel) rfl
theorem gw_508 : (Cond.methodLink "QuoteGraph" 103 y_Q_tell) ∈ GW := gw_of 508 _ (by decide +kernel) rfl
theorem gw_510 : (Cond.instanceMethod y_Q_tell) ∈ GW := gw_of 510 _ (by decide +kernel) rfl
theorem gw_511 : (Cond.code y_Q_tell b_Q_tell 2 none) ∈ GW := gw_of 511 _ (by decide +kernel) rfl
theorem gw_512 : (Cond.methodLink "QuoteGraph" 127 y_Q_tellUsersOf) ∈ GW := gw_of 512 _ (by decide +kernel) rfl
theorem gw_514 : (Cond.instanceMethod y_Q_tellUsersOf) ∈ GW := gw_of 514 _ (by decide +kernel) rfl
theorem gw_515 : (Cond.code y_Q_tellUsersOf b_Q_tellUsersOf 3 none) ∈ GW := gw_of 515 _ (by decide +kernel) rfl
theorem gw_516 : (Cond.methodLink "QuoteGraphLaw" 96 y_L_engine) ∈ GW := gw_of 516 _ (by decide +kernel) rfl
theorem gw_517 : (Cond.static y_L_engine) ∈ GW := gw_of 517 _ (by decide +kernel) rfl
theorem gw_518 : (Cond.codeWith y_L_engine b_L_engine 5 (some .int) [(0, 7, 10, 13), (0, 7, 14, 15)]) ∈ GW := gw_of 518 _ (by decide +kernel) rfl
theorem gw_519 : (Cond.methodLink "QuoteGraphLaw" 33 y_Q_engine) ∈ GW := gw_of 519 _ (by decide +kernel) rfl
theorem gw_520 : (Cond.instanceMethod y_Q_engine) ∈ GW := gw_of 520 _ (by decide +kernel) rfl
theorem gw_521 : (Cond.selects "QuoteGraph" y_Q_engine y_Q_engine) ∈ GW := gw_of 521 _ (by decide +kernel) rfl
theorem gw_522 : (Cond.code y_Q_engine b_Q_engine 6 none) ∈ GW := gw_of 522 _ (by decide +kernel) rfl
theorem gw_523 : (Cond.methodLink "QuoteGraphLaw" 100 y_L_set) ∈ GW := gw_of 523 _ (by decide +kernel) rfl
theorem gw_524 : (Cond.static y_L_set) ∈ GW := gw_of 524 _ (by decide +kernel) rfl
theorem gw_525 : (Cond.codeWith y_L_set b_L_set 6 (some .int) [(0, 11, 14, 13)]) ∈ GW := gw_of 525 _ (by decide +kernel) rfl
theorem gw_526 : (Cond.methodLink "QuoteGraphLaw" 37 y_Q_set) ∈ GW := gw_of 526 _ (by decide +kernel) rfl
theorem gw_527 : (Cond.instanceMethod y_Q_set) ∈ GW := gw_of 527 _ (by decide +kernel) rfl
theorem gw_528 : (Cond.selects "QuoteGraph" y_Q_set y_Q_set) ∈ GW := gw_of 528 _ (by decide +kernel) rfl
theorem gw_529 : (Cond.code y_Q_set b_Q_set 8 (some .int)) ∈ GW := gw_of 529 _ (by decide +kernel) rfl
theorem gw_530 : (Cond.methodLink "QuoteGraph" 116 y_Q_quoteAt) ∈ GW := gw_of 530 _ (by decide +kernel) rfl
theorem gw_532 : (Cond.instanceMethod y_Q_quoteAt) ∈ GW := gw_of 532 _ (by decide +kernel) rfl
theorem gw_533 : (Cond.code y_Q_quoteAt b_Q_quoteAt 4 (some (.object "QuoteGraph$Quote"))) ∈ GW := gw_of 533 _ (by decide +kernel) rfl
theorem gw_535 : (Cond.methodLink "QuoteGraphLaw" 104 y_L_value) ∈ GW := gw_of 535 _ (by decide +kernel) rfl
theorem gw_536 : (Cond.static y_L_value) ∈ GW := gw_of 536 _ (by decide +kernel) rfl
theorem gw_537 : (Cond.codeWith y_L_value b_L_value 4 (some .int) [(0, 8, 11, 13), (0, 8, 14, 45), (0, 8, 17, 47)]) ∈ GW := gw_of 537 _ (by decide +kernel) rfl
theorem gw_538 : (Cond.classLink "QuoteGraphLaw" 45 "java/lang/ArithmeticException") ∈ GW := gw_of 538 _ (by decide +kernel) rfl
theorem gw_539 : (Cond.classLink "QuoteGraphLaw" 47 "java/lang/UnsupportedOperationException") ∈ GW := gw_of 539 _ (by decide +kernel) rfl
theorem gw_540 : (Cond.methodLink "QuoteGraphLaw" 41 y_Q_value) ∈ GW := gw_of 540 _ (by decide +kernel) rfl
theorem gw_541 : (Cond.instanceMethod y_Q_value) ∈ GW := gw_of 541 _ (by decide +kernel) rfl
theorem gw_542 : (Cond.selects "QuoteGraph" y_Q_value y_Q_value) ∈ GW := gw_of 542 _ (by decide +kernel) rfl
theorem gw_543 : (Cond.code y_Q_value b_Q_value 3 (some .double)) ∈ GW := gw_of 543 _ (by decide +kernel) rfl
theorem gw_544 : (Cond.methodLink "QuoteGraph" 130 y_Q_tryToAsk) ∈ GW := gw_of 544 _ (by decide +kernel) rfl
theorem gw_546 : (Cond.instanceMethod y_Q_tryToAsk) ∈ GW := gw_of 546 _ (by decide +kernel) rfl
theorem gw_547 : (Cond.codeWith y_Q_tryToAsk b_Q_tryToAsk 3 (some (.object "QuoteGraph$Trouble")) [(0, 5, 8, 246), (0, 5, 13, 254)]) ∈ GW := gw_of 547 _ (by decide +kernel) rfl
theorem gw_548 : (Cond.classLink "QuoteGraph" 246 "java/lang/ArithmeticException") ∈ GW := gw_of 548 _ (by decide +kernel) rfl
theorem gw_549 : (Cond.classLink "QuoteGraph" 254 "java/lang/UnsupportedOperationException") ∈ GW := gw_of 549 _ (by decide +kernel) rfl
theorem gw_550 : (Cond.methodLink "QuoteGraph" 235 y_Q_ask) ∈ GW := gw_of 550 _ (by decide +kernel) rfl
theorem gw_552 : (Cond.instanceMethod y_Q_ask) ∈ GW := gw_of 552 _ (by decide +kernel) rfl
theorem gw_553 : (Cond.code y_Q_ask b_Q_ask 3 none) ∈ GW := gw_of 553 _ (by decide +kernel) rfl
theorem gw_554 : (Cond.methodLink "QuoteGraph" 238 ⟨"QuoteGraph$Node", "workOut", "()J"⟩) ∈ GW := gw_of 554 _ (by decide +kernel) rfl
theorem gw_556 : (Cond.sameMethod "QuoteGraph$Node" "QuoteGraph$Node" "workOut" "()J") ∈ GW := gw_of 556 _ (by decide +kernel) rfl
theorem gw_557 : (Cond.selects "QuoteGraph$Blend" ⟨"QuoteGraph$Node", "workOut", "()J"⟩ y_Bl_workOut) ∈ GW := gw_of 557 _ (by decide +kernel) rfl
theorem gw_558 : (Cond.instanceMethod y_Bl_workOut) ∈ GW := gw_of 558 _ (by decide +kernel) rfl
theorem gw_559 : (Cond.code y_Bl_workOut b_Bl_workOut 3 (some .long)) ∈ GW := gw_of 559 _ (by decide +kernel) rfl
theorem gw_561 : (Cond.static y_Q_rounded) ∈ GW := gw_of 561 _ (by decide +kernel) rfl
theorem gw_562 : (Cond.code y_Q_rounded b_Q_rounded 3 (some .long)) ∈ GW := gw_of 562 _ (by decide +kernel) rfl
theorem gw_563 : (Cond.constantLong "QuoteGraph" 274 2) ∈ GW := gw_of 563 _ (by decide +kernel) rfl
theorem gw_564 : (Cond.methodLink "QuoteGraph" 242 y_Q_notTooLarge) ∈ GW := gw_of 564 _ (by decide +kernel) rfl
theorem gw_565 : (Cond.static y_Q_notTooLarge) ∈ GW := gw_of 565 _ (by decide +kernel) rfl
theorem gw_566 : (Cond.code y_Q_notTooLarge b_Q_notTooLarge 2 (some .long)) ∈ GW := gw_of 566 _ (by decide +kernel) rfl
theorem gw_567 : (Cond.constantLong "QuoteGraph" 276 1024000000) ∈ GW := gw_of 567 _ (by decide +kernel) rfl
theorem gw_568 : (Cond.constantLong "QuoteGraph" 278 (-1024000000)) ∈ GW := gw_of 568 _ (by decide +kernel) rfl
theorem gw_569 : (Cond.instantiable "java/lang/ArithmeticException" 6) ∈ GW := gw_of 569 _ (by decide +kernel) rfl
theorem gw_571 : (Cond.selects "java/lang/ArithmeticException" ⟨"java/lang/Throwable", "fillInStackTrace", "(I)Ljava/lang/Throwable;"⟩ ⟨"java/lang/Throwable", "fillInStackTrace", "(I)Ljava/lang/Throwable;"⟩) ∈ GW := gw_of 571 _ (by decide +kernel) rfl
theorem gw_572 : (Cond.lays "java/lang/ArithmeticException" "java/lang/Throwable" "cause" "Ljava/lang/Throwable;") ∈ GW := gw_of 572 _ (by decide +kernel) rfl
theorem gw_573 : (Cond.lays "java/lang/ArithmeticException" "java/lang/Throwable" "stackTrace" "[Ljava/lang/StackTraceElement;") ∈ GW := gw_of 573 _ (by decide +kernel) rfl
theorem gw_574 : (Cond.lays "java/lang/ArithmeticException" "java/lang/Throwable" "suppressedExceptions" "Ljava/util/List;") ∈ GW := gw_of 574 _ (by decide +kernel) rfl
theorem gw_575 : (Cond.lays "java/lang/ArithmeticException" "java/lang/Throwable" "detailMessage" "Ljava/lang/String;") ∈ GW := gw_of 575 _ (by decide +kernel) rfl
theorem gw_576 : (Cond.lays "java/lang/ArithmeticException" "java/lang/Throwable" "backtrace" "Ljava/lang/Object;") ∈ GW := gw_of 576 _ (by decide +kernel) rfl
theorem gw_578 : (Cond.methodLink "QuoteGraph" 267 ⟨"java/lang/ArithmeticException", "<init>", "(Ljava/lang/String;)V"⟩) ∈ GW := gw_of 578 _ (by decide +kernel) rfl
theorem gw_579 : (Cond.instanceMethod ⟨"java/lang/ArithmeticException", "<init>", "(Ljava/lang/String;)V"⟩) ∈ GW := gw_of 579 _ (by decide +kernel) rfl
theorem gw_580 : (Cond.code ⟨"java/lang/ArithmeticException", "<init>", "(Ljava/lang/String;)V"⟩ prog_14_method_2_code 2 none) ∈ GW := gw_of 580 _ (by decide +kernel) rfl
theorem gw_581 : (Cond.methodLink "java/lang/ArithmeticException" 7 ⟨"java/lang/RuntimeException", "<init>", "(Ljava/lang/String;)V"⟩) ∈ GW := gw_of 581 _ (by decide +kernel) rfl
theorem gw_582 : (Cond.lays "java/lang/ArithmeticException" "java/lang/Throwable" "depth" "I") ∈ GW := gw_of 582 _ (by decide +kernel) rfl
theorem gw_583 : (Cond.superclass "java/lang/ArithmeticException" "java/lang/RuntimeException") ∈ GW := gw_of 583 _ (by decide +kernel) rfl
theorem gw_584 : (Cond.selects "QuoteGraph$Greater" ⟨"QuoteGraph$Node", "workOut", "()J"⟩ y_Gr_workOut) ∈ GW := gw_of 584 _ (by decide +kernel) rfl
theorem gw_585 : (Cond.instanceMethod y_Gr_workOut) ∈ GW := gw_of 585 _ (by decide +kernel) rfl
theorem gw_586 : (Cond.code y_Gr_workOut b_Gr_workOut 1 (some .long)) ∈ GW := gw_of 586 _ (by decide +kernel) rfl
theorem gw_587 : (Cond.methodLink "QuoteGraph$Greater" 19 ⟨"java/lang/Math", "max", "(JJ)J"⟩) ∈ GW := gw_of 587 _ (by decide +kernel) rfl
theorem gw_588 : (Cond.static ⟨"java/lang/Math", "max", "(JJ)J"⟩) ∈ GW := gw_of 588 _ (by decide +kernel) rfl
theorem gw_589 : (Cond.code ⟨"java/lang/Math", "max", "(JJ)J"⟩ prog_19_method_66_code 4 (some .long)) ∈ GW := gw_of 589 _ (by decide +kernel) rfl
theorem gw_590 : (Cond.selects "QuoteGraph$Option" ⟨"QuoteGraph$Node", "workOut", "()J"⟩ y_Op_workOut) ∈ GW := gw_of 590 _ (by decide +kernel) rfl
theorem gw_591 : (Cond.instanceMethod y_Op_workOut) ∈ GW := gw_of 591 _ (by decide +kernel) rfl
theorem gw_592 : (Cond.code y_Op_workOut b_Op_workOut 1 (some .long)) ∈ GW := gw_of 592 _ (by decide +kernel) rfl
theorem gw_593 : (Cond.methodLink "QuoteGraph$Option" 49 ⟨"QuoteGraph$Engine", "checkSuits", "(LQuoteGraph$Option;)V"⟩) ∈ GW := gw_of 593 _ (by decide +kernel) rfl
theorem gw_595 : (Cond.sameMethod "QuoteGraph$Engine" "QuoteGraph$Engine" "checkSuits" "(LQuoteGraph$Option;)V") ∈ GW := gw_of 595 _ (by decide +kernel) rfl
theorem gw_596 : (Cond.selects "QuoteGraph$Lattice" ⟨"QuoteGraph$Engine", "checkSuits", "(LQuoteGraph$Option;)V"⟩ y_La_checkSuits) ∈ GW := gw_of 596 _ (by decide +kernel) rfl
theorem gw_597 : (Cond.instanceMethod y_La_checkSuits) ∈ GW := gw_of 597 _ (by decide +kernel) rfl
theorem gw_598 : (Cond.code y_La_checkSuits b_La_checkSuits 2 none) ∈ GW := gw_of 598 _ (by decide +kernel) rfl
theorem gw_599 : (Cond.selects "QuoteGraph$Net" ⟨"QuoteGraph$Engine", "checkSuits", "(LQuoteGraph$Option;)V"⟩ y_Ne_checkSuits) ∈ GW := gw_of 599 _ (by decide +kernel) rfl
theorem gw_600 : (Cond.instanceMethod y_Ne_checkSuits) ∈ GW := gw_of 600 _ (by decide +kernel) rfl
theorem gw_601 : (Cond.code y_Ne_checkSuits b_Ne_checkSuits 2 none) ∈ GW := gw_of 601 _ (by decide +kernel) rfl
theorem gw_602 : (Cond.classLink "QuoteGraph$Net" 21 "java/lang/ArithmeticException") ∈ GW := gw_of 602 _ (by decide +kernel) rfl
theorem gw_604 : (Cond.methodLink "QuoteGraph$Net" 25 ⟨"java/lang/ArithmeticException", "<init>", "(Ljava/lang/String;)V"⟩) ∈ GW := gw_of 604 _ (by decide +kernel) rfl
theorem gw_605 : (Cond.selects "QuoteGraph$Paths" ⟨"QuoteGraph$Engine", "checkSuits", "(LQuoteGraph$Option;)V"⟩ y_Pa_checkSuits) ∈ GW := gw_of 605 _ (by decide +kernel) rfl
theorem gw_606 : (Cond.instanceMethod y_Pa_checkSuits) ∈ GW := gw_of 606 _ (by decide +kernel) rfl
theorem gw_607 : (Cond.code y_Pa_checkSuits b_Pa_checkSuits 2 none) ∈ GW := gw_of 607 _ (by decide +kernel) rfl
theorem gw_608 : (Cond.classLink "QuoteGraph$Paths" 15 "java/lang/UnsupportedOperationException") ∈ GW := gw_of 608 _ (by decide +kernel) rfl
theorem gw_609 : (Cond.instantiable "java/lang/UnsupportedOperationException" 6) ∈ GW := gw_of 609 _ (by decide +kernel) rfl
theorem gw_611 : (Cond.selects "java/lang/UnsupportedOperationException" ⟨"java/lang/Throwable", "fillInStackTrace", "(I)Ljava/lang/Throwable;"⟩ ⟨"java/lang/Throwable", "fillInStackTrace", "(I)Ljava/lang/Throwable;"⟩) ∈ GW := gw_of 611 _ (by decide +kernel) rfl
theorem gw_612 : (Cond.lays "java/lang/UnsupportedOperationException" "java/lang/Throwable" "cause" "Ljava/lang/Throwable;") ∈ GW := gw_of 612 _ (by decide +kernel) rfl
theorem gw_613 : (Cond.lays "java/lang/UnsupportedOperationException" "java/lang/Throwable" "stackTrace" "[Ljava/lang/StackTraceElement;") ∈ GW := gw_of 613 _ (by decide +kernel) rfl
theorem gw_614 : (Cond.lays "java/lang/UnsupportedOperationException" "java/lang/Throwable" "suppressedExceptions" "Ljava/util/List;") ∈ GW := gw_of 614 _ (by decide +kernel) rfl
theorem gw_615 : (Cond.lays "java/lang/UnsupportedOperationException" "java/lang/Throwable" "detailMessage" "Ljava/lang/String;") ∈ GW := gw_of 615 _ (by decide +kernel) rfl
theorem gw_616 : (Cond.lays "java/lang/UnsupportedOperationException" "java/lang/Throwable" "backtrace" "Ljava/lang/Object;") ∈ GW := gw_of 616 _ (by decide +kernel) rfl
theorem gw_618 : (Cond.methodLink "QuoteGraph$Paths" 19 ⟨"java/lang/UnsupportedOperationException", "<init>", "(Ljava/lang/String;)V"⟩) ∈ GW := gw_of 618 _ (by decide +kernel) rfl
theorem gw_619 : (Cond.instanceMethod ⟨"java/lang/UnsupportedOperationException", "<init>", "(Ljava/lang/String;)V"⟩) ∈ GW := gw_of 619 _ (by decide +kernel) rfl
theorem gw_620 : (Cond.code ⟨"java/lang/UnsupportedOperationException", "<init>", "(Ljava/lang/String;)V"⟩ prog_23_method_2_code 2 none) ∈ GW := gw_of 620 _ (by decide +kernel) rfl
theorem gw_621 : (Cond.methodLink "java/lang/UnsupportedOperationException" 7 ⟨"java/lang/RuntimeException", "<init>", "(Ljava/lang/String;)V"⟩) ∈ GW := gw_of 621 _ (by decide +kernel) rfl
theorem gw_622 : (Cond.lays "java/lang/UnsupportedOperationException" "java/lang/Throwable" "depth" "I") ∈ GW := gw_of 622 _ (by decide +kernel) rfl
theorem gw_623 : (Cond.superclass "java/lang/UnsupportedOperationException" "java/lang/RuntimeException") ∈ GW := gw_of 623 _ (by decide +kernel) rfl
theorem gw_624 : (Cond.classLink "QuoteGraph$Option" 58 "java/lang/ArithmeticException") ∈ GW := gw_of 624 _ (by decide +kernel) rfl
theorem gw_626 : (Cond.methodLink "QuoteGraph$Option" 62 ⟨"java/lang/ArithmeticException", "<init>", "(Ljava/lang/String;)V"⟩) ∈ GW := gw_of 626 _ (by decide +kernel) rfl
theorem gw_627 : (Cond.methodLink "QuoteGraph$Option" 65 y_Op_discount) ∈ GW := gw_of 627 _ (by decide +kernel) rfl
theorem gw_629 : (Cond.instanceMethod y_Op_discount) ∈ GW := gw_of 629 _ (by decide +kernel) rfl
theorem gw_630 : (Cond.code y_Op_discount b_Op_discount 3 (some .long)) ∈ GW := gw_of 630 _ (by decide +kernel) rfl
theorem gw_631 : (Cond.constantLong "QuoteGraph$Option" 73 1024) ∈ GW := gw_of 631 _ (by decide +kernel) rfl
theorem gw_633 : (Cond.methodLink "QuoteGraph$Option" 69 ⟨"QuoteGraph$Engine", "price", "(LQuoteGraph$Option;J)J"⟩) ∈ GW := gw_of 633 _ (by decide +kernel) rfl
theorem gw_635 : (Cond.sameMethod "QuoteGraph$Engine" "QuoteGraph$Engine" "price" "(LQuoteGraph$Option;J)J") ∈ GW := gw_of 635 _ (by decide +kernel) rfl
theorem gw_636 : (Cond.selects "QuoteGraph$Lattice" ⟨"QuoteGraph$Engine", "price", "(LQuoteGraph$Option;J)J"⟩ y_La_price) ∈ GW := gw_of 636 _ (by decide +kernel) rfl
theorem gw_637 : (Cond.instanceMethod y_La_price) ∈ GW := gw_of 637 _ (by decide +kernel) rfl
theorem gw_638 : (Cond.code y_La_price b_La_price 5 (some .long)) ∈ GW := gw_of 638 _ (by decide +kernel) rfl
theorem gw_639 : (Cond.methodLink "QuoteGraph$Lattice" 21 y_Op_priceAt) ∈ GW := gw_of 639 _ (by decide +kernel) rfl
theorem gw_640 : (Cond.instanceMethod y_Op_priceAt) ∈ GW := gw_of 640 _ (by decide +kernel) rfl
theorem gw_641 : (Cond.selects "QuoteGraph$Option" y_Op_priceAt y_Op_priceAt) ∈ GW := gw_of 641 _ (by decide +kernel) rfl
theorem gw_642 : (Cond.code y_Op_priceAt b_Op_priceAt 2 (some .long)) ∈ GW := gw_of 642 _ (by decide +kernel) rfl
theorem gw_643 : (Cond.methodLink "QuoteGraph$Lattice" 25 y_Op_payoff) ∈ GW := gw_of 643 _ (by decide +kernel) rfl
theorem gw_644 : (Cond.instanceMethod y_Op_payoff) ∈ GW := gw_of 644 _ (by decide +kernel) rfl
theorem gw_645 : (Cond.selects "QuoteGraph$Option" y_Op_payoff y_Op_payoff) ∈ GW := gw_of 645 _ (by decide +kernel) rfl
theorem gw_646 : (Cond.code y_Op_payoff b_Op_payoff 3 (some .long)) ∈ GW := gw_of 646 _ (by decide +kernel) rfl
theorem gw_647 : (Cond.methodLink "QuoteGraph$Option" 77 y_Op_isOut) ∈ GW := gw_of 647 _ (by decide +kernel) rfl
theorem gw_648 : (Cond.instanceMethod y_Op_isOut) ∈ GW := gw_of 648 _ (by decide +kernel) rfl
theorem gw_649 : (Cond.selects "QuoteGraph$Option" y_Op_isOut y_Op_isOut) ∈ GW := gw_of 649 _ (by decide +kernel) rfl
theorem gw_650 : (Cond.code y_Op_isOut b_Op_isOut 3 (some .boolean)) ∈ GW := gw_of 650 _ (by decide +kernel) rfl
theorem gw_651 : (Cond.methodLink "QuoteGraph$Option" 81 y_Op_payoffInside) ∈ GW := gw_of 651 _ (by decide +kernel) rfl
theorem gw_652 : (Cond.instanceMethod y_Op_payoffInside) ∈ GW := gw_of 652 _ (by decide +kernel) rfl
theorem gw_653 : (Cond.selects "QuoteGraph$Option" y_Op_payoffInside y_Op_payoffInside) ∈ GW := gw_of 653 _ (by decide +kernel) rfl
theorem gw_654 : (Cond.code y_Op_payoffInside b_Op_payoffInside 3 (some .long)) ∈ GW := gw_of 654 _ (by decide +kernel) rfl
theorem gw_655 : (Cond.methodLink "QuoteGraph$Option" 85 ⟨"java/lang/Math", "max", "(JJ)J"⟩) ∈ GW := gw_of 655 _ (by decide +kernel) rfl
theorem gw_656 : (Cond.constantLong "QuoteGraph$Option" 91 102400) ∈ GW := gw_of 656 _ (by decide +kernel) rfl
theorem gw_657 : (Cond.methodLink "QuoteGraph$Lattice" 29 y_La_stepBack) ∈ GW := gw_of 657 _ (by decide +kernel) rfl
theorem gw_659 : (Cond.instanceMethod y_La_stepBack) ∈ GW := gw_of 659 _ (by decide +kernel) rfl
theorem gw_660 : (Cond.code y_La_stepBack b_La_stepBack 11 none) ∈ GW := gw_of 660 _ (by decide +kernel) rfl
theorem gw_662 : (Cond.methodLink "QuoteGraph$Lattice" 40 y_Op_heldAt) ∈ GW := gw_of 662 _ (by decide +kernel) rfl
theorem gw_663 : (Cond.instanceMethod y_Op_heldAt) ∈ GW := gw_of 663 _ (by decide +kernel) rfl
theorem gw_664 : (Cond.selects "QuoteGraph$Option" y_Op_heldAt y_Op_heldAt) ∈ GW := gw_of 664 _ (by decide +kernel) rfl
theorem gw_665 : (Cond.code y_Op_heldAt b_Op_heldAt 5 (some .long)) ∈ GW := gw_of 665 _ (by decide +kernel) rfl
theorem gw_666 : (Cond.selects "QuoteGraph$Net" ⟨"QuoteGraph$Engine", "price", "(LQuoteGraph$Option;J)J"⟩ y_Ne_price) ∈ GW := gw_of 666 _ (by decide +kernel) rfl
theorem gw_667 : (Cond.instanceMethod y_Ne_price) ∈ GW := gw_of 667 _ (by decide +kernel) rfl
theorem gw_668 : (Cond.code y_Ne_price b_Ne_price 6 (some .long)) ∈ GW := gw_of 668 _ (by decide +kernel) rfl
theorem gw_669 : (Cond.methodLink "QuoteGraph$Net" 31 y_Op_priceAt) ∈ GW := gw_of 669 _ (by decide +kernel) rfl
theorem gw_670 : (Cond.methodLink "QuoteGraph$Net" 35 y_Op_payoff) ∈ GW := gw_of 670 _ (by decide +kernel) rfl
theorem gw_671 : (Cond.methodLink "QuoteGraph$Net" 42 y_Ne_stepBack) ∈ GW := gw_of 671 _ (by decide +kernel) rfl
theorem gw_673 : (Cond.instanceMethod y_Ne_stepBack) ∈ GW := gw_of 673 _ (by decide +kernel) rfl
theorem gw_674 : (Cond.code y_Ne_stepBack b_Ne_stepBack 16 none) ∈ GW := gw_of 674 _ (by decide +kernel) rfl
theorem gw_675 : (Cond.constantLong "QuoteGraph$Net" 46 2) ∈ GW := gw_of 675 _ (by decide +kernel) rfl
theorem gw_676 : (Cond.constantLong "QuoteGraph$Net" 48 16) ∈ GW := gw_of 676 _ (by decide +kernel) rfl
theorem gw_678 : (Cond.methodLink "QuoteGraph$Net" 54 y_Op_heldAt) ∈ GW := gw_of 678 _ (by decide +kernel) rfl
theorem gw_679 : (Cond.selects "QuoteGraph$Paths" ⟨"QuoteGraph$Engine", "price", "(LQuoteGraph$Option;J)J"⟩ y_Pa_price) ∈ GW := gw_of 679 _ (by decide +kernel) rfl
theorem gw_680 : (Cond.instanceMethod y_Pa_price) ∈ GW := gw_of 680 _ (by decide +kernel) rfl
theorem gw_681 : (Cond.code y_Pa_price b_Pa_price 10 (some .long)) ∈ GW := gw_of 681 _ (by decide +kernel) rfl
theorem gw_682 : (Cond.constantLong "QuoteGraph$Paths" 24 12345) ∈ GW := gw_of 682 _ (by decide +kernel) rfl
theorem gw_683 : (Cond.methodLink "QuoteGraph$Paths" 34 y_Pa_endOfPath) ∈ GW := gw_of 683 _ (by decide +kernel) rfl
theorem gw_685 : (Cond.instanceMethod y_Pa_endOfPath) ∈ GW := gw_of 685 _ (by decide +kernel) rfl
theorem gw_686 : (Cond.code y_Pa_endOfPath b_Pa_endOfPath 6 (some .long)) ∈ GW := gw_of 686 _ (by decide +kernel) rfl
theorem gw_687 : (Cond.methodLink "QuoteGraph$Paths" 54 y_Op_isOut) ∈ GW := gw_of 687 _ (by decide +kernel) rfl
theorem gw_688 : (Cond.methodLink "QuoteGraph$Paths" 61 y_Pa_drawsUp) ∈ GW := gw_of 688 _ (by decide +kernel) rfl
theorem gw_690 : (Cond.instanceMethod y_Pa_drawsUp) ∈ GW := gw_of 690 _ (by decide +kernel) rfl
theorem gw_691 : (Cond.code y_Pa_drawsUp b_Pa_drawsUp 2 (some .boolean)) ∈ GW := gw_of 691 _ (by decide +kernel) rfl
theorem gw_692 : (Cond.constantLong "QuoteGraph$Paths" 72 1103515245) ∈ GW := gw_of 692 _ (by decide +kernel) rfl
theorem gw_693 : (Cond.constantLong "QuoteGraph$Paths" 74 2147483647) ∈ GW := gw_of 693 _ (by decide +kernel) rfl
theorem gw_694 : (Cond.constantLong "QuoteGraph$Paths" 76 15) ∈ GW := gw_of 694 _ (by decide +kernel) rfl
theorem gw_695 : (Cond.methodLink "QuoteGraph$Paths" 68 y_Op_payoffInside) ∈ GW := gw_of 695 _ (by decide +kernel) rfl
theorem gw_697 : (Cond.selects "QuoteGraph$Quote" ⟨"QuoteGraph$Node", "workOut", "()J"⟩ y_Qt_workOut) ∈ GW := gw_of 697 _ (by decide +kernel) rfl
theorem gw_698 : (Cond.instanceMethod y_Qt_workOut) ∈ GW := gw_of 698 _ (by decide +kernel) rfl
theorem gw_699 : (Cond.code y_Qt_workOut b_Qt_workOut 1 (some .long)) ∈ GW := gw_of 699 _ (by decide +kernel) rfl
theorem gw_700 : (Cond.fieldLink "QuoteGraph" 248 "QuoteGraph$Trouble" "ARITHMETIC" "LQuoteGraph$Trouble;") ∈ GW := gw_of 700 _ (by decide +kernel) rfl
theorem gw_702 : (Cond.fieldLink "QuoteGraph" 256 "QuoteGraph$Trouble" "UNSUPPORTED" "LQuoteGraph$Trouble;") ∈ GW := gw_of 702 _ (by decide +kernel) rfl
theorem gw_704 : (Cond.fieldLink "QuoteGraph" 259 "QuoteGraph$Trouble" "NONE" "LQuoteGraph$Trouble;") ∈ GW := gw_of 704 _ (by decide +kernel) rfl
theorem gw_706 : (Cond.methodLink "QuoteGraph" 134 y_Q_raise) ∈ GW := gw_of 706 _ (by decide +kernel) rfl
theorem gw_708 : (Cond.instanceMethod y_Q_raise) ∈ GW := gw_of 708 _ (by decide +kernel) rfl
theorem gw_709 : (Cond.code y_Q_raise b_Q_raise 2 none) ∈ GW := gw_of 709 _ (by decide +kernel) rfl
theorem gw_711 : (Cond.methodLink "QuoteGraph" 264 ⟨"java/lang/UnsupportedOperationException", "<init>", "(Ljava/lang/String;)V"⟩) ∈ GW := gw_of 711 _ (by decide +kernel) rfl
theorem gw_713 : (Cond.methodLink "QuoteGraph" 139 y_Q_numberOf) ∈ GW := gw_of 713 _ (by decide +kernel) rfl
theorem gw_714 : (Cond.static y_Q_numberOf) ∈ GW := gw_of 714 _ (by decide +kernel) rfl
theorem gw_715 : (Cond.code y_Q_numberOf b_Q_numberOf 2 (some .double)) ∈ GW := gw_of 715 _ (by decide +kernel) rfl
theorem gw_716 : (Cond.constantDouble "QuoteGraph" 209 4652218415073722368) ∈ GW := gw_of 716 _ (by decide +kernel) rfl
theorem gw_717 : (Cond.methodLink "QuoteGraphLaw" 108 y_L_freeze) ∈ GW := gw_of 717 _ (by decide +kernel) rfl
theorem gw_718 : (Cond.static y_L_freeze) ∈ GW := gw_of 718 _ (by decide +kernel) rfl
theorem gw_719 : (Cond.codeWith y_L_freeze b_L_freeze 4 (some .int) [(0, 6, 9, 13), (0, 6, 12, 15)]) ∈ GW := gw_of 719 _ (by decide +kernel) rfl
theorem gw_720 : (Cond.methodLink "QuoteGraphLaw" 49 y_Q_freeze) ∈ GW := gw_of 720 _ (by decide +kernel) rfl
theorem gw_721 : (Cond.instanceMethod y_Q_freeze) ∈ GW := gw_of 721 _ (by decide +kernel) rfl
theorem gw_722 : (Cond.selects "QuoteGraph" y_Q_freeze y_Q_freeze) ∈ GW := gw_of 722 _ (by decide +kernel) rfl
theorem gw_723 : (Cond.code y_Q_freeze b_Q_freeze 4 none) ∈ GW := gw_of 723 _ (by decide +kernel) rfl
theorem gw_726 : (Cond.methodLink "QuoteGraphLaw" 112 y_L_bump) ∈ GW := gw_of 726 _ (by decide +kernel) rfl
theorem gw_727 : (Cond.static y_L_bump) ∈ GW := gw_of 727 _ (by decide +kernel) rfl
theorem gw_728 : (Cond.codeWith y_L_bump b_L_bump 7 (some .int) [(0, 11, 14, 13), (0, 11, 18, 45), (0, 11, 22, 47)]) ∈ GW := gw_of 728 _ (by decide +kernel) rfl
theorem gw_729 : (Cond.methodLink "QuoteGraphLaw" 53 y_Q_bump) ∈ GW := gw_of 729 _ (by decide +kernel) rfl
theorem gw_730 : (Cond.instanceMethod y_Q_bump) ∈ GW := gw_of 730 _ (by decide +kernel) rfl
theorem gw_731 : (Cond.selects "QuoteGraph" y_Q_bump y_Q_bump) ∈ GW := gw_of 731 _ (by decide +kernel) rfl
theorem gw_732 : (Cond.code y_Q_bump b_Q_bump 14 (some .double)) ∈ GW := gw_of 732 _ (by decide +kernel) rfl
theorem gw_733 : (Cond.methodLink "QuoteGraph" 164 y_Q_rememberAll) ∈ GW := gw_of 733 _ (by decide +kernel) rfl
theorem gw_735 : (Cond.instanceMethod y_Q_rememberAll) ∈ GW := gw_of 735 _ (by decide +kernel) rfl
theorem gw_736 : (Cond.code y_Q_rememberAll b_Q_rememberAll 2 none) ∈ GW := gw_of 736 _ (by decide +kernel) rfl
theorem gw_737 : (Cond.methodLink "QuoteGraph" 268 y_Nd_remember) ∈ GW := gw_of 737 _ (by decide +kernel) rfl
theorem gw_738 : (Cond.instanceMethod y_Nd_remember) ∈ GW := gw_of 738 _ (by decide +kernel) rfl
theorem gw_739 : (Cond.sameMethod "QuoteGraph$Node" "QuoteGraph$Node" "remember" "()V") ∈ GW := gw_of 739 _ (by decide +kernel) rfl
theorem gw_740 : (Cond.selects "QuoteGraph$Blend" y_Nd_remember y_Nd_remember) ∈ GW := gw_of 740 _ (by decide +kernel) rfl
theorem gw_741 : (Cond.selects "QuoteGraph$Greater" y_Nd_remember y_Nd_remember) ∈ GW := gw_of 741 _ (by decide +kernel) rfl
theorem gw_742 : (Cond.selects "QuoteGraph$Option" y_Nd_remember y_Nd_remember) ∈ GW := gw_of 742 _ (by decide +kernel) rfl
theorem gw_743 : (Cond.selects "QuoteGraph$Quote" y_Nd_remember y_Nd_remember) ∈ GW := gw_of 743 _ (by decide +kernel) rfl
theorem gw_744 : (Cond.code y_Nd_remember b_Nd_remember 1 none) ∈ GW := gw_of 744 _ (by decide +kernel) rfl
theorem gw_745 : (Cond.methodLink "QuoteGraph" 167 y_Q_makeUsersStale) ∈ GW := gw_of 745 _ (by decide +kernel) rfl
theorem gw_747 : (Cond.instanceMethod y_Q_makeUsersStale) ∈ GW := gw_of 747 _ (by decide +kernel) rfl
theorem gw_748 : (Cond.code y_Q_makeUsersStale b_Q_makeUsersStale 3 none) ∈ GW := gw_of 748 _ (by decide +kernel) rfl
theorem gw_749 : (Cond.methodLink "QuoteGraph" 170 y_Q_restoreAll) ∈ GW := gw_of 749 _ (by decide +kernel) rfl
theorem gw_751 : (Cond.instanceMethod y_Q_restoreAll) ∈ GW := gw_of 751 _ (by decide +kernel) rfl
theorem gw_752 : (Cond.code y_Q_restoreAll b_Q_restoreAll 2 none) ∈ GW := gw_of 752 _ (by decide +kernel) rfl
theorem gw_753 : (Cond.methodLink "QuoteGraph" 271 y_Nd_restore) ∈ GW := gw_of 753 _ (by decide +kernel) rfl
theorem gw_754 : (Cond.instanceMethod y_Nd_restore) ∈ GW := gw_of 754 _ (by decide +kernel) rfl
theorem gw_755 : (Cond.sameMethod "QuoteGraph$Node" "QuoteGraph$Node" "restore" "()V") ∈ GW := gw_of 755 _ (by decide +kernel) rfl
theorem gw_756 : (Cond.selects "QuoteGraph$Blend" y_Nd_restore y_Nd_restore) ∈ GW := gw_of 756 _ (by decide +kernel) rfl
theorem gw_757 : (Cond.selects "QuoteGraph$Greater" y_Nd_restore y_Nd_restore) ∈ GW := gw_of 757 _ (by decide +kernel) rfl
theorem gw_758 : (Cond.selects "QuoteGraph$Option" y_Nd_restore y_Nd_restore) ∈ GW := gw_of 758 _ (by decide +kernel) rfl
theorem gw_759 : (Cond.selects "QuoteGraph$Quote" y_Nd_restore y_Nd_restore) ∈ GW := gw_of 759 _ (by decide +kernel) rfl
theorem gw_760 : (Cond.code y_Nd_restore b_Nd_restore 1 none) ∈ GW := gw_of 760 _ (by decide +kernel) rfl
theorem gw_761 : (Cond.methodLink "QuoteGraphLaw" 116 y_L_uses) ∈ GW := gw_of 761 _ (by decide +kernel) rfl
theorem gw_762 : (Cond.static y_L_uses) ∈ GW := gw_of 762 _ (by decide +kernel) rfl
theorem gw_763 : (Cond.codeWith y_L_uses b_L_uses 5 (some .int) [(0, 17, 20, 13)]) ∈ GW := gw_of 763 _ (by decide +kernel) rfl
theorem gw_764 : (Cond.methodLink "QuoteGraphLaw" 57 y_Q_uses) ∈ GW := gw_of 764 _ (by decide +kernel) rfl
theorem gw_765 : (Cond.instanceMethod y_Q_uses) ∈ GW := gw_of 765 _ (by decide +kernel) rfl
theorem gw_766 : (Cond.selects "QuoteGraph" y_Q_uses y_Q_uses) ∈ GW := gw_of 766 _ (by decide +kernel) rfl
theorem gw_767 : (Cond.code y_Q_uses b_Q_uses 3 (some .boolean)) ∈ GW := gw_of 767 _ (by decide +kernel) rfl
theorem gw_768 : (Cond.methodLink "QuoteGraphLaw" 119 y_L_node) ∈ GW := gw_of 768 _ (by decide +kernel) rfl
theorem gw_769 : (Cond.static y_L_node) ∈ GW := gw_of 769 _ (by decide +kernel) rfl
theorem gw_770 : (Cond.codeWith y_L_node b_L_node 5 (some .int) [(0, 10, 13, 13)]) ∈ GW := gw_of 770 _ (by decide +kernel) rfl
theorem gw_771 : (Cond.methodLink "QuoteGraphLaw" 61 y_Q_node) ∈ GW := gw_of 771 _ (by decide +kernel) rfl
theorem gw_772 : (Cond.instanceMethod y_Q_node) ∈ GW := gw_of 772 _ (by decide +kernel) rfl
theorem gw_773 : (Cond.selects "QuoteGraph" y_Q_node y_Q_node) ∈ GW := gw_of 773 _ (by decide +kernel) rfl
theorem gw_774 : (Cond.code y_Q_node b_Q_node 4 (some .int)) ∈ GW := gw_of 774 _ (by decide +kernel) rfl
theorem gw_775 : (Cond.methodLink "QuoteGraph" 177 ⟨"QuoteGraph$Node", "sort", "()I"⟩) ∈ GW := gw_of 775 _ (by decide +kernel) rfl
theorem gw_777 : (Cond.sameMethod "QuoteGraph$Node" "QuoteGraph$Node" "sort" "()I") ∈ GW := gw_of 777 _ (by decide +kernel) rfl
theorem gw_778 : (Cond.selects "QuoteGraph$Blend" ⟨"QuoteGraph$Node", "sort", "()I"⟩ y_Bl_sort) ∈ GW := gw_of 778 _ (by decide +kernel) rfl
theorem gw_779 : (Cond.instanceMethod y_Bl_sort) ∈ GW := gw_of 779 _ (by decide +kernel) rfl
theorem gw_780 : (Cond.code y_Bl_sort b_Bl_sort 1 (some .int)) ∈ GW := gw_of 780 _ (by decide +kernel) rfl
theorem gw_781 : (Cond.selects "QuoteGraph$Greater" ⟨"QuoteGraph$Node", "sort", "()I"⟩ y_Gr_sort) ∈ GW := gw_of 781 _ (by decide +kernel) rfl
theorem gw_782 : (Cond.instanceMethod y_Gr_sort) ∈ GW := gw_of 782 _ (by decide +kernel) rfl
theorem gw_783 : (Cond.code y_Gr_sort b_Gr_sort 1 (some .int)) ∈ GW := gw_of 783 _ (by decide +kernel) rfl
theorem gw_784 : (Cond.selects "QuoteGraph$Option" ⟨"QuoteGraph$Node", "sort", "()I"⟩ y_Op_sort) ∈ GW := gw_of 784 _ (by decide +kernel) rfl
theorem gw_785 : (Cond.instanceMethod y_Op_sort) ∈ GW := gw_of 785 _ (by decide +kernel) rfl
theorem gw_786 : (Cond.code y_Op_sort b_Op_sort 1 (some .int)) ∈ GW := gw_of 786 _ (by decide +kernel) rfl
theorem gw_787 : (Cond.selects "QuoteGraph$Quote" ⟨"QuoteGraph$Node", "sort", "()I"⟩ y_Qt_sort) ∈ GW := gw_of 787 _ (by decide +kernel) rfl
theorem gw_788 : (Cond.instanceMethod y_Qt_sort) ∈ GW := gw_of 788 _ (by decide +kernel) rfl
theorem gw_789 : (Cond.code y_Qt_sort b_Qt_sort 1 (some .int)) ∈ GW := gw_of 789 _ (by decide +kernel) rfl
theorem gw_791 : (Cond.classLink "QuoteGraphLaw" 65 "QuoteGraphModel") ∈ GW := gw_of 791 _ (by decide +kernel) rfl
theorem gw_792 : (Cond.instantiable "QuoteGraphModel" 32) ∈ GW := gw_of 792 _ (by decide +kernel) rfl
theorem gw_793 : (Cond.methodLink "QuoteGraphLaw" 67 y_M_init) ∈ GW := gw_of 793 _ (by decide +kernel) rfl
theorem gw_794 : (Cond.instanceMethod y_M_init) ∈ GW := gw_of 794 _ (by decide +kernel) rfl
theorem gw_795 : (Cond.code y_M_init b_M_init 1 none) ∈ GW := gw_of 795 _ (by decide +kernel) rfl
theorem gw_796 : (Cond.methodLink "QuoteGraphModel" 1 ⟨"java/lang/Object", "<init>", "()V"⟩) ∈ GW := gw_of 796 _ (by decide +kernel) rfl
theorem gw_797 : (Cond.fieldLink "QuoteGraphModel" 7 "QuoteGraphModel" "sort" "[I") ∈ GW := gw_of 797 _ (by decide +kernel) rfl
theorem gw_798 : (Cond.fieldLink "QuoteGraphModel" 13 "QuoteGraphModel" "part" "[I") ∈ GW := gw_of 798 _ (by decide +kernel) rfl
theorem gw_799 : (Cond.fieldLink "QuoteGraphModel" 16 "QuoteGraphModel" "held" "[J") ∈ GW := gw_of 799 _ (by decide +kernel) rfl
theorem gw_800 : (Cond.fieldLink "QuoteGraphModel" 20 "QuoteGraphModel" "valid" "[Z") ∈ GW := gw_of 800 _ (by decide +kernel) rfl
theorem gw_801 : (Cond.fieldLink "QuoteGraphModel" 24 "QuoteGraphModel" "frozen" "[Z") ∈ GW := gw_of 801 _ (by decide +kernel) rfl
theorem gw_802 : (Cond.fieldLink "QuoteGraphModel" 27 "QuoteGraphModel" "missed" "[Z") ∈ GW := gw_of 802 _ (by decide +kernel) rfl
theorem gw_803 : (Cond.fieldLink "QuoteGraphModel" 30 "QuoteGraphModel" "worked" "[I") ∈ GW := gw_of 803 _ (by decide +kernel) rfl
theorem gw_804 : (Cond.fieldLink "QuoteGraphModel" 33 "QuoteGraphModel" "weightA" "[J") ∈ GW := gw_of 804 _ (by decide +kernel) rfl
theorem gw_805 : (Cond.fieldLink "QuoteGraphModel" 36 "QuoteGraphModel" "weightB" "[J") ∈ GW := gw_of 805 _ (by decide +kernel) rfl
theorem gw_806 : (Cond.fieldLink "QuoteGraphModel" 39 "QuoteGraphModel" "kind" "[I") ∈ GW := gw_of 806 _ (by decide +kernel) rfl
theorem gw_807 : (Cond.fieldLink "QuoteGraphModel" 42 "QuoteGraphModel" "steps" "[I") ∈ GW := gw_of 807 _ (by decide +kernel) rfl
theorem gw_808 : (Cond.fieldLink "QuoteGraphModel" 45 "QuoteGraphModel" "chance" "[I") ∈ GW := gw_of 808 _ (by decide +kernel) rfl
theorem gw_809 : (Cond.fieldLink "QuoteGraphModel" 48 "QuoteGraphModel" "american" "[Z") ∈ GW := gw_of 809 _ (by decide +kernel) rfl
theorem gw_810 : (Cond.fieldLink "QuoteGraphModel" 51 "QuoteGraphModel" "engine" "[I") ∈ GW := gw_of 810 _ (by decide +kernel) rfl
theorem gw_811 : (Cond.fieldLink "QuoteGraphModel" 54 "QuoteGraphModel" "size" "[I") ∈ GW := gw_of 811 _ (by decide +kernel) rfl
theorem gw_812 : (Cond.fieldLink "QuoteGraphModel" 57 "QuoteGraphModel" "list" "[I") ∈ GW := gw_of 812 _ (by decide +kernel) rfl
theorem gw_813 : (Cond.fieldLink "QuoteGraphModel" 60 "QuoteGraphModel" "next" "[I") ∈ GW := gw_of 813 _ (by decide +kernel) rfl
theorem gw_814 : (Cond.fieldLink "QuoteGraphModel" 63 "QuoteGraphModel" "oldHeld" "[J") ∈ GW := gw_of 814 _ (by decide +kernel) rfl
theorem gw_815 : (Cond.fieldLink "QuoteGraphModel" 66 "QuoteGraphModel" "oldValid" "[Z") ∈ GW := gw_of 815 _ (by decide +kernel) rfl
theorem gw_816 : (Cond.fieldLink "QuoteGraphModel" 69 "QuoteGraphModel" "row" "[J") ∈ GW := gw_of 816 _ (by decide +kernel) rfl
theorem gw_817 : (Cond.fieldLink "QuoteGraphModel" 72 "QuoteGraphModel" "fresh" "[J") ∈ GW := gw_of 817 _ (by decide +kernel) rfl
theorem gw_818 : (Cond.fieldLink "QuoteGraphModel" 79 "QuoteGraphModel" "nodes" "I") ∈ GW := gw_of 818 _ (by decide +kernel) rfl
theorem gw_819 : (Cond.fieldLink "QuoteGraphModel" 106 "QuoteGraphModel" "told" "I") ∈ GW := gw_of 819 _ (by decide +kernel) rfl
theorem gw_820 : (Cond.fieldLink "QuoteGraphModel" 203 "QuoteGraphModel" "workedAll" "I") ∈ GW := gw_of 820 _ (by decide +kernel) rfl
theorem gw_821 : (Cond.fieldLink "QuoteGraphModel" 209 "QuoteGraphModel" "troubles" "I") ∈ GW := gw_of 821 _ (by decide +kernel) rfl
theorem gw_822 : (Cond.fieldLink "QuoteGraphModel" 75 "QuoteGraphModel" "thrown" "I") ∈ GW := gw_of 822 _ (by decide +kernel) rfl
theorem gw_823 : (Cond.fieldLink "QuoteGraphModel" 127 "QuoteGraphModel" "trouble" "I") ∈ GW := gw_of 823 _ (by decide +kernel) rfl
theorem gw_824 : (Cond.fieldLink "QuoteGraphModel" 130 "QuoteGraphModel" "now" "I") ∈ GW := gw_of 824 _ (by decide +kernel) rfl
theorem gw_825 : (Cond.fieldLink "QuoteGraphModel" 157 "QuoteGraphModel" "spot" "J") ∈ GW := gw_of 825 _ (by decide +kernel) rfl
theorem gw_826 : (Cond.fieldLink "QuoteGraphModel" 160 "QuoteGraphModel" "move" "J") ∈ GW := gw_of 826 _ (by decide +kernel) rfl
theorem gw_827 : (Cond.fieldLink "QuoteGraphModel" 133 "QuoteGraphModel" "knock" "J") ∈ GW := gw_of 827 _ (by decide +kernel) rfl
theorem gw_828 : (Cond.fieldLink "QuoteGraphModel" 139 "QuoteGraphModel" "discount" "J") ∈ GW := gw_of 828 _ (by decide +kernel) rfl
theorem gw_829 : (Cond.laysFinal "QuoteGraphModel" "QuoteGraphModel" "sort" "[I") ∈ GW := gw_of 829 _ (by decide +kernel) rfl
theorem gw_830 : (Cond.soleField "QuoteGraphModel" "sort") ∈ GW := gw_of 830 _ (by decide +kernel) rfl
theorem gw_831 : (Cond.laysFinal "QuoteGraphModel" "QuoteGraphModel" "part" "[I") ∈ GW := gw_of 831 _ (by decide +kernel) rfl
theorem gw_832 : (Cond.soleField "QuoteGraphModel" "part") ∈ GW := gw_of 832 _ (by decide +kernel) rfl
theorem gw_833 : (Cond.laysFinal "QuoteGraphModel" "QuoteGraphModel" "held" "[J") ∈ GW := gw_of 833 _ (by decide +kernel) rfl
theorem gw_834 : (Cond.soleField "QuoteGraphModel" "held") ∈ GW := gw_of 834 _ (by decide +kernel) rfl
theorem gw_835 : (Cond.laysFinal "QuoteGraphModel" "QuoteGraphModel" "valid" "[Z") ∈ GW := gw_of 835 _ (by decide +kernel) rfl
theorem gw_836 : (Cond.soleField "QuoteGraphModel" "valid") ∈ GW := gw_of 836 _ (by decide +kernel) rfl
theorem gw_837 : (Cond.laysFinal "QuoteGraphModel" "QuoteGraphModel" "frozen" "[Z") ∈ GW := gw_of 837 _ (by decide +kernel) rfl
theorem gw_838 : (Cond.soleField "QuoteGraphModel" "frozen") ∈ GW := gw_of 838 _ (by decide +kernel) rfl
theorem gw_839 : (Cond.laysFinal "QuoteGraphModel" "QuoteGraphModel" "missed" "[Z") ∈ GW := gw_of 839 _ (by decide +kernel) rfl
theorem gw_840 : (Cond.soleField "QuoteGraphModel" "missed") ∈ GW := gw_of 840 _ (by decide +kernel) rfl
theorem gw_841 : (Cond.laysFinal "QuoteGraphModel" "QuoteGraphModel" "worked" "[I") ∈ GW := gw_of 841 _ (by decide +kernel) rfl
theorem gw_842 : (Cond.soleField "QuoteGraphModel" "worked") ∈ GW := gw_of 842 _ (by decide +kernel) rfl
theorem gw_843 : (Cond.laysFinal "QuoteGraphModel" "QuoteGraphModel" "weightA" "[J") ∈ GW := gw_of 843 _ (by decide +kernel) rfl
theorem gw_844 : (Cond.soleField "QuoteGraphModel" "weightA") ∈ GW := gw_of 844 _ (by decide +kernel) rfl
theorem gw_845 : (Cond.laysFinal "QuoteGraphModel" "QuoteGraphModel" "weightB" "[J") ∈ GW := gw_of 845 _ (by decide +kernel) rfl
theorem gw_846 : (Cond.soleField "QuoteGraphModel" "weightB") ∈ GW := gw_of 846 _ (by decide +kernel) rfl
theorem gw_847 : (Cond.laysFinal "QuoteGraphModel" "QuoteGraphModel" "kind" "[I") ∈ GW := gw_of 847 _ (by decide +kernel) rfl
theorem gw_848 : (Cond.soleField "QuoteGraphModel" "kind") ∈ GW := gw_of 848 _ (by decide +kernel) rfl
theorem gw_849 : (Cond.laysFinal "QuoteGraphModel" "QuoteGraphModel" "steps" "[I") ∈ GW := gw_of 849 _ (by decide +kernel) rfl
theorem gw_850 : (Cond.soleField "QuoteGraphModel" "steps") ∈ GW := gw_of 850 _ (by decide +kernel) rfl
theorem gw_851 : (Cond.laysFinal "QuoteGraphModel" "QuoteGraphModel" "chance" "[I") ∈ GW := gw_of 851 _ (by decide +kernel) rfl
theorem gw_852 : (Cond.soleField "QuoteGraphModel" "chance") ∈ GW := gw_of 852 _ (by decide +kernel) rfl
theorem gw_853 : (Cond.laysFinal "QuoteGraphModel" "QuoteGraphModel" "american" "[Z") ∈ GW := gw_of 853 _ (by decide +kernel) rfl
theorem gw_854 : (Cond.soleField "QuoteGraphModel" "american") ∈ GW := gw_of 854 _ (by decide +kernel) rfl
theorem gw_855 : (Cond.laysFinal "QuoteGraphModel" "QuoteGraphModel" "engine" "[I") ∈ GW := gw_of 855 _ (by decide +kernel) rfl
theorem gw_856 : (Cond.soleField "QuoteGraphModel" "engine") ∈ GW := gw_of 856 _ (by decide +kernel) rfl
theorem gw_857 : (Cond.laysFinal "QuoteGraphModel" "QuoteGraphModel" "size" "[I") ∈ GW := gw_of 857 _ (by decide +kernel) rfl
theorem gw_858 : (Cond.soleField "QuoteGraphModel" "size") ∈ GW := gw_of 858 _ (by decide +kernel) rfl
theorem gw_859 : (Cond.laysFinal "QuoteGraphModel" "QuoteGraphModel" "list" "[I") ∈ GW := gw_of 859 _ (by decide +kernel) rfl
theorem gw_860 : (Cond.soleField "QuoteGraphModel" "list") ∈ GW := gw_of 860 _ (by decide +kernel) rfl
theorem gw_861 : (Cond.laysFinal "QuoteGraphModel" "QuoteGraphModel" "next" "[I") ∈ GW := gw_of 861 _ (by decide +kernel) rfl
theorem gw_862 : (Cond.soleField "QuoteGraphModel" "next") ∈ GW := gw_of 862 _ (by decide +kernel) rfl
theorem gw_863 : (Cond.laysFinal "QuoteGraphModel" "QuoteGraphModel" "oldHeld" "[J") ∈ GW := gw_of 863 _ (by decide +kernel) rfl
theorem gw_864 : (Cond.soleField "QuoteGraphModel" "oldHeld") ∈ GW := gw_of 864 _ (by decide +kernel) rfl
theorem gw_865 : (Cond.laysFinal "QuoteGraphModel" "QuoteGraphModel" "oldValid" "[Z") ∈ GW := gw_of 865 _ (by decide +kernel) rfl
theorem gw_866 : (Cond.soleField "QuoteGraphModel" "oldValid") ∈ GW := gw_of 866 _ (by decide +kernel) rfl
theorem gw_867 : (Cond.laysFinal "QuoteGraphModel" "QuoteGraphModel" "row" "[J") ∈ GW := gw_of 867 _ (by decide +kernel) rfl
theorem gw_868 : (Cond.soleField "QuoteGraphModel" "row") ∈ GW := gw_of 868 _ (by decide +kernel) rfl
theorem gw_869 : (Cond.laysFinal "QuoteGraphModel" "QuoteGraphModel" "fresh" "[J") ∈ GW := gw_of 869 _ (by decide +kernel) rfl
theorem gw_870 : (Cond.soleField "QuoteGraphModel" "fresh") ∈ GW := gw_of 870 _ (by decide +kernel) rfl
theorem gw_871 : (Cond.lays "QuoteGraphModel" "QuoteGraphModel" "nodes" "I") ∈ GW := gw_of 871 _ (by decide +kernel) rfl
theorem gw_872 : (Cond.soleField "QuoteGraphModel" "nodes") ∈ GW := gw_of 872 _ (by decide +kernel) rfl
theorem gw_873 : (Cond.lays "QuoteGraphModel" "QuoteGraphModel" "told" "I") ∈ GW := gw_of 873 _ (by decide +kernel) rfl
theorem gw_874 : (Cond.soleField "QuoteGraphModel" "told") ∈ GW := gw_of 874 _ (by decide +kernel) rfl
theorem gw_875 : (Cond.lays "QuoteGraphModel" "QuoteGraphModel" "workedAll" "I") ∈ GW := gw_of 875 _ (by decide +kernel) rfl
theorem gw_876 : (Cond.soleField "QuoteGraphModel" "workedAll") ∈ GW := gw_of 876 _ (by decide +kernel) rfl
theorem gw_877 : (Cond.lays "QuoteGraphModel" "QuoteGraphModel" "troubles" "I") ∈ GW := gw_of 877 _ (by decide +kernel) rfl
theorem gw_878 : (Cond.soleField "QuoteGraphModel" "troubles") ∈ GW := gw_of 878 _ (by decide +kernel) rfl
theorem gw_879 : (Cond.lays "QuoteGraphModel" "QuoteGraphModel" "thrown" "I") ∈ GW := gw_of 879 _ (by decide +kernel) rfl
theorem gw_880 : (Cond.soleField "QuoteGraphModel" "thrown") ∈ GW := gw_of 880 _ (by decide +kernel) rfl
theorem gw_881 : (Cond.lays "QuoteGraphModel" "QuoteGraphModel" "trouble" "I") ∈ GW := gw_of 881 _ (by decide +kernel) rfl
theorem gw_882 : (Cond.soleField "QuoteGraphModel" "trouble") ∈ GW := gw_of 882 _ (by decide +kernel) rfl
theorem gw_883 : (Cond.lays "QuoteGraphModel" "QuoteGraphModel" "now" "I") ∈ GW := gw_of 883 _ (by decide +kernel) rfl
theorem gw_884 : (Cond.soleField "QuoteGraphModel" "now") ∈ GW := gw_of 884 _ (by decide +kernel) rfl
theorem gw_885 : (Cond.lays "QuoteGraphModel" "QuoteGraphModel" "spot" "J") ∈ GW := gw_of 885 _ (by decide +kernel) rfl
theorem gw_886 : (Cond.soleField "QuoteGraphModel" "spot") ∈ GW := gw_of 886 _ (by decide +kernel) rfl
theorem gw_887 : (Cond.lays "QuoteGraphModel" "QuoteGraphModel" "move" "J") ∈ GW := gw_of 887 _ (by decide +kernel) rfl
theorem gw_888 : (Cond.soleField "QuoteGraphModel" "move") ∈ GW := gw_of 888 _ (by decide +kernel) rfl
theorem gw_889 : (Cond.lays "QuoteGraphModel" "QuoteGraphModel" "knock" "J") ∈ GW := gw_of 889 _ (by decide +kernel) rfl
theorem gw_890 : (Cond.soleField "QuoteGraphModel" "knock") ∈ GW := gw_of 890 _ (by decide +kernel) rfl
theorem gw_891 : (Cond.lays "QuoteGraphModel" "QuoteGraphModel" "discount" "J") ∈ GW := gw_of 891 _ (by decide +kernel) rfl
theorem gw_892 : (Cond.soleField "QuoteGraphModel" "discount") ∈ GW := gw_of 892 _ (by decide +kernel) rfl
theorem gw_893 : (Cond.superclass "QuoteGraphModel" "java/lang/Object") ∈ GW := gw_of 893 _ (by decide +kernel) rfl
theorem gw_894 : (Cond.arrayClass .int) ∈ GW := gw_of 894 _ (by decide +kernel) rfl
theorem gw_895 : (Cond.arrayClass .boolean) ∈ GW := gw_of 895 _ (by decide +kernel) rfl
theorem gw_896 : (Cond.methodLink "QuoteGraphLaw" 76 y_M_thrown) ∈ GW := gw_of 896 _ (by decide +kernel) rfl
theorem gw_897 : (Cond.instanceMethod y_M_thrown) ∈ GW := gw_of 897 _ (by decide +kernel) rfl
theorem gw_898 : (Cond.selects "QuoteGraphModel" y_M_thrown y_M_thrown) ∈ GW := gw_of 898 _ (by decide +kernel) rfl
theorem gw_899 : (Cond.code y_M_thrown b_M_thrown 1 (some .int)) ∈ GW := gw_of 899 _ (by decide +kernel) rfl
theorem gw_900 : (Cond.methodLink "QuoteGraphLaw" 75 y_M_quote) ∈ GW := gw_of 900 _ (by decide +kernel) rfl
theorem gw_901 : (Cond.instanceMethod y_M_quote) ∈ GW := gw_of 901 _ (by decide +kernel) rfl
theorem gw_902 : (Cond.selects "QuoteGraphModel" y_M_quote y_M_quote) ∈ GW := gw_of 902 _ (by decide +kernel) rfl
theorem gw_903 : (Cond.code y_M_quote b_M_quote 4 (some .int)) ∈ GW := gw_of 903 _ (by decide +kernel) rfl
theorem gw_904 : (Cond.constantDouble "QuoteGraphModel" 84 4681608360884174848) ∈ GW := gw_of 904 _ (by decide +kernel) rfl
theorem gw_905 : (Cond.methodLink "QuoteGraphModel" 86 y_M_far) ∈ GW := gw_of 905 _ (by decide +kernel) rfl
theorem gw_907 : (Cond.instanceMethod y_M_far) ∈ GW := gw_of 907 _ (by decide +kernel) rfl
theorem gw_908 : (Cond.code y_M_far b_M_far 5 (some .boolean)) ∈ GW := gw_of 908 _ (by decide +kernel) rfl
theorem gw_909 : (Cond.constantDouble "QuoteGraphModel" 82 4620693217682128896) ∈ GW := gw_of 909 _ (by decide +kernel) rfl
theorem gw_910 : (Cond.methodLink "QuoteGraphModel" 90 y_M_create) ∈ GW := gw_of 910 _ (by decide +kernel) rfl
theorem gw_912 : (Cond.instanceMethod y_M_create) ∈ GW := gw_of 912 _ (by decide +kernel) rfl
theorem gw_913 : (Cond.code y_M_create b_M_create 5 (some .int)) ∈ GW := gw_of 913 _ (by decide +kernel) rfl
theorem gw_914 : (Cond.constantDouble "QuoteGraphModel" 94 4652218415073722368) ∈ GW := gw_of 914 _ (by decide +kernel) rfl
theorem gw_915 : (Cond.methodLink "QuoteGraphLaw" 83 y_M_blend) ∈ GW := gw_of 915 _ (by decide +kernel) rfl
theorem gw_916 : (Cond.instanceMethod y_M_blend) ∈ GW := gw_of 916 _ (by decide +kernel) rfl
theorem gw_917 : (Cond.selects "QuoteGraphModel" y_M_blend y_M_blend) ∈ GW := gw_of 917 _ (by decide +kernel) rfl
theorem gw_918 : (Cond.code y_M_blend b_M_blend 8 (some .int)) ∈ GW := gw_of 918 _ (by decide +kernel) rfl
theorem gw_919 : (Cond.methodLink "QuoteGraphModel" 96 y_M_no) ∈ GW := gw_of 919 _ (by decide +kernel) rfl
theorem gw_921 : (Cond.instanceMethod y_M_no) ∈ GW := gw_of 921 _ (by decide +kernel) rfl
theorem gw_922 : (Cond.code y_M_no b_M_no 2 (some .boolean)) ∈ GW := gw_of 922 _ (by decide +kernel) rfl
theorem gw_923 : (Cond.constantDouble "QuoteGraphModel" 100 4625196817309499392) ∈ GW := gw_of 923 _ (by decide +kernel) rfl
theorem gw_924 : (Cond.methodLink "QuoteGraphLaw" 87 y_M_greater) ∈ GW := gw_of 924 _ (by decide +kernel) rfl
theorem gw_925 : (Cond.instanceMethod y_M_greater) ∈ GW := gw_of 925 _ (by decide +kernel) rfl
theorem gw_926 : (Cond.selects "QuoteGraphModel" y_M_greater y_M_greater) ∈ GW := gw_of 926 _ (by decide +kernel) rfl
theorem gw_927 : (Cond.code y_M_greater b_M_greater 3 (some .int)) ∈ GW := gw_of 927 _ (by decide +kernel) rfl
theorem gw_928 : (Cond.methodLink "QuoteGraphLaw" 91 y_M_option) ∈ GW := gw_of 928 _ (by decide +kernel) rfl
theorem gw_929 : (Cond.instanceMethod y_M_option) ∈ GW := gw_of 929 _ (by decide +kernel) rfl
theorem gw_930 : (Cond.selects "QuoteGraphModel" y_M_option y_M_option) ∈ GW := gw_of 930 _ (by decide +kernel) rfl
theorem gw_931 : (Cond.code y_M_option b_M_option 8 (some .int)) ∈ GW := gw_of 931 _ (by decide +kernel) rfl
theorem gw_932 : (Cond.methodLink "QuoteGraphLaw" 95 y_M_terms) ∈ GW := gw_of 932 _ (by decide +kernel) rfl
theorem gw_933 : (Cond.instanceMethod y_M_terms) ∈ GW := gw_of 933 _ (by decide +kernel) rfl
theorem gw_934 : (Cond.selects "QuoteGraphModel" y_M_terms y_M_terms) ∈ GW := gw_of 934 _ (by decide +kernel) rfl
theorem gw_935 : (Cond.code y_M_terms b_M_terms 6 none) ∈ GW := gw_of 935 _ (by decide +kernel) rfl
theorem gw_936 : (Cond.methodLink "QuoteGraphModel" 113 y_M_noOption) ∈ GW := gw_of 936 _ (by decide +kernel) rfl
theorem gw_938 : (Cond.instanceMethod y_M_noOption) ∈ GW := gw_of 938 _ (by decide +kernel) rfl
theorem gw_939 : (Cond.code y_M_noOption b_M_noOption 2 (some .boolean)) ∈ GW := gw_of 939 _ (by decide +kernel) rfl
theorem gw_940 : (Cond.methodLink "QuoteGraphModel" 116 y_M_badPart) ∈ GW := gw_of 940 _ (by decide +kernel) rfl
theorem gw_942 : (Cond.instanceMethod y_M_badPart) ∈ GW := gw_of 942 _ (by decide +kernel) rfl
theorem gw_943 : (Cond.code y_M_badPart b_M_badPart 3 (some .boolean)) ∈ GW := gw_of 943 _ (by decide +kernel) rfl
theorem gw_944 : (Cond.methodLink "QuoteGraphModel" 102 y_M_hangs) ∈ GW := gw_of 944 _ (by decide +kernel) rfl
theorem gw_946 : (Cond.instanceMethod y_M_hangs) ∈ GW := gw_of 946 _ (by decide +kernel) rfl
theorem gw_947 : (Cond.code y_M_hangs b_M_hangs 7 (some .boolean)) ∈ GW := gw_of 947 _ (by decide +kernel) rfl
theorem gw_948 : (Cond.methodLink "QuoteGraphModel" 119 y_M_tell) ∈ GW := gw_of 948 _ (by decide +kernel) rfl
theorem gw_950 : (Cond.instanceMethod y_M_tell) ∈ GW := gw_of 950 _ (by decide +kernel) rfl
theorem gw_951 : (Cond.code y_M_tell b_M_tell 4 none) ∈ GW := gw_of 951 _ (by decide +kernel) rfl
theorem gw_952 : (Cond.methodLink "QuoteGraphModel" 109 y_M_users) ∈ GW := gw_of 952 _ (by decide +kernel) rfl
theorem gw_954 : (Cond.instanceMethod y_M_users) ∈ GW := gw_of 954 _ (by decide +kernel) rfl
theorem gw_955 : (Cond.code y_M_users b_M_users 8 (some .int)) ∈ GW := gw_of 955 _ (by decide +kernel) rfl
theorem gw_956 : (Cond.methodLink "QuoteGraphLaw" 99 y_M_engine) ∈ GW := gw_of 956 _ (by decide +kernel) rfl
theorem gw_957 : (Cond.instanceMethod y_M_engine) ∈ GW := gw_of 957 _ (by decide +kernel) rfl
theorem gw_958 : (Cond.selects "QuoteGraphModel" y_M_engine y_M_engine) ∈ GW := gw_of 958 _ (by decide +kernel) rfl
theorem gw_959 : (Cond.code y_M_engine b_M_engine 5 none) ∈ GW := gw_of 959 _ (by decide +kernel) rfl
theorem gw_960 : (Cond.methodLink "QuoteGraphLaw" 103 y_M_set) ∈ GW := gw_of 960 _ (by decide +kernel) rfl
theorem gw_961 : (Cond.instanceMethod y_M_set) ∈ GW := gw_of 961 _ (by decide +kernel) rfl
theorem gw_962 : (Cond.selects "QuoteGraphModel" y_M_set y_M_set) ∈ GW := gw_of 962 _ (by decide +kernel) rfl
theorem gw_963 : (Cond.code y_M_set b_M_set 7 (some .int)) ∈ GW := gw_of 963 _ (by decide +kernel) rfl
theorem gw_964 : (Cond.methodLink "QuoteGraphLaw" 107 y_M_value) ∈ GW := gw_of 964 _ (by decide +kernel) rfl
theorem gw_965 : (Cond.instanceMethod y_M_value) ∈ GW := gw_of 965 _ (by decide +kernel) rfl
theorem gw_966 : (Cond.selects "QuoteGraphModel" y_M_value y_M_value) ∈ GW := gw_of 966 _ (by decide +kernel) rfl
theorem gw_967 : (Cond.code y_M_value b_M_value 2 (some .double)) ∈ GW := gw_of 967 _ (by decide +kernel) rfl
theorem gw_968 : (Cond.methodLink "QuoteGraphModel" 206 y_M_ask) ∈ GW := gw_of 968 _ (by decide +kernel) rfl
theorem gw_970 : (Cond.instanceMethod y_M_ask) ∈ GW := gw_of 970 _ (by decide +kernel) rfl
theorem gw_971 : (Cond.code y_M_ask b_M_ask 7 (some .boolean)) ∈ GW := gw_of 971 _ (by decide +kernel) rfl
theorem gw_972 : (Cond.methodLink "QuoteGraphModel" 200 y_M_result) ∈ GW := gw_of 972 _ (by decide +kernel) rfl
theorem gw_974 : (Cond.instanceMethod y_M_result) ∈ GW := gw_of 974 _ (by decide +kernel) rfl
theorem gw_975 : (Cond.code y_M_result b_M_result 6 (some .long)) ∈ GW := gw_of 975 _ (by decide +kernel) rfl
theorem gw_976 : (Cond.constantLong "QuoteGraphModel" 194 4) ∈ GW := gw_of 976 _ (by decide +kernel) rfl
theorem gw_977 : (Cond.constantLong "QuoteGraphModel" 182 8) ∈ GW := gw_of 977 _ (by decide +kernel) rfl
theorem gw_978 : (Cond.methodLink "QuoteGraphModel" 146 y_M_floored) ∈ GW := gw_of 978 _ (by decide +kernel) rfl
theorem gw_980 : (Cond.instanceMethod y_M_floored) ∈ GW := gw_of 980 _ (by decide +kernel) rfl
theorem gw_981 : (Cond.code y_M_floored b_M_floored 5 (some .long)) ∈ GW := gw_of 981 _ (by decide +kernel) rfl
theorem gw_982 : (Cond.methodLink "QuoteGraphModel" 196 y_M_valueOfOption) ∈ GW := gw_of 982 _ (by decide +kernel) rfl
theorem gw_984 : (Cond.instanceMethod y_M_valueOfOption) ∈ GW := gw_of 984 _ (by decide +kernel) rfl
theorem gw_985 : (Cond.code y_M_valueOfOption b_M_valueOfOption 4 (some .long)) ∈ GW := gw_of 985 _ (by decide +kernel) rfl
theorem gw_986 : (Cond.constantLong "QuoteGraphModel" 180 1024) ∈ GW := gw_of 986 _ (by decide +kernel) rfl
theorem gw_987 : (Cond.methodLink "QuoteGraphModel" 184 y_M_lattice) ∈ GW := gw_of 987 _ (by decide +kernel) rfl
theorem gw_989 : (Cond.instanceMethod y_M_lattice) ∈ GW := gw_of 989 _ (by decide +kernel) rfl
theorem gw_990 : (Cond.code y_M_lattice b_M_lattice 6 (some .long)) ∈ GW := gw_of 990 _ (by decide +kernel) rfl
theorem gw_991 : (Cond.methodLink "QuoteGraphModel" 154 y_M_payoff) ∈ GW := gw_of 991 _ (by decide +kernel) rfl
theorem gw_993 : (Cond.instanceMethod y_M_payoff) ∈ GW := gw_of 993 _ (by decide +kernel) rfl
theorem gw_994 : (Cond.code y_M_payoff b_M_payoff 5 (some .long)) ∈ GW := gw_of 994 _ (by decide +kernel) rfl
theorem gw_995 : (Cond.constantLong "QuoteGraphModel" 137 102400) ∈ GW := gw_of 995 _ (by decide +kernel) rfl
theorem gw_996 : (Cond.constantLong "QuoteGraphModel" 163 16) ∈ GW := gw_of 996 _ (by decide +kernel) rfl
theorem gw_997 : (Cond.methodLink "QuoteGraphModel" 165 y_M_earlier) ∈ GW := gw_of 997 _ (by decide +kernel) rfl
theorem gw_999 : (Cond.instanceMethod y_M_earlier) ∈ GW := gw_of 999 _ (by decide +kernel) rfl
theorem gw_1000 : (Cond.code y_M_earlier b_M_earlier 9 (some .long)) ∈ GW := gw_of 1000 _ (by decide +kernel) rfl
theorem gw_1001 : (Cond.constantLong "QuoteGraphModel" 142 8192) ∈ GW := gw_of 1001 _ (by decide +kernel) rfl
theorem gw_1002 : (Cond.constantLong "QuoteGraphModel" 144 16384) ∈ GW := gw_of 1002 _ (by decide +kernel) rfl
theorem gw_1003 : (Cond.methodLink "QuoteGraphModel" 150 y_M_bounded) ∈ GW := gw_of 1003 _ (by decide +kernel) rfl
theorem gw_1005 : (Cond.instanceMethod y_M_bounded) ∈ GW := gw_of 1005 _ (by decide +kernel) rfl
theorem gw_1006 : (Cond.code y_M_bounded b_M_bounded 3 (some .long)) ∈ GW := gw_of 1006 _ (by decide +kernel) rfl
theorem gw_1007 : (Cond.constantLong "QuoteGraphModel" 123 1024000000) ∈ GW := gw_of 1007 _ (by decide +kernel) rfl
theorem gw_1008 : (Cond.constantLong "QuoteGraphModel" 125 (-1024000000)) ∈ GW := gw_of 1008 _ (by decide +kernel) rfl
theorem gw_1009 : (Cond.methodLink "QuoteGraphModel" 188 y_M_paths) ∈ GW := gw_of 1009 _ (by decide +kernel) rfl
theorem gw_1011 : (Cond.instanceMethod y_M_paths) ∈ GW := gw_of 1011 _ (by decide +kernel) rfl
theorem gw_1012 : (Cond.code y_M_paths b_M_paths 10 (some .long)) ∈ GW := gw_of 1012 _ (by decide +kernel) rfl
theorem gw_1013 : (Cond.constantLong "QuoteGraphModel" 168 12345) ∈ GW := gw_of 1013 _ (by decide +kernel) rfl
theorem gw_1014 : (Cond.constantLong "QuoteGraphModel" 170 1103515245) ∈ GW := gw_of 1014 _ (by decide +kernel) rfl
theorem gw_1015 : (Cond.constantLong "QuoteGraphModel" 172 2147483647) ∈ GW := gw_of 1015 _ (by decide +kernel) rfl
theorem gw_1016 : (Cond.constantLong "QuoteGraphModel" 174 65536) ∈ GW := gw_of 1016 _ (by decide +kernel) rfl
theorem gw_1017 : (Cond.constantLong "QuoteGraphModel" 176 2) ∈ GW := gw_of 1017 _ (by decide +kernel) rfl
theorem gw_1018 : (Cond.constantLong "QuoteGraphModel" 178 512) ∈ GW := gw_of 1018 _ (by decide +kernel) rfl
theorem gw_1019 : (Cond.methodLink "QuoteGraphModel" 191 y_M_net) ∈ GW := gw_of 1019 _ (by decide +kernel) rfl
theorem gw_1021 : (Cond.instanceMethod y_M_net) ∈ GW := gw_of 1021 _ (by decide +kernel) rfl
theorem gw_1022 : (Cond.code y_M_net b_M_net 6 (some .long)) ∈ GW := gw_of 1022 _ (by decide +kernel) rfl
theorem gw_1023 : (Cond.methodLink "QuoteGraphLaw" 111 y_M_freeze) ∈ GW := gw_of 1023 _ (by decide +kernel) rfl
theorem gw_1024 : (Cond.instanceMethod y_M_freeze) ∈ GW := gw_of 1024 _ (by decide +kernel) rfl
theorem gw_1025 : (Cond.selects "QuoteGraphModel" y_M_freeze y_M_freeze) ∈ GW := gw_of 1025 _ (by decide +kernel) rfl
theorem gw_1026 : (Cond.code y_M_freeze b_M_freeze 3 none) ∈ GW := gw_of 1026 _ (by decide +kernel) rfl
theorem gw_1027 : (Cond.methodLink "QuoteGraphLaw" 115 y_M_bump) ∈ GW := gw_of 1027 _ (by decide +kernel) rfl
theorem gw_1028 : (Cond.instanceMethod y_M_bump) ∈ GW := gw_of 1028 _ (by decide +kernel) rfl
theorem gw_1029 : (Cond.selects "QuoteGraphModel" y_M_bump y_M_bump) ∈ GW := gw_of 1029 _ (by decide +kernel) rfl
theorem gw_1030 : (Cond.code y_M_bump b_M_bump 11 (some .double)) ∈ GW := gw_of 1030 _ (by decide +kernel) rfl
theorem gw_1031 : (Cond.constantDouble "QuoteGraphModel" 212 4652007308841189376) ∈ GW := gw_of 1031 _ (by decide +kernel) rfl
theorem gw_1032 : (Cond.methodLink "QuoteGraphLaw" 118 y_M_uses) ∈ GW := gw_of 1032 _ (by decide +kernel) rfl
theorem gw_1033 : (Cond.instanceMethod y_M_uses) ∈ GW := gw_of 1033 _ (by decide +kernel) rfl
theorem gw_1034 : (Cond.selects "QuoteGraphModel" y_M_uses y_M_uses) ∈ GW := gw_of 1034 _ (by decide +kernel) rfl
theorem gw_1035 : (Cond.code y_M_uses b_M_uses 3 (some .boolean)) ∈ GW := gw_of 1035 _ (by decide +kernel) rfl
theorem gw_1036 : (Cond.methodLink "QuoteGraphLaw" 121 y_M_node) ∈ GW := gw_of 1036 _ (by decide +kernel) rfl
theorem gw_1037 : (Cond.instanceMethod y_M_node) ∈ GW := gw_of 1037 _ (by decide +kernel) rfl
theorem gw_1038 : (Cond.selects "QuoteGraphModel" y_M_node y_M_node) ∈ GW := gw_of 1038 _ (by decide +kernel) rfl
theorem gw_1039 : (Cond.code y_M_node b_M_node 5 (some .int)) ∈ GW := gw_of 1039 _ (by decide +kernel) rfl
theorem gw_1040 : (Cond.methodLink "QuoteGraphLaw" 126 y_M_count) ∈ GW := gw_of 1040 _ (by decide +kernel) rfl
theorem gw_1041 : (Cond.instanceMethod y_M_count) ∈ GW := gw_of 1041 _ (by decide +kernel) rfl
theorem gw_1042 : (Cond.selects "QuoteGraphModel" y_M_count y_M_count) ∈ GW := gw_of 1042 _ (by decide +kernel) rfl
theorem gw_1043 : (Cond.code y_M_count b_M_count 2 (some .int)) ∈ GW := gw_of 1043 _ (by decide +kernel) rfl
theorem gw_1044 : (Cond.constantDouble "QuoteGraphLaw" 68 4593671619917905920) ∈ GW := gw_of 1044 _ (by decide +kernel) rfl
theorem gw_1045 : (Cond.arrayClass .double) ∈ GW := gw_of 1045 _ (by decide +kernel) rfl
theorem gw_1046 : (Cond.sameMethod "java/lang/Throwable" "java/lang/Throwable" "fillInStackTrace" "(I)Ljava/lang/Throwable;") ∈ GW := gw_of 1046 _ (by decide +kernel) rfl
end
section
theorem d_Bl_init_0 : decode b_Bl_init 0 = .ok (.aload_n 0, 1) := by decide +kernel
theorem d_Bl_init_1 : decode b_Bl_init 1 = .ok (.iload_n 1, 1) := by decide +kernel
theorem d_Bl_init_2 : decode b_Bl_init 2 = .ok (.iconst 2, 1) := by decide +kernel
theorem d_Bl_init_3 : decode b_Bl_init 3 = .ok (.anewarray 3, 3) := by decide +kernel
theorem d_Bl_init_6 : decode b_Bl_init 6 = .ok (.dup, 1) := by decide +kernel
theorem d_Bl_init_7 : decode b_Bl_init 7 = .ok (.iconst 0, 1) := by decide +kernel
theorem d_Bl_init_8 : decode b_Bl_init 8 = .ok (.aload_n 2, 1) := by decide +kernel
theorem d_Bl_init_9 : decode b_Bl_init 9 = .ok (.aastore, 1) := by decide +kernel
theorem d_Bl_init_10 : decode b_Bl_init 10 = .ok (.dup, 1) := by decide +kernel
theorem d_Bl_init_11 : decode b_Bl_init 11 = .ok (.iconst 1, 1) := by decide +kernel
theorem d_Bl_init_12 : decode b_Bl_init 12 = .ok (.aload_n 3, 1) := by decide +kernel
theorem d_Bl_init_13 : decode b_Bl_init 13 = .ok (.aastore, 1) := by decide +kernel
theorem d_Bl_init_14 : decode b_Bl_init 14 = .ok (.iconst 2, 1) := by decide +kernel
theorem d_Bl_init_15 : decode b_Bl_init 15 = .ok (.invokespecial 5, 3) := by decide +kernel
theorem d_Bl_init_18 : decode b_Bl_init 18 = .ok (.aload_n 0, 1) := by decide +kernel
theorem d_Bl_init_19 : decode b_Bl_init 19 = .ok (.lload 4, 2) := by decide +kernel
theorem d_Bl_init_21 : decode b_Bl_init 21 = .ok (.putfield 9, 3) := by decide +kernel
theorem d_Bl_init_24 : decode b_Bl_init 24 = .ok (.aload_n 0, 1) := by decide +kernel
theorem d_Bl_init_25 : decode b_Bl_init 25 = .ok (.lload 6, 2) := by decide +kernel
theorem d_Bl_init_27 : decode b_Bl_init 27 = .ok (.putfield 15, 3) := by decide +kernel
theorem d_Bl_init_30 : decode b_Bl_init 30 = .ok (.return_, 1) := by decide +kernel
theorem d_Bl_sort_0 : decode b_Bl_sort 0 = .ok (.iconst 1, 1) := by decide +kernel
theorem d_Bl_sort_1 : decode b_Bl_sort 1 = .ok (.ireturn, 1) := by decide +kernel
theorem d_Bl_workOut_0 : decode b_Bl_workOut 0 = .ok (.aload_n 0, 1) := by decide +kernel
theorem d_Bl_workOut_1 : decode b_Bl_workOut 1 = .ok (.getfield 9, 3) := by decide +kernel
theorem d_Bl_workOut_4 : decode b_Bl_workOut 4 = .ok (.aload_n 0, 1) := by decide +kernel
theorem d_Bl_workOut_5 : decode b_Bl_workOut 5 = .ok (.getfield 18, 3) := by decide +kernel
theorem d_Bl_workOut_8 : decode b_Bl_workOut 8 = .ok (.iconst 0, 1) := by decide +kernel
theorem d_Bl_workOut_9 : decode b_Bl_workOut 9 = .ok (.aaload, 1) := by decide +kernel
theorem d_Bl_workOut_10 : decode b_Bl_workOut 10 = .ok (.getfield 22, 3) := by decide +kernel
theorem d_Bl_workOut_13 : decode b_Bl_workOut 13 = .ok (.lmul, 1) := by decide +kernel
theorem d_Bl_workOut_14 : decode b_Bl_workOut 14 = .ok (.aload_n 0, 1) := by decide +kernel
theorem d_Bl_workOut_15 : decode b_Bl_workOut 15 = .ok (.getfield 15, 3) := by decide +kernel
theorem d_Bl_workOut_18 : decode b_Bl_workOut 18 = .ok (.aload_n 0, 1) := by decide +kernel
theorem d_Bl_workOut_19 : decode b_Bl_workOut 19 = .ok (.getfield 18, 3) := by decide +kernel
theorem d_Bl_workOut_22 : decode b_Bl_workOut 22 = .ok (.iconst 1, 1) := by decide +kernel
theorem d_Bl_workOut_23 : decode b_Bl_workOut 23 = .ok (.aaload, 1) := by decide +kernel
theorem d_Bl_workOut_24 : decode b_Bl_workOut 24 = .ok (.getfield 22, 3) := by decide +kernel
theorem d_Bl_workOut_27 : decode b_Bl_workOut 27 = .ok (.lmul, 1) := by decide +kernel
theorem d_Bl_workOut_28 : decode b_Bl_workOut 28 = .ok (.ladd, 1) := by decide +kernel
theorem d_Bl_workOut_29 : decode b_Bl_workOut 29 = .ok (.lstore_n 1, 1) := by decide +kernel
theorem d_Bl_workOut_30 : decode b_Bl_workOut 30 = .ok (.lload_n 1, 1) := by decide +kernel
theorem d_Bl_workOut_31 : decode b_Bl_workOut 31 = .ok (.iconst 3, 1) := by decide +kernel
theorem d_Bl_workOut_32 : decode b_Bl_workOut 32 = .ok (.invokestatic 25, 3) := by decide +kernel
theorem d_Bl_workOut_35 : decode b_Bl_workOut 35 = .ok (.lreturn, 1) := by decide +kernel
theorem d_En_init_0 : decode b_En_init 0 = .ok (.aload_n 0, 1) := by decide +kernel
theorem d_En_init_1 : decode b_En_init 1 = .ok (.invokespecial 1, 3) := by decide +kernel
theorem d_En_init_4 : decode b_En_init 4 = .ok (.aload_n 0, 1) := by decide +kernel
theorem d_En_init_5 : decode b_En_init 5 = .ok (.iload_n 1, 1) := by decide +kernel
theorem d_En_init_6 : decode b_En_init 6 = .ok (.putfield 7, 3) := by decide +kernel
theorem d_En_init_9 : decode b_En_init 9 = .ok (.aload_n 0, 1) := by decide +kernel
theorem d_En_init_10 : decode b_En_init 10 = .ok (.iload_n 2, 1) := by decide +kernel
theorem d_En_init_11 : decode b_En_init 11 = .ok (.putfield 13, 3) := by decide +kernel
theorem d_En_init_14 : decode b_En_init 14 = .ok (.return_, 1) := by decide +kernel
theorem d_Gr_init_0 : decode b_Gr_init 0 = .ok (.aload_n 0, 1) := by decide +kernel
theorem d_Gr_init_1 : decode b_Gr_init 1 = .ok (.iload_n 1, 1) := by decide +kernel
theorem d_Gr_init_2 : decode b_Gr_init 2 = .ok (.iconst 2, 1) := by decide +kernel
theorem d_Gr_init_3 : decode b_Gr_init 3 = .ok (.anewarray 3, 3) := by decide +kernel
theorem d_Gr_init_6 : decode b_Gr_init 6 = .ok (.dup, 1) := by decide +kernel
theorem d_Gr_init_7 : decode b_Gr_init 7 = .ok (.iconst 0, 1) := by decide +kernel
theorem d_Gr_init_8 : decode b_Gr_init 8 = .ok (.aload_n 2, 1) := by decide +kernel
theorem d_Gr_init_9 : decode b_Gr_init 9 = .ok (.aastore, 1) := by decide +kernel
theorem d_Gr_init_10 : decode b_Gr_init 10 = .ok (.dup, 1) := by decide +kernel
theorem d_Gr_init_11 : decode b_Gr_init 11 = .ok (.iconst 1, 1) := by decide +kernel
theorem d_Gr_init_12 : decode b_Gr_init 12 = .ok (.aload_n 3, 1) := by decide +kernel
theorem d_Gr_init_13 : decode b_Gr_init 13 = .ok (.aastore, 1) := by decide +kernel
theorem d_Gr_init_14 : decode b_Gr_init 14 = .ok (.iconst 2, 1) := by decide +kernel
theorem d_Gr_init_15 : decode b_Gr_init 15 = .ok (.invokespecial 5, 3) := by decide +kernel
theorem d_Gr_init_18 : decode b_Gr_init 18 = .ok (.return_, 1) := by decide +kernel
theorem d_Gr_sort_0 : decode b_Gr_sort 0 = .ok (.iconst 2, 1) := by decide +kernel
theorem d_Gr_sort_1 : decode b_Gr_sort 1 = .ok (.ireturn, 1) := by decide +kernel
theorem d_Gr_workOut_0 : decode b_Gr_workOut 0 = .ok (.aload_n 0, 1) := by decide +kernel
theorem d_Gr_workOut_1 : decode b_Gr_workOut 1 = .ok (.getfield 9, 3) := by decide +kernel
theorem d_Gr_workOut_4 : decode b_Gr_workOut 4 = .ok (.iconst 0, 1) := by decide +kernel
theorem d_Gr_workOut_5 : decode b_Gr_workOut 5 = .ok (.aaload, 1) := by decide +kernel
theorem d_Gr_workOut_6 : decode b_Gr_workOut 6 = .ok (.getfield 15, 3) := by decide +kernel
theorem d_Gr_workOut_9 : decode b_Gr_workOut 9 = .ok (.aload_n 0, 1) := by decide +kernel
theorem d_Gr_workOut_10 : decode b_Gr_workOut 10 = .ok (.getfield 9, 3) := by decide +kernel
theorem d_Gr_workOut_13 : decode b_Gr_workOut 13 = .ok (.iconst 1, 1) := by decide +kernel
theorem d_Gr_workOut_14 : decode b_Gr_workOut 14 = .ok (.aaload, 1) := by decide +kernel
theorem d_Gr_workOut_15 : decode b_Gr_workOut 15 = .ok (.getfield 15, 3) := by decide +kernel
theorem d_Gr_workOut_18 : decode b_Gr_workOut 18 = .ok (.invokestatic 19, 3) := by decide +kernel
theorem d_Gr_workOut_21 : decode b_Gr_workOut 21 = .ok (.lreturn, 1) := by decide +kernel
theorem d_L_blend_0 : decode b_L_blend 0 = .ok (.aload 7, 2) := by decide +kernel
theorem d_L_blend_2 : decode b_L_blend 2 = .ok (.iconst 0, 1) := by decide +kernel
theorem d_L_blend_3 : decode b_L_blend 3 = .ok (.aload_n 0, 1) := by decide +kernel
theorem d_L_blend_4 : decode b_L_blend 4 = .ok (.iload_n 1, 1) := by decide +kernel
theorem d_L_blend_5 : decode b_L_blend 5 = .ok (.iload_n 2, 1) := by decide +kernel
theorem d_L_blend_6 : decode b_L_blend 6 = .ok (.dload_n 3, 1) := by decide +kernel
theorem d_L_blend_7 : decode b_L_blend 7 = .ok (.dload 5, 2) := by decide +kernel
theorem d_L_blend_9 : decode b_L_blend 9 = .ok (.invokevirtual 17, 3) := by decide +kernel
theorem d_L_blend_12 : decode b_L_blend 12 = .ok (.i2l, 1) := by decide +kernel
theorem d_L_blend_13 : decode b_L_blend 13 = .ok (.lastore, 1) := by decide +kernel
theorem d_L_blend_14 : decode b_L_blend 14 = .ok (.goto 11, 3) := by decide +kernel
theorem d_L_blend_17 : decode b_L_blend 17 = .ok (.astore 8, 2) := by decide +kernel
theorem d_L_blend_19 : decode b_L_blend 19 = .ok (.iconst 1, 1) := by decide +kernel
theorem d_L_blend_20 : decode b_L_blend 20 = .ok (.ireturn, 1) := by decide +kernel
theorem d_L_blend_21 : decode b_L_blend 21 = .ok (.astore 8, 2) := by decide +kernel
theorem d_L_blend_23 : decode b_L_blend 23 = .ok (.iconst 2, 1) := by decide +kernel
theorem d_L_blend_24 : decode b_L_blend 24 = .ok (.ireturn, 1) := by decide +kernel
theorem d_L_blend_25 : decode b_L_blend 25 = .ok (.iconst 0, 1) := by decide +kernel
theorem d_L_blend_26 : decode b_L_blend 26 = .ok (.ireturn, 1) := by decide +kernel
theorem d_L_bump_0 : decode b_L_bump 0 = .ok (.aload 5, 2) := by decide +kernel
theorem d_L_bump_2 : decode b_L_bump 2 = .ok (.iconst 0, 1) := by decide +kernel
theorem d_L_bump_3 : decode b_L_bump 3 = .ok (.aload_n 0, 1) := by decide +kernel
theorem d_L_bump_4 : decode b_L_bump 4 = .ok (.iload_n 1, 1) := by decide +kernel
theorem d_L_bump_5 : decode b_L_bump 5 = .ok (.iload_n 2, 1) := by decide +kernel
theorem d_L_bump_6 : decode b_L_bump 6 = .ok (.dload_n 3, 1) := by decide +kernel
theorem d_L_bump_7 : decode b_L_bump 7 = .ok (.invokevirtual 53, 3) := by decide +kernel
theorem d_L_bump_10 : decode b_L_bump 10 = .ok (.dastore, 1) := by decide +kernel
theorem d_L_bump_11 : decode b_L_bump 11 = .ok (.goto 15, 3) := by decide +kernel
theorem d_L_bump_14 : decode b_L_bump 14 = .ok (.astore 6, 2) := by decide +kernel
theorem d_L_bump_16 : decode b_L_bump 16 = .ok (.iconst 1, 1) := by decide +kernel
theorem d_L_bump_17 : decode b_L_bump 17 = .ok (.ireturn, 1) := by decide +kernel
theorem d_L_bump_18 : decode b_L_bump 18 = .ok (.astore 6, 2) := by decide +kernel
theorem d_L_bump_20 : decode b_L_bump 20 = .ok (.iconst 2, 1) := by decide +kernel
theorem d_L_bump_21 : decode b_L_bump 21 = .ok (.ireturn, 1) := by decide +kernel
theorem d_L_bump_22 : decode b_L_bump 22 = .ok (.astore 6, 2) := by decide +kernel
theorem d_L_bump_24 : decode b_L_bump 24 = .ok (.iconst 3, 1) := by decide +kernel
theorem d_L_bump_25 : decode b_L_bump 25 = .ok (.ireturn, 1) := by decide +kernel
theorem d_L_bump_26 : decode b_L_bump 26 = .ok (.iconst 0, 1) := by decide +kernel
theorem d_L_bump_27 : decode b_L_bump 27 = .ok (.ireturn, 1) := by decide +kernel
theorem d_L_engine_0 : decode b_L_engine 0 = .ok (.aload_n 0, 1) := by decide +kernel
theorem d_L_engine_1 : decode b_L_engine 1 = .ok (.iload_n 1, 1) := by decide +kernel
theorem d_L_engine_2 : decode b_L_engine 2 = .ok (.iload_n 2, 1) := by decide +kernel
theorem d_L_engine_3 : decode b_L_engine 3 = .ok (.iload_n 3, 1) := by decide +kernel
theorem d_L_engine_4 : decode b_L_engine 4 = .ok (.invokevirtual 33, 3) := by decide +kernel
theorem d_L_engine_7 : decode b_L_engine 7 = .ok (.goto 11, 3) := by decide +kernel
theorem d_L_engine_10 : decode b_L_engine 10 = .ok (.astore 4, 2) := by decide +kernel
theorem d_L_engine_12 : decode b_L_engine 12 = .ok (.iconst 1, 1) := by decide +kernel
theorem d_L_engine_13 : decode b_L_engine 13 = .ok (.ireturn, 1) := by decide +kernel
theorem d_L_engine_14 : decode b_L_engine 14 = .ok (.astore 4, 2) := by decide +kernel
theorem d_L_engine_16 : decode b_L_engine 16 = .ok (.iconst 2, 1) := by decide +kernel
theorem d_L_engine_17 : decode b_L_engine 17 = .ok (.ireturn, 1) := by decide +kernel
theorem d_L_engine_18 : decode b_L_engine 18 = .ok (.iconst 0, 1) := by decide +kernel
theorem d_L_engine_19 : decode b_L_engine 19 = .ok (.ireturn, 1) := by decide +kernel
theorem d_L_freeze_0 : decode b_L_freeze 0 = .ok (.aload_n 0, 1) := by decide +kernel
theorem d_L_freeze_1 : decode b_L_freeze 1 = .ok (.iload_n 1, 1) := by decide +kernel
theorem d_L_freeze_2 : decode b_L_freeze 2 = .ok (.iload_n 2, 1) := by decide +kernel
theorem d_L_freeze_3 : decode b_L_freeze 3 = .ok (.invokevirtual 49, 3) := by decide +kernel
theorem d_L_freeze_6 : decode b_L_freeze 6 = .ok (.goto 9, 3) := by decide +kernel
theorem d_L_freeze_9 : decode b_L_freeze 9 = .ok (.astore_n 3, 1) := by decide +kernel
theorem d_L_freeze_10 : decode b_L_freeze 10 = .ok (.iconst 1, 1) := by decide +kernel
theorem d_L_freeze_11 : decode b_L_freeze 11 = .ok (.ireturn, 1) := by decide +kernel
theorem d_L_freeze_12 : decode b_L_freeze 12 = .ok (.astore_n 3, 1) := by decide +kernel
theorem d_L_freeze_13 : decode b_L_freeze 13 = .ok (.iconst 2, 1) := by decide +kernel
theorem d_L_freeze_14 : decode b_L_freeze 14 = .ok (.ireturn, 1) := by decide +kernel
theorem d_L_freeze_15 : decode b_L_freeze 15 = .ok (.iconst 0, 1) := by decide +kernel
theorem d_L_freeze_16 : decode b_L_freeze 16 = .ok (.ireturn, 1) := by decide +kernel
theorem d_L_greater_0 : decode b_L_greater 0 = .ok (.aload_n 3, 1) := by decide +kernel
theorem d_L_greater_1 : decode b_L_greater 1 = .ok (.iconst 0, 1) := by decide +kernel
theorem d_L_greater_2 : decode b_L_greater 2 = .ok (.aload_n 0, 1) := by decide +kernel
theorem d_L_greater_3 : decode b_L_greater 3 = .ok (.iload_n 1, 1) := by decide +kernel
theorem d_L_greater_4 : decode b_L_greater 4 = .ok (.iload_n 2, 1) := by decide +kernel
theorem d_L_greater_5 : decode b_L_greater 5 = .ok (.invokevirtual 21, 3) := by decide +kernel
theorem d_L_greater_8 : decode b_L_greater 8 = .ok (.i2l, 1) := by decide +kernel
theorem d_L_greater_9 : decode b_L_greater 9 = .ok (.lastore, 1) := by decide +kernel
theorem d_L_greater_10 : decode b_L_greater 10 = .ok (.goto 11, 3) := by decide +kernel
theorem d_L_greater_13 : decode b_L_greater 13 = .ok (.astore 4, 2) := by decide +kernel
theorem d_L_greater_15 : decode b_L_greater 15 = .ok (.iconst 1, 1) := by decide +kernel
theorem d_L_greater_16 : decode b_L_greater 16 = .ok (.ireturn, 1) := by decide +kernel
theorem d_L_greater_17 : decode b_L_greater 17 = .ok (.astore 4, 2) := by decide +kernel
theorem d_L_greater_19 : decode b_L_greater 19 = .ok (.iconst 2, 1) := by decide +kernel
theorem d_L_greater_20 : decode b_L_greater 20 = .ok (.ireturn, 1) := by decide +kernel
theorem d_L_greater_21 : decode b_L_greater 21 = .ok (.iconst 0, 1) := by decide +kernel
theorem d_L_greater_22 : decode b_L_greater 22 = .ok (.ireturn, 1) := by decide +kernel
theorem d_L_law_0 : decode b_L_law 0 = .ok (.new 8, 3) := by decide +kernel
theorem d_L_law_3 : decode b_L_law 3 = .ok (.dup, 1) := by decide +kernel
theorem d_L_law_4 : decode b_L_law 4 = .ok (.invokespecial 64, 3) := by decide +kernel
theorem d_L_law_7 : decode b_L_law 7 = .ok (.astore_n 1, 1) := by decide +kernel
theorem d_L_law_8 : decode b_L_law 8 = .ok (.new 65, 3) := by decide +kernel
theorem d_L_law_11 : decode b_L_law 11 = .ok (.dup, 1) := by decide +kernel
theorem d_L_law_12 : decode b_L_law 12 = .ok (.invokespecial 67, 3) := by decide +kernel
theorem d_L_law_15 : decode b_L_law 15 = .ok (.astore_n 2, 1) := by decide +kernel
theorem d_L_law_16 : decode b_L_law 16 = .ok (.iconst 1, 1) := by decide +kernel
theorem d_L_law_17 : decode b_L_law 17 = .ok (.newarray .long, 2) := by decide +kernel
theorem d_L_law_19 : decode b_L_law 19 = .ok (.astore_n 3, 1) := by decide +kernel
theorem d_L_law_20 : decode b_L_law 20 = .ok (.iconst 1, 1) := by decide +kernel
theorem d_L_law_21 : decode b_L_law 21 = .ok (.newarray .double, 2) := by decide +kernel
theorem d_L_law_23 : decode b_L_law 23 = .ok (.astore 4, 2) := by decide +kernel
theorem d_L_law_25 : decode b_L_law 25 = .ok (.iconst 0, 1) := by decide +kernel
theorem d_L_law_26 : decode b_L_law 26 = .ok (.istore 5, 2) := by decide +kernel
theorem d_L_law_28 : decode b_L_law 28 = .ok (.iload 5, 2) := by decide +kernel
theorem d_L_law_30 : decode b_L_law 30 = .ok (.aload_n 0, 1) := by decide +kernel
theorem d_L_law_31 : decode b_L_law 31 = .ok (.arraylength, 1) := by decide +kernel
theorem d_L_law_32 : decode b_L_law 32 = .ok (.bipush 6, 2) := by decide +kernel
theorem d_L_law_34 : decode b_L_law 34 = .ok (.isub, 1) := by decide +kernel
theorem d_L_law_35 : decode b_L_law 35 = .ok (.if_icmp .gt 1101, 3) := by decide +kernel
theorem d_L_law_38 : decode b_L_law 38 = .ok (.aload_n 0, 1) := by decide +kernel
theorem d_L_law_39 : decode b_L_law 39 = .ok (.iload 5, 2) := by decide +kernel
theorem d_L_law_41 : decode b_L_law 41 = .ok (.iaload, 1) := by decide +kernel
theorem d_L_law_42 : decode b_L_law 42 = .ok (.bipush 15, 2) := by decide +kernel
theorem d_L_law_44 : decode b_L_law 44 = .ok (.iand, 1) := by decide +kernel
theorem d_L_law_45 : decode b_L_law 45 = .ok (.tableswitch 1085 0 12 #[67, 133, 245, 313, 427, 527, 587, 665, 742, 806, 917, 992, 1060], 67) := by decide +kernel
theorem d_L_law_112 : decode b_L_law 112 = .ok (.aload_n 1, 1) := by decide +kernel
theorem d_L_law_113 : decode b_L_law 113 = .ok (.aload_n 0, 1) := by decide +kernel
theorem d_L_law_114 : decode b_L_law 114 = .ok (.iload 5, 2) := by decide +kernel
theorem d_L_law_116 : decode b_L_law 116 = .ok (.iconst 1, 1) := by decide +kernel
theorem d_L_law_117 : decode b_L_law 117 = .ok (.iadd, 1) := by decide +kernel
theorem d_L_law_118 : decode b_L_law 118 = .ok (.iaload, 1) := by decide +kernel
theorem d_L_law_119 : decode b_L_law 119 = .ok (.i2d, 1) := by decide +kernel
theorem d_L_law_120 : decode b_L_law 120 = .ok (.ldc2_w 68, 3) := by decide +kernel
theorem d_L_law_123 : decode b_L_law 123 = .ok (.dmul, 1) := by decide +kernel
theorem d_L_law_124 : decode b_L_law 124 = .ok (.aload_n 3, 1) := by decide +kernel
theorem d_L_law_125 : decode b_L_law 125 = .ok (.invokestatic 70, 3) := by decide +kernel
theorem d_L_law_128 : decode b_L_law 128 = .ok (.istore 6, 2) := by decide +kernel
theorem d_L_law_130 : decode b_L_law 130 = .ok (.aload_n 2, 1) := by decide +kernel
theorem d_L_law_131 : decode b_L_law 131 = .ok (.aload_n 0, 1) := by decide +kernel
theorem d_L_law_132 : decode b_L_law 132 = .ok (.iload 5, 2) := by decide +kernel
theorem d_L_law_134 : decode b_L_law 134 = .ok (.iconst 1, 1) := by decide +kernel
theorem d_L_law_135 : decode b_L_law 135 = .ok (.iadd, 1) := by decide +kernel
theorem d_L_law_136 : decode b_L_law 136 = .ok (.iaload, 1) := by decide +kernel
theorem d_L_law_137 : decode b_L_law 137 = .ok (.i2d, 1) := by decide +kernel
theorem d_L_law_138 : decode b_L_law 138 = .ok (.ldc2_w 68, 3) := by decide +kernel
theorem d_L_law_141 : decode b_L_law 141 = .ok (.dmul, 1) := by decide +kernel
theorem d_L_law_142 : decode b_L_law 142 = .ok (.invokevirtual 75, 3) := by decide +kernel
theorem d_L_law_145 : decode b_L_law 145 = .ok (.istore 7, 2) := by decide +kernel
theorem d_L_law_147 : decode b_L_law 147 = .ok (.aload_n 2, 1) := by decide +kernel
theorem d_L_law_148 : decode b_L_law 148 = .ok (.invokevirtual 76, 3) := by decide +kernel
theorem d_L_law_151 : decode b_L_law 151 = .ok (.iload 6, 2) := by decide +kernel
theorem d_L_law_153 : decode b_L_law 153 = .ok (.if_icmp .eq 5, 3) := by decide +kernel
theorem d_L_law_156 : decode b_L_law 156 = .ok (.iconst 0, 1) := by decide +kernel
theorem d_L_law_157 : decode b_L_law 157 = .ok (.ireturn, 1) := by decide +kernel
theorem d_L_law_158 : decode b_L_law 158 = .ok (.iload 6, 2) := by decide +kernel
theorem d_L_law_160 : decode b_L_law 160 = .ok (.ifCond .ne 15, 3) := by decide +kernel
theorem d_L_law_163 : decode b_L_law 163 = .ok (.aload_n 3, 1) := by decide +kernel
theorem d_L_law_164 : decode b_L_law 164 = .ok (.iconst 0, 1) := by decide +kernel
theorem d_L_law_165 : decode b_L_law 165 = .ok (.laload, 1) := by decide +kernel
theorem d_L_law_166 : decode b_L_law 166 = .ok (.iload 7, 2) := by decide +kernel
theorem d_L_law_168 : decode b_L_law 168 = .ok (.i2l, 1) := by decide +kernel
theorem d_L_law_169 : decode b_L_law 169 = .ok (.lcmp, 1) := by decide +kernel
theorem d_L_law_170 : decode b_L_law 170 = .ok (.ifCond .eq 5, 3) := by decide +kernel
theorem d_L_law_173 : decode b_L_law 173 = .ok (.iconst 0, 1) := by decide +kernel
theorem d_L_law_174 : decode b_L_law 174 = .ok (.ireturn, 1) := by decide +kernel
theorem d_L_law_175 : decode b_L_law 175 = .ok (.goto 955, 3) := by decide +kernel
theorem d_L_law_178 : decode b_L_law 178 = .ok (.aload_n 1, 1) := by decide +kernel
theorem d_L_law_179 : decode b_L_law 179 = .ok (.aload_n 0, 1) := by decide +kernel
theorem d_L_law_180 : decode b_L_law 180 = .ok (.iload 5, 2) := by decide +kernel
theorem d_L_law_182 : decode b_L_law 182 = .ok (.iconst 1, 1) := by decide +kernel
theorem d_L_law_183 : decode b_L_law 183 = .ok (.iadd, 1) := by decide +kernel
theorem d_L_law_184 : decode b_L_law 184 = .ok (.iaload, 1) := by decide +kernel
theorem d_L_law_185 : decode b_L_law 185 = .ok (.aload_n 0, 1) := by decide +kernel
theorem d_L_law_186 : decode b_L_law 186 = .ok (.iload 5, 2) := by decide +kernel
theorem d_L_law_188 : decode b_L_law 188 = .ok (.iconst 2, 1) := by decide +kernel
theorem d_L_law_189 : decode b_L_law 189 = .ok (.iadd, 1) := by decide +kernel
theorem d_L_law_190 : decode b_L_law 190 = .ok (.iaload, 1) := by decide +kernel
theorem d_L_law_191 : decode b_L_law 191 = .ok (.aload_n 0, 1) := by decide +kernel
theorem d_L_law_192 : decode b_L_law 192 = .ok (.iload 5, 2) := by decide +kernel
theorem d_L_law_194 : decode b_L_law 194 = .ok (.iconst 3, 1) := by decide +kernel
theorem d_L_law_195 : decode b_L_law 195 = .ok (.iadd, 1) := by decide +kernel
theorem d_L_law_196 : decode b_L_law 196 = .ok (.iaload, 1) := by decide +kernel
theorem d_L_law_197 : decode b_L_law 197 = .ok (.i2d, 1) := by decide +kernel
theorem d_L_law_198 : decode b_L_law 198 = .ok (.ldc2_w 68, 3) := by decide +kernel
theorem d_L_law_201 : decode b_L_law 201 = .ok (.dmul, 1) := by decide +kernel
theorem d_L_law_202 : decode b_L_law 202 = .ok (.aload_n 0, 1) := by decide +kernel
theorem d_L_law_203 : decode b_L_law 203 = .ok (.iload 5, 2) := by decide +kernel
theorem d_L_law_205 : decode b_L_law 205 = .ok (.iconst 4, 1) := by decide +kernel
theorem d_L_law_206 : decode b_L_law 206 = .ok (.iadd, 1) := by decide +kernel
theorem d_L_law_207 : decode b_L_law 207 = .ok (.iaload, 1) := by decide +kernel
theorem d_L_law_208 : decode b_L_law 208 = .ok (.i2d, 1) := by decide +kernel
theorem d_L_law_209 : decode b_L_law 209 = .ok (.ldc2_w 68, 3) := by decide +kernel
theorem d_L_law_212 : decode b_L_law 212 = .ok (.dmul, 1) := by decide +kernel
theorem d_L_law_213 : decode b_L_law 213 = .ok (.aload_n 3, 1) := by decide +kernel
theorem d_L_law_214 : decode b_L_law 214 = .ok (.invokestatic 80, 3) := by decide +kernel
theorem d_L_law_217 : decode b_L_law 217 = .ok (.istore 6, 2) := by decide +kernel
theorem d_L_law_219 : decode b_L_law 219 = .ok (.aload_n 2, 1) := by decide +kernel
theorem d_L_law_220 : decode b_L_law 220 = .ok (.aload_n 0, 1) := by decide +kernel
theorem d_L_law_221 : decode b_L_law 221 = .ok (.iload 5, 2) := by decide +kernel
theorem d_L_law_223 : decode b_L_law 223 = .ok (.iconst 1, 1) := by decide +kernel
theorem d_L_law_224 : decode b_L_law 224 = .ok (.iadd, 1) := by decide +kernel
theorem d_L_law_225 : decode b_L_law 225 = .ok (.iaload, 1) := by decide +kernel
theorem d_L_law_226 : decode b_L_law 226 = .ok (.aload_n 0, 1) := by decide +kernel
theorem d_L_law_227 : decode b_L_law 227 = .ok (.iload 5, 2) := by decide +kernel
theorem d_L_law_229 : decode b_L_law 229 = .ok (.iconst 2, 1) := by decide +kernel
theorem d_L_law_230 : decode b_L_law 230 = .ok (.iadd, 1) := by decide +kernel
theorem d_L_law_231 : decode b_L_law 231 = .ok (.iaload, 1) := by decide +kernel
theorem d_L_law_232 : decode b_L_law 232 = .ok (.aload_n 0, 1) := by decide +kernel
theorem d_L_law_233 : decode b_L_law 233 = .ok (.iload 5, 2) := by decide +kernel
theorem d_L_law_235 : decode b_L_law 235 = .ok (.iconst 3, 1) := by decide +kernel
theorem d_L_law_236 : decode b_L_law 236 = .ok (.iadd, 1) := by decide +kernel
theorem d_L_law_237 : decode b_L_law 237 = .ok (.iaload, 1) := by decide +kernel
theorem d_L_law_238 : decode b_L_law 238 = .ok (.i2d, 1) := by decide +kernel
theorem d_L_law_239 : decode b_L_law 239 = .ok (.ldc2_w 68, 3) := by decide +kernel
theorem d_L_law_242 : decode b_L_law 242 = .ok (.dmul, 1) := by decide +kernel
theorem d_L_law_243 : decode b_L_law 243 = .ok (.aload_n 0, 1) := by decide +kernel
theorem d_L_law_244 : decode b_L_law 244 = .ok (.iload 5, 2) := by decide +kernel
theorem d_L_law_246 : decode b_L_law 246 = .ok (.iconst 4, 1) := by decide +kernel
theorem d_L_law_247 : decode b_L_law 247 = .ok (.iadd, 1) := by decide +kernel
theorem d_L_law_248 : decode b_L_law 248 = .ok (.iaload, 1) := by decide +kernel
theorem d_L_law_249 : decode b_L_law 249 = .ok (.i2d, 1) := by decide +kernel
theorem d_L_law_250 : decode b_L_law 250 = .ok (.ldc2_w 68, 3) := by decide +kernel
theorem d_L_law_253 : decode b_L_law 253 = .ok (.dmul, 1) := by decide +kernel
theorem d_L_law_254 : decode b_L_law 254 = .ok (.invokevirtual 83, 3) := by decide +kernel
theorem d_L_law_257 : decode b_L_law 257 = .ok (.istore 7, 2) := by decide +kernel
theorem d_L_law_259 : decode b_L_law 259 = .ok (.aload_n 2, 1) := by decide +kernel
theorem d_L_law_260 : decode b_L_law 260 = .ok (.invokevirtual 76, 3) := by decide +kernel
theorem d_L_law_263 : decode b_L_law 263 = .ok (.iload 6, 2) := by decide +kernel
theorem d_L_law_265 : decode b_L_law 265 = .ok (.if_icmp .eq 5, 3) := by decide +kernel
theorem d_L_law_268 : decode b_L_law 268 = .ok (.iconst 0, 1) := by decide +kernel
theorem d_L_law_269 : decode b_L_law 269 = .ok (.ireturn, 1) := by decide +kernel
theorem d_L_law_270 : decode b_L_law 270 = .ok (.iload 6, 2) := by decide +kernel
theorem d_L_law_272 : decode b_L_law 272 = .ok (.ifCond .ne 15, 3) := by decide +kernel
theorem d_L_law_275 : decode b_L_law 275 = .ok (.aload_n 3, 1) := by decide +kernel
theorem d_L_law_276 : decode b_L_law 276 = .ok (.iconst 0, 1) := by decide +kernel
theorem d_L_law_277 : decode b_L_law 277 = .ok (.laload, 1) := by decide +kernel
theorem d_L_law_278 : decode b_L_law 278 = .ok (.iload 7, 2) := by decide +kernel
theorem d_L_law_280 : decode b_L_law 280 = .ok (.i2l, 1) := by decide +kernel
theorem d_L_law_281 : decode b_L_law 281 = .ok (.lcmp, 1) := by decide +kernel
theorem d_L_law_282 : decode b_L_law 282 = .ok (.ifCond .eq 5, 3) := by decide +kernel
theorem d_L_law_285 : decode b_L_law 285 = .ok (.iconst 0, 1) := by decide +kernel
theorem d_L_law_286 : decode b_L_law 286 = .ok (.ireturn, 1) := by decide +kernel
theorem d_L_law_287 : decode b_L_law 287 = .ok (.goto 843, 3) := by decide +kernel
theorem d_L_law_290 : decode b_L_law 290 = .ok (.aload_n 1, 1) := by decide +kernel
theorem d_L_law_291 : decode b_L_law 291 = .ok (.aload_n 0, 1) := by decide +kernel
theorem d_L_law_292 : decode b_L_law 292 = .ok (.iload 5, 2) := by decide +kernel
theorem d_L_law_294 : decode b_L_law 294 = .ok (.iconst 1, 1) := by decide +kernel
theorem d_L_law_295 : decode b_L_law 295 = .ok (.iadd, 1) := by decide +kernel
theorem d_L_law_296 : decode b_L_law 296 = .ok (.iaload, 1) := by decide +kernel
theorem d_L_law_297 : decode b_L_law 297 = .ok (.aload_n 0, 1) := by decide +kernel
theorem d_L_law_298 : decode b_L_law 298 = .ok (.iload 5, 2) := by decide +kernel
theorem d_L_law_300 : decode b_L_law 300 = .ok (.iconst 2, 1) := by decide +kernel
theorem d_L_law_301 : decode b_L_law 301 = .ok (.iadd, 1) := by decide +kernel
theorem d_L_law_302 : decode b_L_law 302 = .ok (.iaload, 1) := by decide +kernel
theorem d_L_law_303 : decode b_L_law 303 = .ok (.aload_n 3, 1) := by decide +kernel
theorem d_L_law_304 : decode b_L_law 304 = .ok (.invokestatic 84, 3) := by decide +kernel
theorem d_L_law_307 : decode b_L_law 307 = .ok (.istore 6, 2) := by decide +kernel
theorem d_L_law_309 : decode b_L_law 309 = .ok (.aload_n 2, 1) := by decide +kernel
theorem d_L_law_310 : decode b_L_law 310 = .ok (.aload_n 0, 1) := by decide +kernel
theorem d_L_law_311 : decode b_L_law 311 = .ok (.iload 5, 2) := by decide +kernel
theorem d_L_law_313 : decode b_L_law 313 = .ok (.iconst 1, 1) := by decide +kernel
theorem d_L_law_314 : decode b_L_law 314 = .ok (.iadd, 1) := by decide +kernel
theorem d_L_law_315 : decode b_L_law 315 = .ok (.iaload, 1) := by decide +kernel
theorem d_L_law_316 : decode b_L_law 316 = .ok (.aload_n 0, 1) := by decide +kernel
theorem d_L_law_317 : decode b_L_law 317 = .ok (.iload 5, 2) := by decide +kernel
theorem d_L_law_319 : decode b_L_law 319 = .ok (.iconst 2, 1) := by decide +kernel
theorem d_L_law_320 : decode b_L_law 320 = .ok (.iadd, 1) := by decide +kernel
theorem d_L_law_321 : decode b_L_law 321 = .ok (.iaload, 1) := by decide +kernel
theorem d_L_law_322 : decode b_L_law 322 = .ok (.invokevirtual 87, 3) := by decide +kernel
theorem d_L_law_325 : decode b_L_law 325 = .ok (.istore 7, 2) := by decide +kernel
theorem d_L_law_327 : decode b_L_law 327 = .ok (.aload_n 2, 1) := by decide +kernel
theorem d_L_law_328 : decode b_L_law 328 = .ok (.invokevirtual 76, 3) := by decide +kernel
theorem d_L_law_331 : decode b_L_law 331 = .ok (.iload 6, 2) := by decide +kernel
theorem d_L_law_333 : decode b_L_law 333 = .ok (.if_icmp .eq 5, 3) := by decide +kernel
theorem d_L_law_336 : decode b_L_law 336 = .ok (.iconst 0, 1) := by decide +kernel
theorem d_L_law_337 : decode b_L_law 337 = .ok (.ireturn, 1) := by decide +kernel
theorem d_L_law_338 : decode b_L_law 338 = .ok (.iload 6, 2) := by decide +kernel
theorem d_L_law_340 : decode b_L_law 340 = .ok (.ifCond .ne 15, 3) := by decide +kernel
theorem d_L_law_343 : decode b_L_law 343 = .ok (.aload_n 3, 1) := by decide +kernel
theorem d_L_law_344 : decode b_L_law 344 = .ok (.iconst 0, 1) := by decide +kernel
theorem d_L_law_345 : decode b_L_law 345 = .ok (.laload, 1) := by decide +kernel
theorem d_L_law_346 : decode b_L_law 346 = .ok (.iload 7, 2) := by decide +kernel
theorem d_L_law_348 : decode b_L_law 348 = .ok (.i2l, 1) := by decide +kernel
theorem d_L_law_349 : decode b_L_law 349 = .ok (.lcmp, 1) := by decide +kernel
theorem d_L_law_350 : decode b_L_law 350 = .ok (.ifCond .eq 5, 3) := by decide +kernel
theorem d_L_law_353 : decode b_L_law 353 = .ok (.iconst 0, 1) := by decide +kernel
theorem d_L_law_354 : decode b_L_law 354 = .ok (.ireturn, 1) := by decide +kernel
theorem d_L_law_355 : decode b_L_law 355 = .ok (.goto 775, 3) := by decide +kernel
theorem d_L_law_358 : decode b_L_law 358 = .ok (.aload_n 1, 1) := by decide +kernel
theorem d_L_law_359 : decode b_L_law 359 = .ok (.aload_n 0, 1) := by decide +kernel
theorem d_L_law_360 : decode b_L_law 360 = .ok (.iload 5, 2) := by decide +kernel
theorem d_L_law_362 : decode b_L_law 362 = .ok (.iconst 1, 1) := by decide +kernel
theorem d_L_law_363 : decode b_L_law 363 = .ok (.iadd, 1) := by decide +kernel
theorem d_L_law_364 : decode b_L_law 364 = .ok (.iaload, 1) := by decide +kernel
theorem d_L_law_365 : decode b_L_law 365 = .ok (.aload_n 0, 1) := by decide +kernel
theorem d_L_law_366 : decode b_L_law 366 = .ok (.iload 5, 2) := by decide +kernel
theorem d_L_law_368 : decode b_L_law 368 = .ok (.iconst 2, 1) := by decide +kernel
theorem d_L_law_369 : decode b_L_law 369 = .ok (.iadd, 1) := by decide +kernel
theorem d_L_law_370 : decode b_L_law 370 = .ok (.iaload, 1) := by decide +kernel
theorem d_L_law_371 : decode b_L_law 371 = .ok (.aload_n 0, 1) := by decide +kernel
theorem d_L_law_372 : decode b_L_law 372 = .ok (.iload 5, 2) := by decide +kernel
theorem d_L_law_374 : decode b_L_law 374 = .ok (.iconst 3, 1) := by decide +kernel
theorem d_L_law_375 : decode b_L_law 375 = .ok (.iadd, 1) := by decide +kernel
theorem d_L_law_376 : decode b_L_law 376 = .ok (.iaload, 1) := by decide +kernel
theorem d_L_law_377 : decode b_L_law 377 = .ok (.aload_n 0, 1) := by decide +kernel
theorem d_L_law_378 : decode b_L_law 378 = .ok (.iload 5, 2) := by decide +kernel
theorem d_L_law_380 : decode b_L_law 380 = .ok (.iconst 4, 1) := by decide +kernel
theorem d_L_law_381 : decode b_L_law 381 = .ok (.iadd, 1) := by decide +kernel
theorem d_L_law_382 : decode b_L_law 382 = .ok (.iaload, 1) := by decide +kernel
theorem d_L_law_383 : decode b_L_law 383 = .ok (.i2d, 1) := by decide +kernel
theorem d_L_law_384 : decode b_L_law 384 = .ok (.ldc2_w 68, 3) := by decide +kernel
theorem d_L_law_387 : decode b_L_law 387 = .ok (.dmul, 1) := by decide +kernel
theorem d_L_law_388 : decode b_L_law 388 = .ok (.aload_n 0, 1) := by decide +kernel
theorem d_L_law_389 : decode b_L_law 389 = .ok (.iload 5, 2) := by decide +kernel
theorem d_L_law_391 : decode b_L_law 391 = .ok (.iconst 5, 1) := by decide +kernel
theorem d_L_law_392 : decode b_L_law 392 = .ok (.iadd, 1) := by decide +kernel
theorem d_L_law_393 : decode b_L_law 393 = .ok (.iaload, 1) := by decide +kernel
theorem d_L_law_394 : decode b_L_law 394 = .ok (.aload_n 3, 1) := by decide +kernel
theorem d_L_law_395 : decode b_L_law 395 = .ok (.invokestatic 88, 3) := by decide +kernel
theorem d_L_law_398 : decode b_L_law 398 = .ok (.istore 6, 2) := by decide +kernel
theorem d_L_law_400 : decode b_L_law 400 = .ok (.aload_n 2, 1) := by decide +kernel
theorem d_L_law_401 : decode b_L_law 401 = .ok (.aload_n 0, 1) := by decide +kernel
theorem d_L_law_402 : decode b_L_law 402 = .ok (.iload 5, 2) := by decide +kernel
theorem d_L_law_404 : decode b_L_law 404 = .ok (.iconst 1, 1) := by decide +kernel
theorem d_L_law_405 : decode b_L_law 405 = .ok (.iadd, 1) := by decide +kernel
theorem d_L_law_406 : decode b_L_law 406 = .ok (.iaload, 1) := by decide +kernel
theorem d_L_law_407 : decode b_L_law 407 = .ok (.aload_n 0, 1) := by decide +kernel
theorem d_L_law_408 : decode b_L_law 408 = .ok (.iload 5, 2) := by decide +kernel
theorem d_L_law_410 : decode b_L_law 410 = .ok (.iconst 2, 1) := by decide +kernel
theorem d_L_law_411 : decode b_L_law 411 = .ok (.iadd, 1) := by decide +kernel
theorem d_L_law_412 : decode b_L_law 412 = .ok (.iaload, 1) := by decide +kernel
theorem d_L_law_413 : decode b_L_law 413 = .ok (.aload_n 0, 1) := by decide +kernel
theorem d_L_law_414 : decode b_L_law 414 = .ok (.iload 5, 2) := by decide +kernel
theorem d_L_law_416 : decode b_L_law 416 = .ok (.iconst 3, 1) := by decide +kernel
theorem d_L_law_417 : decode b_L_law 417 = .ok (.iadd, 1) := by decide +kernel
theorem d_L_law_418 : decode b_L_law 418 = .ok (.iaload, 1) := by decide +kernel
theorem d_L_law_419 : decode b_L_law 419 = .ok (.aload_n 0, 1) := by decide +kernel
theorem d_L_law_420 : decode b_L_law 420 = .ok (.iload 5, 2) := by decide +kernel
theorem d_L_law_422 : decode b_L_law 422 = .ok (.iconst 4, 1) := by decide +kernel
theorem d_L_law_423 : decode b_L_law 423 = .ok (.iadd, 1) := by decide +kernel
theorem d_L_law_424 : decode b_L_law 424 = .ok (.iaload, 1) := by decide +kernel
theorem d_L_law_425 : decode b_L_law 425 = .ok (.i2d, 1) := by decide +kernel
theorem d_L_law_426 : decode b_L_law 426 = .ok (.ldc2_w 68, 3) := by decide +kernel
theorem d_L_law_429 : decode b_L_law 429 = .ok (.dmul, 1) := by decide +kernel
theorem d_L_law_430 : decode b_L_law 430 = .ok (.aload_n 0, 1) := by decide +kernel
theorem d_L_law_431 : decode b_L_law 431 = .ok (.iload 5, 2) := by decide +kernel
theorem d_L_law_433 : decode b_L_law 433 = .ok (.iconst 5, 1) := by decide +kernel
theorem d_L_law_434 : decode b_L_law 434 = .ok (.iadd, 1) := by decide +kernel
theorem d_L_law_435 : decode b_L_law 435 = .ok (.iaload, 1) := by decide +kernel
theorem d_L_law_436 : decode b_L_law 436 = .ok (.invokevirtual 91, 3) := by decide +kernel
theorem d_L_law_439 : decode b_L_law 439 = .ok (.istore 7, 2) := by decide +kernel
theorem d_L_law_441 : decode b_L_law 441 = .ok (.aload_n 2, 1) := by decide +kernel
theorem d_L_law_442 : decode b_L_law 442 = .ok (.invokevirtual 76, 3) := by decide +kernel
theorem d_L_law_445 : decode b_L_law 445 = .ok (.iload 6, 2) := by decide +kernel
theorem d_L_law_447 : decode b_L_law 447 = .ok (.if_icmp .eq 5, 3) := by decide +kernel
theorem d_L_law_450 : decode b_L_law 450 = .ok (.iconst 0, 1) := by decide +kernel
theorem d_L_law_451 : decode b_L_law 451 = .ok (.ireturn, 1) := by decide +kernel
theorem d_L_law_452 : decode b_L_law 452 = .ok (.iload 6, 2) := by decide +kernel
theorem d_L_law_454 : decode b_L_law 454 = .ok (.ifCond .ne 15, 3) := by decide +kernel
theorem d_L_law_457 : decode b_L_law 457 = .ok (.aload_n 3, 1) := by decide +kernel
theorem d_L_law_458 : decode b_L_law 458 = .ok (.iconst 0, 1) := by decide +kernel
theorem d_L_law_459 : decode b_L_law 459 = .ok (.laload, 1) := by decide +kernel
theorem d_L_law_460 : decode b_L_law 460 = .ok (.iload 7, 2) := by decide +kernel
theorem d_L_law_462 : decode b_L_law 462 = .ok (.i2l, 1) := by decide +kernel
theorem d_L_law_463 : decode b_L_law 463 = .ok (.lcmp, 1) := by decide +kernel
theorem d_L_law_464 : decode b_L_law 464 = .ok (.ifCond .eq 5, 3) := by decide +kernel
theorem d_L_law_467 : decode b_L_law 467 = .ok (.iconst 0, 1) := by decide +kernel
theorem d_L_law_468 : decode b_L_law 468 = .ok (.ireturn, 1) := by decide +kernel
theorem d_L_law_469 : decode b_L_law 469 = .ok (.goto 661, 3) := by decide +kernel
theorem d_L_law_472 : decode b_L_law 472 = .ok (.aload_n 1, 1) := by decide +kernel
theorem d_L_law_473 : decode b_L_law 473 = .ok (.aload_n 0, 1) := by decide +kernel
theorem d_L_law_474 : decode b_L_law 474 = .ok (.iload 5, 2) := by decide +kernel
theorem d_L_law_476 : decode b_L_law 476 = .ok (.iconst 1, 1) := by decide +kernel
theorem d_L_law_477 : decode b_L_law 477 = .ok (.iadd, 1) := by decide +kernel
theorem d_L_law_478 : decode b_L_law 478 = .ok (.iaload, 1) := by decide +kernel
theorem d_L_law_479 : decode b_L_law 479 = .ok (.aload_n 0, 1) := by decide +kernel
theorem d_L_law_480 : decode b_L_law 480 = .ok (.iload 5, 2) := by decide +kernel
theorem d_L_law_482 : decode b_L_law 482 = .ok (.iconst 2, 1) := by decide +kernel
theorem d_L_law_483 : decode b_L_law 483 = .ok (.iadd, 1) := by decide +kernel
theorem d_L_law_484 : decode b_L_law 484 = .ok (.iaload, 1) := by decide +kernel
theorem d_L_law_485 : decode b_L_law 485 = .ok (.aload_n 0, 1) := by decide +kernel
theorem d_L_law_486 : decode b_L_law 486 = .ok (.iload 5, 2) := by decide +kernel
theorem d_L_law_488 : decode b_L_law 488 = .ok (.iconst 3, 1) := by decide +kernel
theorem d_L_law_489 : decode b_L_law 489 = .ok (.iadd, 1) := by decide +kernel
theorem d_L_law_490 : decode b_L_law 490 = .ok (.iaload, 1) := by decide +kernel
theorem d_L_law_491 : decode b_L_law 491 = .ok (.aload_n 0, 1) := by decide +kernel
theorem d_L_law_492 : decode b_L_law 492 = .ok (.iload 5, 2) := by decide +kernel
theorem d_L_law_494 : decode b_L_law 494 = .ok (.iconst 4, 1) := by decide +kernel
theorem d_L_law_495 : decode b_L_law 495 = .ok (.iadd, 1) := by decide +kernel
theorem d_L_law_496 : decode b_L_law 496 = .ok (.iaload, 1) := by decide +kernel
theorem d_L_law_497 : decode b_L_law 497 = .ok (.ifCond .eq 7, 3) := by decide +kernel
theorem d_L_law_500 : decode b_L_law 500 = .ok (.iconst 1, 1) := by decide +kernel
theorem d_L_law_501 : decode b_L_law 501 = .ok (.goto 4, 3) := by decide +kernel
theorem d_L_law_504 : decode b_L_law 504 = .ok (.iconst 0, 1) := by decide +kernel
theorem d_L_law_505 : decode b_L_law 505 = .ok (.aload_n 0, 1) := by decide +kernel
theorem d_L_law_506 : decode b_L_law 506 = .ok (.iload 5, 2) := by decide +kernel
theorem d_L_law_508 : decode b_L_law 508 = .ok (.iconst 5, 1) := by decide +kernel
theorem d_L_law_509 : decode b_L_law 509 = .ok (.iadd, 1) := by decide +kernel
theorem d_L_law_510 : decode b_L_law 510 = .ok (.iaload, 1) := by decide +kernel
theorem d_L_law_511 : decode b_L_law 511 = .ok (.invokestatic 92, 3) := by decide +kernel
theorem d_L_law_514 : decode b_L_law 514 = .ok (.istore 6, 2) := by decide +kernel
theorem d_L_law_516 : decode b_L_law 516 = .ok (.aload_n 2, 1) := by decide +kernel
theorem d_L_law_517 : decode b_L_law 517 = .ok (.aload_n 0, 1) := by decide +kernel
theorem d_L_law_518 : decode b_L_law 518 = .ok (.iload 5, 2) := by decide +kernel
theorem d_L_law_520 : decode b_L_law 520 = .ok (.iconst 1, 1) := by decide +kernel
theorem d_L_law_521 : decode b_L_law 521 = .ok (.iadd, 1) := by decide +kernel
theorem d_L_law_522 : decode b_L_law 522 = .ok (.iaload, 1) := by decide +kernel
theorem d_L_law_523 : decode b_L_law 523 = .ok (.aload_n 0, 1) := by decide +kernel
theorem d_L_law_524 : decode b_L_law 524 = .ok (.iload 5, 2) := by decide +kernel
theorem d_L_law_526 : decode b_L_law 526 = .ok (.iconst 2, 1) := by decide +kernel
theorem d_L_law_527 : decode b_L_law 527 = .ok (.iadd, 1) := by decide +kernel
theorem d_L_law_528 : decode b_L_law 528 = .ok (.iaload, 1) := by decide +kernel
theorem d_L_law_529 : decode b_L_law 529 = .ok (.aload_n 0, 1) := by decide +kernel
theorem d_L_law_530 : decode b_L_law 530 = .ok (.iload 5, 2) := by decide +kernel
theorem d_L_law_532 : decode b_L_law 532 = .ok (.iconst 3, 1) := by decide +kernel
theorem d_L_law_533 : decode b_L_law 533 = .ok (.iadd, 1) := by decide +kernel
theorem d_L_law_534 : decode b_L_law 534 = .ok (.iaload, 1) := by decide +kernel
theorem d_L_law_535 : decode b_L_law 535 = .ok (.aload_n 0, 1) := by decide +kernel
theorem d_L_law_536 : decode b_L_law 536 = .ok (.iload 5, 2) := by decide +kernel
theorem d_L_law_538 : decode b_L_law 538 = .ok (.iconst 4, 1) := by decide +kernel
theorem d_L_law_539 : decode b_L_law 539 = .ok (.iadd, 1) := by decide +kernel
theorem d_L_law_540 : decode b_L_law 540 = .ok (.iaload, 1) := by decide +kernel
theorem d_L_law_541 : decode b_L_law 541 = .ok (.ifCond .eq 7, 3) := by decide +kernel
theorem d_L_law_544 : decode b_L_law 544 = .ok (.iconst 1, 1) := by decide +kernel
theorem d_L_law_545 : decode b_L_law 545 = .ok (.goto 4, 3) := by decide +kernel
theorem d_L_law_548 : decode b_L_law 548 = .ok (.iconst 0, 1) := by decide +kernel
theorem d_L_law_549 : decode b_L_law 549 = .ok (.aload_n 0, 1) := by decide +kernel
theorem d_L_law_550 : decode b_L_law 550 = .ok (.iload 5, 2) := by decide +kernel
theorem d_L_law_552 : decode b_L_law 552 = .ok (.iconst 5, 1) := by decide +kernel
theorem d_L_law_553 : decode b_L_law 553 = .ok (.iadd, 1) := by decide +kernel
theorem d_L_law_554 : decode b_L_law 554 = .ok (.iaload, 1) := by decide +kernel
theorem d_L_law_555 : decode b_L_law 555 = .ok (.invokevirtual 95, 3) := by decide +kernel
theorem d_L_law_558 : decode b_L_law 558 = .ok (.aload_n 2, 1) := by decide +kernel
theorem d_L_law_559 : decode b_L_law 559 = .ok (.invokevirtual 76, 3) := by decide +kernel
theorem d_L_law_562 : decode b_L_law 562 = .ok (.iload 6, 2) := by decide +kernel
theorem d_L_law_564 : decode b_L_law 564 = .ok (.if_icmp .eq 5, 3) := by decide +kernel
theorem d_L_law_567 : decode b_L_law 567 = .ok (.iconst 0, 1) := by decide +kernel
theorem d_L_law_568 : decode b_L_law 568 = .ok (.ireturn, 1) := by decide +kernel
theorem d_L_law_569 : decode b_L_law 569 = .ok (.goto 561, 3) := by decide +kernel
theorem d_L_law_572 : decode b_L_law 572 = .ok (.aload_n 1, 1) := by decide +kernel
theorem d_L_law_573 : decode b_L_law 573 = .ok (.aload_n 0, 1) := by decide +kernel
theorem d_L_law_574 : decode b_L_law 574 = .ok (.iload 5, 2) := by decide +kernel
theorem d_L_law_576 : decode b_L_law 576 = .ok (.iconst 1, 1) := by decide +kernel
theorem d_L_law_577 : decode b_L_law 577 = .ok (.iadd, 1) := by decide +kernel
theorem d_L_law_578 : decode b_L_law 578 = .ok (.iaload, 1) := by decide +kernel
theorem d_L_law_579 : decode b_L_law 579 = .ok (.aload_n 0, 1) := by decide +kernel
theorem d_L_law_580 : decode b_L_law 580 = .ok (.iload 5, 2) := by decide +kernel
theorem d_L_law_582 : decode b_L_law 582 = .ok (.iconst 2, 1) := by decide +kernel
theorem d_L_law_583 : decode b_L_law 583 = .ok (.iadd, 1) := by decide +kernel
theorem d_L_law_584 : decode b_L_law 584 = .ok (.iaload, 1) := by decide +kernel
theorem d_L_law_585 : decode b_L_law 585 = .ok (.aload_n 0, 1) := by decide +kernel
theorem d_L_law_586 : decode b_L_law 586 = .ok (.iload 5, 2) := by decide +kernel
theorem d_L_law_588 : decode b_L_law 588 = .ok (.iconst 3, 1) := by decide +kernel
theorem d_L_law_589 : decode b_L_law 589 = .ok (.iadd, 1) := by decide +kernel
theorem d_L_law_590 : decode b_L_law 590 = .ok (.iaload, 1) := by decide +kernel
theorem d_L_law_591 : decode b_L_law 591 = .ok (.invokestatic 96, 3) := by decide +kernel
theorem d_L_law_594 : decode b_L_law 594 = .ok (.istore 6, 2) := by decide +kernel
theorem d_L_law_596 : decode b_L_law 596 = .ok (.aload_n 2, 1) := by decide +kernel
theorem d_L_law_597 : decode b_L_law 597 = .ok (.aload_n 0, 1) := by decide +kernel
theorem d_L_law_598 : decode b_L_law 598 = .ok (.iload 5, 2) := by decide +kernel
theorem d_L_law_600 : decode b_L_law 600 = .ok (.iconst 1, 1) := by decide +kernel
theorem d_L_law_601 : decode b_L_law 601 = .ok (.iadd, 1) := by decide +kernel
theorem d_L_law_602 : decode b_L_law 602 = .ok (.iaload, 1) := by decide +kernel
theorem d_L_law_603 : decode b_L_law 603 = .ok (.aload_n 0, 1) := by decide +kernel
theorem d_L_law_604 : decode b_L_law 604 = .ok (.iload 5, 2) := by decide +kernel
theorem d_L_law_606 : decode b_L_law 606 = .ok (.iconst 2, 1) := by decide +kernel
theorem d_L_law_607 : decode b_L_law 607 = .ok (.iadd, 1) := by decide +kernel
theorem d_L_law_608 : decode b_L_law 608 = .ok (.iaload, 1) := by decide +kernel
theorem d_L_law_609 : decode b_L_law 609 = .ok (.aload_n 0, 1) := by decide +kernel
theorem d_L_law_610 : decode b_L_law 610 = .ok (.iload 5, 2) := by decide +kernel
theorem d_L_law_612 : decode b_L_law 612 = .ok (.iconst 3, 1) := by decide +kernel
theorem d_L_law_613 : decode b_L_law 613 = .ok (.iadd, 1) := by decide +kernel
theorem d_L_law_614 : decode b_L_law 614 = .ok (.iaload, 1) := by decide +kernel
theorem d_L_law_615 : decode b_L_law 615 = .ok (.invokevirtual 99, 3) := by decide +kernel
theorem d_L_law_618 : decode b_L_law 618 = .ok (.aload_n 2, 1) := by decide +kernel
theorem d_L_law_619 : decode b_L_law 619 = .ok (.invokevirtual 76, 3) := by decide +kernel
theorem d_L_law_622 : decode b_L_law 622 = .ok (.iload 6, 2) := by decide +kernel
theorem d_L_law_624 : decode b_L_law 624 = .ok (.if_icmp .eq 5, 3) := by decide +kernel
theorem d_L_law_627 : decode b_L_law 627 = .ok (.iconst 0, 1) := by decide +kernel
theorem d_L_law_628 : decode b_L_law 628 = .ok (.ireturn, 1) := by decide +kernel
theorem d_L_law_629 : decode b_L_law 629 = .ok (.goto 501, 3) := by decide +kernel
theorem d_L_law_632 : decode b_L_law 632 = .ok (.aload_n 1, 1) := by decide +kernel
theorem d_L_law_633 : decode b_L_law 633 = .ok (.aload_n 0, 1) := by decide +kernel
theorem d_L_law_634 : decode b_L_law 634 = .ok (.iload 5, 2) := by decide +kernel
theorem d_L_law_636 : decode b_L_law 636 = .ok (.iconst 1, 1) := by decide +kernel
theorem d_L_law_637 : decode b_L_law 637 = .ok (.iadd, 1) := by decide +kernel
theorem d_L_law_638 : decode b_L_law 638 = .ok (.iaload, 1) := by decide +kernel
theorem d_L_law_639 : decode b_L_law 639 = .ok (.aload_n 0, 1) := by decide +kernel
theorem d_L_law_640 : decode b_L_law 640 = .ok (.iload 5, 2) := by decide +kernel
theorem d_L_law_642 : decode b_L_law 642 = .ok (.iconst 2, 1) := by decide +kernel
theorem d_L_law_643 : decode b_L_law 643 = .ok (.iadd, 1) := by decide +kernel
theorem d_L_law_644 : decode b_L_law 644 = .ok (.iaload, 1) := by decide +kernel
theorem d_L_law_645 : decode b_L_law 645 = .ok (.i2d, 1) := by decide +kernel
theorem d_L_law_646 : decode b_L_law 646 = .ok (.ldc2_w 68, 3) := by decide +kernel
theorem d_L_law_649 : decode b_L_law 649 = .ok (.dmul, 1) := by decide +kernel
theorem d_L_law_650 : decode b_L_law 650 = .ok (.aload_n 3, 1) := by decide +kernel
theorem d_L_law_651 : decode b_L_law 651 = .ok (.invokestatic 100, 3) := by decide +kernel
theorem d_L_law_654 : decode b_L_law 654 = .ok (.istore 6, 2) := by decide +kernel
theorem d_L_law_656 : decode b_L_law 656 = .ok (.aload_n 2, 1) := by decide +kernel
theorem d_L_law_657 : decode b_L_law 657 = .ok (.aload_n 0, 1) := by decide +kernel
theorem d_L_law_658 : decode b_L_law 658 = .ok (.iload 5, 2) := by decide +kernel
theorem d_L_law_660 : decode b_L_law 660 = .ok (.iconst 1, 1) := by decide +kernel
theorem d_L_law_661 : decode b_L_law 661 = .ok (.iadd, 1) := by decide +kernel
theorem d_L_law_662 : decode b_L_law 662 = .ok (.iaload, 1) := by decide +kernel
theorem d_L_law_663 : decode b_L_law 663 = .ok (.aload_n 0, 1) := by decide +kernel
theorem d_L_law_664 : decode b_L_law 664 = .ok (.iload 5, 2) := by decide +kernel
theorem d_L_law_666 : decode b_L_law 666 = .ok (.iconst 2, 1) := by decide +kernel
theorem d_L_law_667 : decode b_L_law 667 = .ok (.iadd, 1) := by decide +kernel
theorem d_L_law_668 : decode b_L_law 668 = .ok (.iaload, 1) := by decide +kernel
theorem d_L_law_669 : decode b_L_law 669 = .ok (.i2d, 1) := by decide +kernel
theorem d_L_law_670 : decode b_L_law 670 = .ok (.ldc2_w 68, 3) := by decide +kernel
theorem d_L_law_673 : decode b_L_law 673 = .ok (.dmul, 1) := by decide +kernel
theorem d_L_law_674 : decode b_L_law 674 = .ok (.invokevirtual 103, 3) := by decide +kernel
theorem d_L_law_677 : decode b_L_law 677 = .ok (.istore 7, 2) := by decide +kernel
theorem d_L_law_679 : decode b_L_law 679 = .ok (.aload_n 2, 1) := by decide +kernel
theorem d_L_law_680 : decode b_L_law 680 = .ok (.invokevirtual 76, 3) := by decide +kernel
theorem d_L_law_683 : decode b_L_law 683 = .ok (.iload 6, 2) := by decide +kernel
theorem d_L_law_685 : decode b_L_law 685 = .ok (.if_icmp .eq 5, 3) := by decide +kernel
theorem d_L_law_688 : decode b_L_law 688 = .ok (.iconst 0, 1) := by decide +kernel
theorem d_L_law_689 : decode b_L_law 689 = .ok (.ireturn, 1) := by decide +kernel
theorem d_L_law_690 : decode b_L_law 690 = .ok (.iload 6, 2) := by decide +kernel
theorem d_L_law_692 : decode b_L_law 692 = .ok (.ifCond .ne 15, 3) := by decide +kernel
theorem d_L_law_695 : decode b_L_law 695 = .ok (.aload_n 3, 1) := by decide +kernel
theorem d_L_law_696 : decode b_L_law 696 = .ok (.iconst 0, 1) := by decide +kernel
theorem d_L_law_697 : decode b_L_law 697 = .ok (.laload, 1) := by decide +kernel
theorem d_L_law_698 : decode b_L_law 698 = .ok (.iload 7, 2) := by decide +kernel
theorem d_L_law_700 : decode b_L_law 700 = .ok (.i2l, 1) := by decide +kernel
theorem d_L_law_701 : decode b_L_law 701 = .ok (.lcmp, 1) := by decide +kernel
theorem d_L_law_702 : decode b_L_law 702 = .ok (.ifCond .eq 5, 3) := by decide +kernel
theorem d_L_law_705 : decode b_L_law 705 = .ok (.iconst 0, 1) := by decide +kernel
theorem d_L_law_706 : decode b_L_law 706 = .ok (.ireturn, 1) := by decide +kernel
theorem d_L_law_707 : decode b_L_law 707 = .ok (.goto 423, 3) := by decide +kernel
theorem d_L_law_710 : decode b_L_law 710 = .ok (.aload_n 1, 1) := by decide +kernel
theorem d_L_law_711 : decode b_L_law 711 = .ok (.aload_n 0, 1) := by decide +kernel
theorem d_L_law_712 : decode b_L_law 712 = .ok (.iload 5, 2) := by decide +kernel
theorem d_L_law_714 : decode b_L_law 714 = .ok (.iconst 1, 1) := by decide +kernel
theorem d_L_law_715 : decode b_L_law 715 = .ok (.iadd, 1) := by decide +kernel
theorem d_L_law_716 : decode b_L_law 716 = .ok (.iaload, 1) := by decide +kernel
theorem d_L_law_717 : decode b_L_law 717 = .ok (.aload 4, 2) := by decide +kernel
theorem d_L_law_719 : decode b_L_law 719 = .ok (.invokestatic 104, 3) := by decide +kernel
theorem d_L_law_722 : decode b_L_law 722 = .ok (.istore 6, 2) := by decide +kernel
theorem d_L_law_724 : decode b_L_law 724 = .ok (.aload_n 2, 1) := by decide +kernel
theorem d_L_law_725 : decode b_L_law 725 = .ok (.aload_n 0, 1) := by decide +kernel
theorem d_L_law_726 : decode b_L_law 726 = .ok (.iload 5, 2) := by decide +kernel
theorem d_L_law_728 : decode b_L_law 728 = .ok (.iconst 1, 1) := by decide +kernel
theorem d_L_law_729 : decode b_L_law 729 = .ok (.iadd, 1) := by decide +kernel
theorem d_L_law_730 : decode b_L_law 730 = .ok (.iaload, 1) := by decide +kernel
theorem d_L_law_731 : decode b_L_law 731 = .ok (.invokevirtual 107, 3) := by decide +kernel
theorem d_L_law_734 : decode b_L_law 734 = .ok (.dstore 7, 2) := by decide +kernel
theorem d_L_law_736 : decode b_L_law 736 = .ok (.aload_n 2, 1) := by decide +kernel
theorem d_L_law_737 : decode b_L_law 737 = .ok (.invokevirtual 76, 3) := by decide +kernel
theorem d_L_law_740 : decode b_L_law 740 = .ok (.iload 6, 2) := by decide +kernel
theorem d_L_law_742 : decode b_L_law 742 = .ok (.if_icmp .eq 5, 3) := by decide +kernel
theorem d_L_law_745 : decode b_L_law 745 = .ok (.iconst 0, 1) := by decide +kernel
theorem d_L_law_746 : decode b_L_law 746 = .ok (.ireturn, 1) := by decide +kernel
theorem d_L_law_747 : decode b_L_law 747 = .ok (.iload 6, 2) := by decide +kernel
theorem d_L_law_749 : decode b_L_law 749 = .ok (.ifCond .ne 35, 3) := by decide +kernel
theorem d_L_law_752 : decode b_L_law 752 = .ok (.aload 4, 2) := by decide +kernel
theorem d_L_law_754 : decode b_L_law 754 = .ok (.iconst 0, 1) := by decide +kernel
theorem d_L_law_755 : decode b_L_law 755 = .ok (.daload, 1) := by decide +kernel
theorem d_L_law_756 : decode b_L_law 756 = .ok (.dload 7, 2) := by decide +kernel
theorem d_L_law_758 : decode b_L_law 758 = .ok (.dcmp .l, 1) := by decide +kernel
theorem d_L_law_759 : decode b_L_law 759 = .ok (.ifCond .eq 25, 3) := by decide +kernel
theorem d_L_law_762 : decode b_L_law 762 = .ok (.aload 4, 2) := by decide +kernel
theorem d_L_law_764 : decode b_L_law 764 = .ok (.iconst 0, 1) := by decide +kernel
theorem d_L_law_765 : decode b_L_law 765 = .ok (.daload, 1) := by decide +kernel
theorem d_L_law_766 : decode b_L_law 766 = .ok (.aload 4, 2) := by decide +kernel
theorem d_L_law_768 : decode b_L_law 768 = .ok (.iconst 0, 1) := by decide +kernel
theorem d_L_law_769 : decode b_L_law 769 = .ok (.daload, 1) := by decide +kernel
theorem d_L_law_770 : decode b_L_law 770 = .ok (.dcmp .l, 1) := by decide +kernel
theorem d_L_law_771 : decode b_L_law 771 = .ok (.ifCond .eq 11, 3) := by decide +kernel
theorem d_L_law_774 : decode b_L_law 774 = .ok (.dload 7, 2) := by decide +kernel
theorem d_L_law_776 : decode b_L_law 776 = .ok (.dload 7, 2) := by decide +kernel
theorem d_L_law_778 : decode b_L_law 778 = .ok (.dcmp .l, 1) := by decide +kernel
theorem d_L_law_779 : decode b_L_law 779 = .ok (.ifCond .ne 5, 3) := by decide +kernel
theorem d_L_law_782 : decode b_L_law 782 = .ok (.iconst 0, 1) := by decide +kernel
theorem d_L_law_783 : decode b_L_law 783 = .ok (.ireturn, 1) := by decide +kernel
theorem d_L_law_784 : decode b_L_law 784 = .ok (.goto 346, 3) := by decide +kernel
theorem d_L_law_787 : decode b_L_law 787 = .ok (.aload_n 1, 1) := by decide +kernel
theorem d_L_law_788 : decode b_L_law 788 = .ok (.aload_n 0, 1) := by decide +kernel
theorem d_L_law_789 : decode b_L_law 789 = .ok (.iload 5, 2) := by decide +kernel
theorem d_L_law_791 : decode b_L_law 791 = .ok (.iconst 1, 1) := by decide +kernel
theorem d_L_law_792 : decode b_L_law 792 = .ok (.iadd, 1) := by decide +kernel
theorem d_L_law_793 : decode b_L_law 793 = .ok (.iaload, 1) := by decide +kernel
theorem d_L_law_794 : decode b_L_law 794 = .ok (.aload_n 0, 1) := by decide +kernel
theorem d_L_law_795 : decode b_L_law 795 = .ok (.iload 5, 2) := by decide +kernel
theorem d_L_law_797 : decode b_L_law 797 = .ok (.iconst 2, 1) := by decide +kernel
theorem d_L_law_798 : decode b_L_law 798 = .ok (.iadd, 1) := by decide +kernel
theorem d_L_law_799 : decode b_L_law 799 = .ok (.iaload, 1) := by decide +kernel
theorem d_L_law_800 : decode b_L_law 800 = .ok (.ifCond .eq 7, 3) := by decide +kernel
theorem d_L_law_803 : decode b_L_law 803 = .ok (.iconst 1, 1) := by decide +kernel
theorem d_L_law_804 : decode b_L_law 804 = .ok (.goto 4, 3) := by decide +kernel
theorem d_L_law_807 : decode b_L_law 807 = .ok (.iconst 0, 1) := by decide +kernel
theorem d_L_law_808 : decode b_L_law 808 = .ok (.invokestatic 108, 3) := by decide +kernel
theorem d_L_law_811 : decode b_L_law 811 = .ok (.istore 6, 2) := by decide +kernel
theorem d_L_law_813 : decode b_L_law 813 = .ok (.aload_n 2, 1) := by decide +kernel
theorem d_L_law_814 : decode b_L_law 814 = .ok (.aload_n 0, 1) := by decide +kernel
theorem d_L_law_815 : decode b_L_law 815 = .ok (.iload 5, 2) := by decide +kernel
theorem d_L_law_817 : decode b_L_law 817 = .ok (.iconst 1, 1) := by decide +kernel
theorem d_L_law_818 : decode b_L_law 818 = .ok (.iadd, 1) := by decide +kernel
theorem d_L_law_819 : decode b_L_law 819 = .ok (.iaload, 1) := by decide +kernel
theorem d_L_law_820 : decode b_L_law 820 = .ok (.aload_n 0, 1) := by decide +kernel
theorem d_L_law_821 : decode b_L_law 821 = .ok (.iload 5, 2) := by decide +kernel
theorem d_L_law_823 : decode b_L_law 823 = .ok (.iconst 2, 1) := by decide +kernel
theorem d_L_law_824 : decode b_L_law 824 = .ok (.iadd, 1) := by decide +kernel
theorem d_L_law_825 : decode b_L_law 825 = .ok (.iaload, 1) := by decide +kernel
theorem d_L_law_826 : decode b_L_law 826 = .ok (.ifCond .eq 7, 3) := by decide +kernel
theorem d_L_law_829 : decode b_L_law 829 = .ok (.iconst 1, 1) := by decide +kernel
theorem d_L_law_830 : decode b_L_law 830 = .ok (.goto 4, 3) := by decide +kernel
theorem d_L_law_833 : decode b_L_law 833 = .ok (.iconst 0, 1) := by decide +kernel
theorem d_L_law_834 : decode b_L_law 834 = .ok (.invokevirtual 111, 3) := by decide +kernel
theorem d_L_law_837 : decode b_L_law 837 = .ok (.aload_n 2, 1) := by decide +kernel
theorem d_L_law_838 : decode b_L_law 838 = .ok (.invokevirtual 76, 3) := by decide +kernel
theorem d_L_law_841 : decode b_L_law 841 = .ok (.iload 6, 2) := by decide +kernel
theorem d_L_law_843 : decode b_L_law 843 = .ok (.if_icmp .eq 5, 3) := by decide +kernel
theorem d_L_law_846 : decode b_L_law 846 = .ok (.iconst 0, 1) := by decide +kernel
theorem d_L_law_847 : decode b_L_law 847 = .ok (.ireturn, 1) := by decide +kernel
theorem d_L_law_848 : decode b_L_law 848 = .ok (.goto 282, 3) := by decide +kernel
theorem d_L_law_851 : decode b_L_law 851 = .ok (.aload_n 1, 1) := by decide +kernel
theorem d_L_law_852 : decode b_L_law 852 = .ok (.aload_n 0, 1) := by decide +kernel
theorem d_L_law_853 : decode b_L_law 853 = .ok (.iload 5, 2) := by decide +kernel
theorem d_L_law_855 : decode b_L_law 855 = .ok (.iconst 1, 1) := by decide +kernel
theorem d_L_law_856 : decode b_L_law 856 = .ok (.iadd, 1) := by decide +kernel
theorem d_L_law_857 : decode b_L_law 857 = .ok (.iaload, 1) := by decide +kernel
theorem d_L_law_858 : decode b_L_law 858 = .ok (.aload_n 0, 1) := by decide +kernel
theorem d_L_law_859 : decode b_L_law 859 = .ok (.iload 5, 2) := by decide +kernel
theorem d_L_law_861 : decode b_L_law 861 = .ok (.iconst 2, 1) := by decide +kernel
theorem d_L_law_862 : decode b_L_law 862 = .ok (.iadd, 1) := by decide +kernel
theorem d_L_law_863 : decode b_L_law 863 = .ok (.iaload, 1) := by decide +kernel
theorem d_L_law_864 : decode b_L_law 864 = .ok (.aload_n 0, 1) := by decide +kernel
theorem d_L_law_865 : decode b_L_law 865 = .ok (.iload 5, 2) := by decide +kernel
theorem d_L_law_867 : decode b_L_law 867 = .ok (.iconst 3, 1) := by decide +kernel
theorem d_L_law_868 : decode b_L_law 868 = .ok (.iadd, 1) := by decide +kernel
theorem d_L_law_869 : decode b_L_law 869 = .ok (.iaload, 1) := by decide +kernel
theorem d_L_law_870 : decode b_L_law 870 = .ok (.i2d, 1) := by decide +kernel
theorem d_L_law_871 : decode b_L_law 871 = .ok (.ldc2_w 68, 3) := by decide +kernel
theorem d_L_law_874 : decode b_L_law 874 = .ok (.dmul, 1) := by decide +kernel
theorem d_L_law_875 : decode b_L_law 875 = .ok (.aload 4, 2) := by decide +kernel
theorem d_L_law_877 : decode b_L_law 877 = .ok (.invokestatic 112, 3) := by decide +kernel
theorem d_L_law_880 : decode b_L_law 880 = .ok (.istore 6, 2) := by decide +kernel
theorem d_L_law_882 : decode b_L_law 882 = .ok (.aload_n 2, 1) := by decide +kernel
theorem d_L_law_883 : decode b_L_law 883 = .ok (.aload_n 0, 1) := by decide +kernel
theorem d_L_law_884 : decode b_L_law 884 = .ok (.iload 5, 2) := by decide +kernel
theorem d_L_law_886 : decode b_L_law 886 = .ok (.iconst 1, 1) := by decide +kernel
theorem d_L_law_887 : decode b_L_law 887 = .ok (.iadd, 1) := by decide +kernel
theorem d_L_law_888 : decode b_L_law 888 = .ok (.iaload, 1) := by decide +kernel
theorem d_L_law_889 : decode b_L_law 889 = .ok (.aload_n 0, 1) := by decide +kernel
theorem d_L_law_890 : decode b_L_law 890 = .ok (.iload 5, 2) := by decide +kernel
theorem d_L_law_892 : decode b_L_law 892 = .ok (.iconst 2, 1) := by decide +kernel
theorem d_L_law_893 : decode b_L_law 893 = .ok (.iadd, 1) := by decide +kernel
theorem d_L_law_894 : decode b_L_law 894 = .ok (.iaload, 1) := by decide +kernel
theorem d_L_law_895 : decode b_L_law 895 = .ok (.aload_n 0, 1) := by decide +kernel
theorem d_L_law_896 : decode b_L_law 896 = .ok (.iload 5, 2) := by decide +kernel
theorem d_L_law_898 : decode b_L_law 898 = .ok (.iconst 3, 1) := by decide +kernel
theorem d_L_law_899 : decode b_L_law 899 = .ok (.iadd, 1) := by decide +kernel
theorem d_L_law_900 : decode b_L_law 900 = .ok (.iaload, 1) := by decide +kernel
theorem d_L_law_901 : decode b_L_law 901 = .ok (.i2d, 1) := by decide +kernel
theorem d_L_law_902 : decode b_L_law 902 = .ok (.ldc2_w 68, 3) := by decide +kernel
theorem d_L_law_905 : decode b_L_law 905 = .ok (.dmul, 1) := by decide +kernel
theorem d_L_law_906 : decode b_L_law 906 = .ok (.invokevirtual 115, 3) := by decide +kernel
theorem d_L_law_909 : decode b_L_law 909 = .ok (.dstore 7, 2) := by decide +kernel
theorem d_L_law_911 : decode b_L_law 911 = .ok (.aload_n 2, 1) := by decide +kernel
theorem d_L_law_912 : decode b_L_law 912 = .ok (.invokevirtual 76, 3) := by decide +kernel
theorem d_L_law_915 : decode b_L_law 915 = .ok (.iload 6, 2) := by decide +kernel
theorem d_L_law_917 : decode b_L_law 917 = .ok (.if_icmp .eq 5, 3) := by decide +kernel
theorem d_L_law_920 : decode b_L_law 920 = .ok (.iconst 0, 1) := by decide +kernel
theorem d_L_law_921 : decode b_L_law 921 = .ok (.ireturn, 1) := by decide +kernel
theorem d_L_law_922 : decode b_L_law 922 = .ok (.iload 6, 2) := by decide +kernel
theorem d_L_law_924 : decode b_L_law 924 = .ok (.ifCond .ne 35, 3) := by decide +kernel
theorem d_L_law_927 : decode b_L_law 927 = .ok (.aload 4, 2) := by decide +kernel
theorem d_L_law_929 : decode b_L_law 929 = .ok (.iconst 0, 1) := by decide +kernel
theorem d_L_law_930 : decode b_L_law 930 = .ok (.daload, 1) := by decide +kernel
theorem d_L_law_931 : decode b_L_law 931 = .ok (.dload 7, 2) := by decide +kernel
theorem d_L_law_933 : decode b_L_law 933 = .ok (.dcmp .l, 1) := by decide +kernel
theorem d_L_law_934 : decode b_L_law 934 = .ok (.ifCond .eq 25, 3) := by decide +kernel
theorem d_L_law_937 : decode b_L_law 937 = .ok (.aload 4, 2) := by decide +kernel
theorem d_L_law_939 : decode b_L_law 939 = .ok (.iconst 0, 1) := by decide +kernel
theorem d_L_law_940 : decode b_L_law 940 = .ok (.daload, 1) := by decide +kernel
theorem d_L_law_941 : decode b_L_law 941 = .ok (.aload 4, 2) := by decide +kernel
theorem d_L_law_943 : decode b_L_law 943 = .ok (.iconst 0, 1) := by decide +kernel
theorem d_L_law_944 : decode b_L_law 944 = .ok (.daload, 1) := by decide +kernel
theorem d_L_law_945 : decode b_L_law 945 = .ok (.dcmp .l, 1) := by decide +kernel
theorem d_L_law_946 : decode b_L_law 946 = .ok (.ifCond .eq 11, 3) := by decide +kernel
theorem d_L_law_949 : decode b_L_law 949 = .ok (.dload 7, 2) := by decide +kernel
theorem d_L_law_951 : decode b_L_law 951 = .ok (.dload 7, 2) := by decide +kernel
theorem d_L_law_953 : decode b_L_law 953 = .ok (.dcmp .l, 1) := by decide +kernel
theorem d_L_law_954 : decode b_L_law 954 = .ok (.ifCond .ne 5, 3) := by decide +kernel
theorem d_L_law_957 : decode b_L_law 957 = .ok (.iconst 0, 1) := by decide +kernel
theorem d_L_law_958 : decode b_L_law 958 = .ok (.ireturn, 1) := by decide +kernel
theorem d_L_law_959 : decode b_L_law 959 = .ok (.goto 171, 3) := by decide +kernel
theorem d_L_law_962 : decode b_L_law 962 = .ok (.aload_n 1, 1) := by decide +kernel
theorem d_L_law_963 : decode b_L_law 963 = .ok (.aload_n 0, 1) := by decide +kernel
theorem d_L_law_964 : decode b_L_law 964 = .ok (.iload 5, 2) := by decide +kernel
theorem d_L_law_966 : decode b_L_law 966 = .ok (.iconst 1, 1) := by decide +kernel
theorem d_L_law_967 : decode b_L_law 967 = .ok (.iadd, 1) := by decide +kernel
theorem d_L_law_968 : decode b_L_law 968 = .ok (.iaload, 1) := by decide +kernel
theorem d_L_law_969 : decode b_L_law 969 = .ok (.aload_n 0, 1) := by decide +kernel
theorem d_L_law_970 : decode b_L_law 970 = .ok (.iload 5, 2) := by decide +kernel
theorem d_L_law_972 : decode b_L_law 972 = .ok (.iconst 2, 1) := by decide +kernel
theorem d_L_law_973 : decode b_L_law 973 = .ok (.iadd, 1) := by decide +kernel
theorem d_L_law_974 : decode b_L_law 974 = .ok (.iaload, 1) := by decide +kernel
theorem d_L_law_975 : decode b_L_law 975 = .ok (.aload_n 3, 1) := by decide +kernel
theorem d_L_law_976 : decode b_L_law 976 = .ok (.invokestatic 116, 3) := by decide +kernel
theorem d_L_law_979 : decode b_L_law 979 = .ok (.istore 6, 2) := by decide +kernel
theorem d_L_law_981 : decode b_L_law 981 = .ok (.aload_n 2, 1) := by decide +kernel
theorem d_L_law_982 : decode b_L_law 982 = .ok (.aload_n 0, 1) := by decide +kernel
theorem d_L_law_983 : decode b_L_law 983 = .ok (.iload 5, 2) := by decide +kernel
theorem d_L_law_985 : decode b_L_law 985 = .ok (.iconst 1, 1) := by decide +kernel
theorem d_L_law_986 : decode b_L_law 986 = .ok (.iadd, 1) := by decide +kernel
theorem d_L_law_987 : decode b_L_law 987 = .ok (.iaload, 1) := by decide +kernel
theorem d_L_law_988 : decode b_L_law 988 = .ok (.aload_n 0, 1) := by decide +kernel
theorem d_L_law_989 : decode b_L_law 989 = .ok (.iload 5, 2) := by decide +kernel
theorem d_L_law_991 : decode b_L_law 991 = .ok (.iconst 2, 1) := by decide +kernel
theorem d_L_law_992 : decode b_L_law 992 = .ok (.iadd, 1) := by decide +kernel
theorem d_L_law_993 : decode b_L_law 993 = .ok (.iaload, 1) := by decide +kernel
theorem d_L_law_994 : decode b_L_law 994 = .ok (.invokevirtual 118, 3) := by decide +kernel
theorem d_L_law_997 : decode b_L_law 997 = .ok (.istore 7, 2) := by decide +kernel
theorem d_L_law_999 : decode b_L_law 999 = .ok (.aload_n 2, 1) := by decide +kernel
theorem d_L_law_1000 : decode b_L_law 1000 = .ok (.invokevirtual 76, 3) := by decide +kernel
theorem d_L_law_1003 : decode b_L_law 1003 = .ok (.iload 6, 2) := by decide +kernel
theorem d_L_law_1005 : decode b_L_law 1005 = .ok (.if_icmp .eq 5, 3) := by decide +kernel
theorem d_L_law_1008 : decode b_L_law 1008 = .ok (.iconst 0, 1) := by decide +kernel
theorem d_L_law_1009 : decode b_L_law 1009 = .ok (.ireturn, 1) := by decide +kernel
theorem d_L_law_1010 : decode b_L_law 1010 = .ok (.iload 6, 2) := by decide +kernel
theorem d_L_law_1012 : decode b_L_law 1012 = .ok (.ifCond .ne 22, 3) := by decide +kernel
theorem d_L_law_1015 : decode b_L_law 1015 = .ok (.aload_n 3, 1) := by decide +kernel
theorem d_L_law_1016 : decode b_L_law 1016 = .ok (.iconst 0, 1) := by decide +kernel
theorem d_L_law_1017 : decode b_L_law 1017 = .ok (.laload, 1) := by decide +kernel
theorem d_L_law_1018 : decode b_L_law 1018 = .ok (.iload 7, 2) := by decide +kernel
theorem d_L_law_1020 : decode b_L_law 1020 = .ok (.ifCond .eq 7, 3) := by decide +kernel
theorem d_L_law_1023 : decode b_L_law 1023 = .ok (.lconst 1, 1) := by decide +kernel
theorem d_L_law_1024 : decode b_L_law 1024 = .ok (.goto 4, 3) := by decide +kernel
theorem d_L_law_1027 : decode b_L_law 1027 = .ok (.lconst 0, 1) := by decide +kernel
theorem d_L_law_1028 : decode b_L_law 1028 = .ok (.lcmp, 1) := by decide +kernel
theorem d_L_law_1029 : decode b_L_law 1029 = .ok (.ifCond .eq 5, 3) := by decide +kernel
theorem d_L_law_1032 : decode b_L_law 1032 = .ok (.iconst 0, 1) := by decide +kernel
theorem d_L_law_1033 : decode b_L_law 1033 = .ok (.ireturn, 1) := by decide +kernel
theorem d_L_law_1034 : decode b_L_law 1034 = .ok (.goto 96, 3) := by decide +kernel
theorem d_L_law_1037 : decode b_L_law 1037 = .ok (.aload_n 1, 1) := by decide +kernel
theorem d_L_law_1038 : decode b_L_law 1038 = .ok (.aload_n 0, 1) := by decide +kernel
theorem d_L_law_1039 : decode b_L_law 1039 = .ok (.iload 5, 2) := by decide +kernel
theorem d_L_law_1041 : decode b_L_law 1041 = .ok (.iconst 1, 1) := by decide +kernel
theorem d_L_law_1042 : decode b_L_law 1042 = .ok (.iadd, 1) := by decide +kernel
theorem d_L_law_1043 : decode b_L_law 1043 = .ok (.iaload, 1) := by decide +kernel
theorem d_L_law_1044 : decode b_L_law 1044 = .ok (.aload_n 0, 1) := by decide +kernel
theorem d_L_law_1045 : decode b_L_law 1045 = .ok (.iload 5, 2) := by decide +kernel
theorem d_L_law_1047 : decode b_L_law 1047 = .ok (.iconst 2, 1) := by decide +kernel
theorem d_L_law_1048 : decode b_L_law 1048 = .ok (.iadd, 1) := by decide +kernel
theorem d_L_law_1049 : decode b_L_law 1049 = .ok (.iaload, 1) := by decide +kernel
theorem d_L_law_1050 : decode b_L_law 1050 = .ok (.aload_n 3, 1) := by decide +kernel
theorem d_L_law_1051 : decode b_L_law 1051 = .ok (.invokestatic 119, 3) := by decide +kernel
theorem d_L_law_1054 : decode b_L_law 1054 = .ok (.istore 6, 2) := by decide +kernel
theorem d_L_law_1056 : decode b_L_law 1056 = .ok (.aload_n 2, 1) := by decide +kernel
theorem d_L_law_1057 : decode b_L_law 1057 = .ok (.aload_n 0, 1) := by decide +kernel
theorem d_L_law_1058 : decode b_L_law 1058 = .ok (.iload 5, 2) := by decide +kernel
theorem d_L_law_1060 : decode b_L_law 1060 = .ok (.iconst 1, 1) := by decide +kernel
theorem d_L_law_1061 : decode b_L_law 1061 = .ok (.iadd, 1) := by decide +kernel
theorem d_L_law_1062 : decode b_L_law 1062 = .ok (.iaload, 1) := by decide +kernel
theorem d_L_law_1063 : decode b_L_law 1063 = .ok (.aload_n 0, 1) := by decide +kernel
theorem d_L_law_1064 : decode b_L_law 1064 = .ok (.iload 5, 2) := by decide +kernel
theorem d_L_law_1066 : decode b_L_law 1066 = .ok (.iconst 2, 1) := by decide +kernel
theorem d_L_law_1067 : decode b_L_law 1067 = .ok (.iadd, 1) := by decide +kernel
theorem d_L_law_1068 : decode b_L_law 1068 = .ok (.iaload, 1) := by decide +kernel
theorem d_L_law_1069 : decode b_L_law 1069 = .ok (.invokevirtual 121, 3) := by decide +kernel
theorem d_L_law_1072 : decode b_L_law 1072 = .ok (.istore 7, 2) := by decide +kernel
theorem d_L_law_1074 : decode b_L_law 1074 = .ok (.aload_n 2, 1) := by decide +kernel
theorem d_L_law_1075 : decode b_L_law 1075 = .ok (.invokevirtual 76, 3) := by decide +kernel
theorem d_L_law_1078 : decode b_L_law 1078 = .ok (.iload 6, 2) := by decide +kernel
theorem d_L_law_1080 : decode b_L_law 1080 = .ok (.if_icmp .eq 5, 3) := by decide +kernel
theorem d_L_law_1083 : decode b_L_law 1083 = .ok (.iconst 0, 1) := by decide +kernel
theorem d_L_law_1084 : decode b_L_law 1084 = .ok (.ireturn, 1) := by decide +kernel
theorem d_L_law_1085 : decode b_L_law 1085 = .ok (.iload 6, 2) := by decide +kernel
theorem d_L_law_1087 : decode b_L_law 1087 = .ok (.ifCond .ne 15, 3) := by decide +kernel
theorem d_L_law_1090 : decode b_L_law 1090 = .ok (.aload_n 3, 1) := by decide +kernel
theorem d_L_law_1091 : decode b_L_law 1091 = .ok (.iconst 0, 1) := by decide +kernel
theorem d_L_law_1092 : decode b_L_law 1092 = .ok (.laload, 1) := by decide +kernel
theorem d_L_law_1093 : decode b_L_law 1093 = .ok (.iload 7, 2) := by decide +kernel
theorem d_L_law_1095 : decode b_L_law 1095 = .ok (.i2l, 1) := by decide +kernel
theorem d_L_law_1096 : decode b_L_law 1096 = .ok (.lcmp, 1) := by decide +kernel
theorem d_L_law_1097 : decode b_L_law 1097 = .ok (.ifCond .eq 5, 3) := by decide +kernel
theorem d_L_law_1100 : decode b_L_law 1100 = .ok (.iconst 0, 1) := by decide +kernel
theorem d_L_law_1101 : decode b_L_law 1101 = .ok (.ireturn, 1) := by decide +kernel
theorem d_L_law_1102 : decode b_L_law 1102 = .ok (.goto 28, 3) := by decide +kernel
theorem d_L_law_1105 : decode b_L_law 1105 = .ok (.aload_n 1, 1) := by decide +kernel
theorem d_L_law_1106 : decode b_L_law 1106 = .ok (.aload_n 0, 1) := by decide +kernel
theorem d_L_law_1107 : decode b_L_law 1107 = .ok (.iload 5, 2) := by decide +kernel
theorem d_L_law_1109 : decode b_L_law 1109 = .ok (.iconst 1, 1) := by decide +kernel
theorem d_L_law_1110 : decode b_L_law 1110 = .ok (.iadd, 1) := by decide +kernel
theorem d_L_law_1111 : decode b_L_law 1111 = .ok (.iaload, 1) := by decide +kernel
theorem d_L_law_1112 : decode b_L_law 1112 = .ok (.invokevirtual 122, 3) := by decide +kernel
theorem d_L_law_1115 : decode b_L_law 1115 = .ok (.aload_n 2, 1) := by decide +kernel
theorem d_L_law_1116 : decode b_L_law 1116 = .ok (.aload_n 0, 1) := by decide +kernel
theorem d_L_law_1117 : decode b_L_law 1117 = .ok (.iload 5, 2) := by decide +kernel
theorem d_L_law_1119 : decode b_L_law 1119 = .ok (.iconst 1, 1) := by decide +kernel
theorem d_L_law_1120 : decode b_L_law 1120 = .ok (.iadd, 1) := by decide +kernel
theorem d_L_law_1121 : decode b_L_law 1121 = .ok (.iaload, 1) := by decide +kernel
theorem d_L_law_1122 : decode b_L_law 1122 = .ok (.invokevirtual 126, 3) := by decide +kernel
theorem d_L_law_1125 : decode b_L_law 1125 = .ok (.if_icmp .eq 5, 3) := by decide +kernel
theorem d_L_law_1128 : decode b_L_law 1128 = .ok (.iconst 0, 1) := by decide +kernel
theorem d_L_law_1129 : decode b_L_law 1129 = .ok (.ireturn, 1) := by decide +kernel
theorem d_L_law_1130 : decode b_L_law 1130 = .ok (.iinc 5 6, 3) := by decide +kernel
theorem d_L_law_1133 : decode b_L_law 1133 = .ok (.goto (-1105), 3) := by decide +kernel
theorem d_L_law_1136 : decode b_L_law 1136 = .ok (.iconst 1, 1) := by decide +kernel
theorem d_L_law_1137 : decode b_L_law 1137 = .ok (.ireturn, 1) := by decide +kernel
theorem d_L_node_0 : decode b_L_node 0 = .ok (.aload_n 3, 1) := by decide +kernel
theorem d_L_node_1 : decode b_L_node 1 = .ok (.iconst 0, 1) := by decide +kernel
theorem d_L_node_2 : decode b_L_node 2 = .ok (.aload_n 0, 1) := by decide +kernel
theorem d_L_node_3 : decode b_L_node 3 = .ok (.iload_n 1, 1) := by decide +kernel
theorem d_L_node_4 : decode b_L_node 4 = .ok (.iload_n 2, 1) := by decide +kernel
theorem d_L_node_5 : decode b_L_node 5 = .ok (.invokevirtual 61, 3) := by decide +kernel
theorem d_L_node_8 : decode b_L_node 8 = .ok (.i2l, 1) := by decide +kernel
theorem d_L_node_9 : decode b_L_node 9 = .ok (.lastore, 1) := by decide +kernel
theorem d_L_node_10 : decode b_L_node 10 = .ok (.goto 7, 3) := by decide +kernel
theorem d_L_node_13 : decode b_L_node 13 = .ok (.astore 4, 2) := by decide +kernel
theorem d_L_node_15 : decode b_L_node 15 = .ok (.iconst 1, 1) := by decide +kernel
theorem d_L_node_16 : decode b_L_node 16 = .ok (.ireturn, 1) := by decide +kernel
theorem d_L_node_17 : decode b_L_node 17 = .ok (.iconst 0, 1) := by decide +kernel
theorem d_L_node_18 : decode b_L_node 18 = .ok (.ireturn, 1) := by decide +kernel
theorem d_L_option_0 : decode b_L_option 0 = .ok (.aload 7, 2) := by decide +kernel
theorem d_L_option_2 : decode b_L_option 2 = .ok (.iconst 0, 1) := by decide +kernel
theorem d_L_option_3 : decode b_L_option 3 = .ok (.aload_n 0, 1) := by decide +kernel
theorem d_L_option_4 : decode b_L_option 4 = .ok (.iload_n 1, 1) := by decide +kernel
theorem d_L_option_5 : decode b_L_option 5 = .ok (.iload_n 2, 1) := by decide +kernel
theorem d_L_option_6 : decode b_L_option 6 = .ok (.iload_n 3, 1) := by decide +kernel
theorem d_L_option_7 : decode b_L_option 7 = .ok (.dload 4, 2) := by decide +kernel
theorem d_L_option_9 : decode b_L_option 9 = .ok (.iload 6, 2) := by decide +kernel
theorem d_L_option_11 : decode b_L_option 11 = .ok (.invokevirtual 25, 3) := by decide +kernel
theorem d_L_option_14 : decode b_L_option 14 = .ok (.i2l, 1) := by decide +kernel
theorem d_L_option_15 : decode b_L_option 15 = .ok (.lastore, 1) := by decide +kernel
theorem d_L_option_16 : decode b_L_option 16 = .ok (.goto 11, 3) := by decide +kernel
theorem d_L_option_19 : decode b_L_option 19 = .ok (.astore 8, 2) := by decide +kernel
theorem d_L_option_21 : decode b_L_option 21 = .ok (.iconst 1, 1) := by decide +kernel
theorem d_L_option_22 : decode b_L_option 22 = .ok (.ireturn, 1) := by decide +kernel
theorem d_L_option_23 : decode b_L_option 23 = .ok (.astore 8, 2) := by decide +kernel
theorem d_L_option_25 : decode b_L_option 25 = .ok (.iconst 2, 1) := by decide +kernel
theorem d_L_option_26 : decode b_L_option 26 = .ok (.ireturn, 1) := by decide +kernel
theorem d_L_option_27 : decode b_L_option 27 = .ok (.iconst 0, 1) := by decide +kernel
theorem d_L_option_28 : decode b_L_option 28 = .ok (.ireturn, 1) := by decide +kernel
theorem d_L_quote_0 : decode b_L_quote 0 = .ok (.aload_n 3, 1) := by decide +kernel
theorem d_L_quote_1 : decode b_L_quote 1 = .ok (.iconst 0, 1) := by decide +kernel
theorem d_L_quote_2 : decode b_L_quote 2 = .ok (.aload_n 0, 1) := by decide +kernel
theorem d_L_quote_3 : decode b_L_quote 3 = .ok (.dload_n 1, 1) := by decide +kernel
theorem d_L_quote_4 : decode b_L_quote 4 = .ok (.invokevirtual 7, 3) := by decide +kernel
theorem d_L_quote_7 : decode b_L_quote 7 = .ok (.i2l, 1) := by decide +kernel
theorem d_L_quote_8 : decode b_L_quote 8 = .ok (.lastore, 1) := by decide +kernel
theorem d_L_quote_9 : decode b_L_quote 9 = .ok (.goto 11, 3) := by decide +kernel
theorem d_L_quote_12 : decode b_L_quote 12 = .ok (.astore 4, 2) := by decide +kernel
theorem d_L_quote_14 : decode b_L_quote 14 = .ok (.iconst 1, 1) := by decide +kernel
theorem d_L_quote_15 : decode b_L_quote 15 = .ok (.ireturn, 1) := by decide +kernel
theorem d_L_quote_16 : decode b_L_quote 16 = .ok (.astore 4, 2) := by decide +kernel
theorem d_L_quote_18 : decode b_L_quote 18 = .ok (.iconst 2, 1) := by decide +kernel
theorem d_L_quote_19 : decode b_L_quote 19 = .ok (.ireturn, 1) := by decide +kernel
theorem d_L_quote_20 : decode b_L_quote 20 = .ok (.iconst 0, 1) := by decide +kernel
theorem d_L_quote_21 : decode b_L_quote 21 = .ok (.ireturn, 1) := by decide +kernel
theorem d_L_set_0 : decode b_L_set 0 = .ok (.aload 4, 2) := by decide +kernel
theorem d_L_set_2 : decode b_L_set 2 = .ok (.iconst 0, 1) := by decide +kernel
theorem d_L_set_3 : decode b_L_set 3 = .ok (.aload_n 0, 1) := by decide +kernel
theorem d_L_set_4 : decode b_L_set 4 = .ok (.iload_n 1, 1) := by decide +kernel
theorem d_L_set_5 : decode b_L_set 5 = .ok (.dload_n 2, 1) := by decide +kernel
theorem d_L_set_6 : decode b_L_set 6 = .ok (.invokevirtual 37, 3) := by decide +kernel
theorem d_L_set_9 : decode b_L_set 9 = .ok (.i2l, 1) := by decide +kernel
theorem d_L_set_10 : decode b_L_set 10 = .ok (.lastore, 1) := by decide +kernel
theorem d_L_set_11 : decode b_L_set 11 = .ok (.goto 7, 3) := by decide +kernel
theorem d_L_set_14 : decode b_L_set 14 = .ok (.astore 5, 2) := by decide +kernel
theorem d_L_set_16 : decode b_L_set 16 = .ok (.iconst 1, 1) := by decide +kernel
theorem d_L_set_17 : decode b_L_set 17 = .ok (.ireturn, 1) := by decide +kernel
theorem d_L_set_18 : decode b_L_set 18 = .ok (.iconst 0, 1) := by decide +kernel
theorem d_L_set_19 : decode b_L_set 19 = .ok (.ireturn, 1) := by decide +kernel
theorem d_L_terms_0 : decode b_L_terms 0 = .ok (.aload_n 0, 1) := by decide +kernel
theorem d_L_terms_1 : decode b_L_terms 1 = .ok (.iload_n 1, 1) := by decide +kernel
theorem d_L_terms_2 : decode b_L_terms 2 = .ok (.iload_n 2, 1) := by decide +kernel
theorem d_L_terms_3 : decode b_L_terms 3 = .ok (.iload_n 3, 1) := by decide +kernel
theorem d_L_terms_4 : decode b_L_terms 4 = .ok (.iload 4, 2) := by decide +kernel
theorem d_L_terms_6 : decode b_L_terms 6 = .ok (.iload 5, 2) := by decide +kernel
theorem d_L_terms_8 : decode b_L_terms 8 = .ok (.invokevirtual 29, 3) := by decide +kernel
theorem d_L_terms_11 : decode b_L_terms 11 = .ok (.goto 11, 3) := by decide +kernel
theorem d_L_terms_14 : decode b_L_terms 14 = .ok (.astore 6, 2) := by decide +kernel
theorem d_L_terms_16 : decode b_L_terms 16 = .ok (.iconst 1, 1) := by decide +kernel
theorem d_L_terms_17 : decode b_L_terms 17 = .ok (.ireturn, 1) := by decide +kernel
theorem d_L_terms_18 : decode b_L_terms 18 = .ok (.astore 6, 2) := by decide +kernel
theorem d_L_terms_20 : decode b_L_terms 20 = .ok (.iconst 2, 1) := by decide +kernel
theorem d_L_terms_21 : decode b_L_terms 21 = .ok (.ireturn, 1) := by decide +kernel
theorem d_L_terms_22 : decode b_L_terms 22 = .ok (.iconst 0, 1) := by decide +kernel
theorem d_L_terms_23 : decode b_L_terms 23 = .ok (.ireturn, 1) := by decide +kernel
theorem d_L_uses_0 : decode b_L_uses 0 = .ok (.aload_n 3, 1) := by decide +kernel
theorem d_L_uses_1 : decode b_L_uses 1 = .ok (.iconst 0, 1) := by decide +kernel
theorem d_L_uses_2 : decode b_L_uses 2 = .ok (.aload_n 0, 1) := by decide +kernel
theorem d_L_uses_3 : decode b_L_uses 3 = .ok (.iload_n 1, 1) := by decide +kernel
theorem d_L_uses_4 : decode b_L_uses 4 = .ok (.iload_n 2, 1) := by decide +kernel
theorem d_L_uses_5 : decode b_L_uses 5 = .ok (.invokevirtual 57, 3) := by decide +kernel
theorem d_L_uses_8 : decode b_L_uses 8 = .ok (.ifCond .eq 7, 3) := by decide +kernel
theorem d_L_uses_11 : decode b_L_uses 11 = .ok (.lconst 1, 1) := by decide +kernel
theorem d_L_uses_12 : decode b_L_uses 12 = .ok (.goto 4, 3) := by decide +kernel
theorem d_L_uses_15 : decode b_L_uses 15 = .ok (.lconst 0, 1) := by decide +kernel
theorem d_L_uses_16 : decode b_L_uses 16 = .ok (.lastore, 1) := by decide +kernel
theorem d_L_uses_17 : decode b_L_uses 17 = .ok (.goto 7, 3) := by decide +kernel
theorem d_L_uses_20 : decode b_L_uses 20 = .ok (.astore 4, 2) := by decide +kernel
theorem d_L_uses_22 : decode b_L_uses 22 = .ok (.iconst 1, 1) := by decide +kernel
theorem d_L_uses_23 : decode b_L_uses 23 = .ok (.ireturn, 1) := by decide +kernel
theorem d_L_uses_24 : decode b_L_uses 24 = .ok (.iconst 0, 1) := by decide +kernel
theorem d_L_uses_25 : decode b_L_uses 25 = .ok (.ireturn, 1) := by decide +kernel
theorem d_L_value_0 : decode b_L_value 0 = .ok (.aload_n 2, 1) := by decide +kernel
theorem d_L_value_1 : decode b_L_value 1 = .ok (.iconst 0, 1) := by decide +kernel
theorem d_L_value_2 : decode b_L_value 2 = .ok (.aload_n 0, 1) := by decide +kernel
theorem d_L_value_3 : decode b_L_value 3 = .ok (.iload_n 1, 1) := by decide +kernel
theorem d_L_value_4 : decode b_L_value 4 = .ok (.invokevirtual 41, 3) := by decide +kernel
theorem d_L_value_7 : decode b_L_value 7 = .ok (.dastore, 1) := by decide +kernel
theorem d_L_value_8 : decode b_L_value 8 = .ok (.goto 12, 3) := by decide +kernel
theorem d_L_value_11 : decode b_L_value 11 = .ok (.astore_n 3, 1) := by decide +kernel
theorem d_L_value_12 : decode b_L_value 12 = .ok (.iconst 1, 1) := by decide +kernel
theorem d_L_value_13 : decode b_L_value 13 = .ok (.ireturn, 1) := by decide +kernel
theorem d_L_value_14 : decode b_L_value 14 = .ok (.astore_n 3, 1) := by decide +kernel
theorem d_L_value_15 : decode b_L_value 15 = .ok (.iconst 2, 1) := by decide +kernel
theorem d_L_value_16 : decode b_L_value 16 = .ok (.ireturn, 1) := by decide +kernel
theorem d_L_value_17 : decode b_L_value 17 = .ok (.astore_n 3, 1) := by decide +kernel
theorem d_L_value_18 : decode b_L_value 18 = .ok (.iconst 3, 1) := by decide +kernel
theorem d_L_value_19 : decode b_L_value 19 = .ok (.ireturn, 1) := by decide +kernel
theorem d_L_value_20 : decode b_L_value 20 = .ok (.iconst 0, 1) := by decide +kernel
theorem d_L_value_21 : decode b_L_value 21 = .ok (.ireturn, 1) := by decide +kernel
theorem d_La_checkSuits_0 : decode b_La_checkSuits 0 = .ok (.return_, 1) := by decide +kernel
theorem d_La_init_0 : decode b_La_init 0 = .ok (.aload_n 0, 1) := by decide +kernel
theorem d_La_init_1 : decode b_La_init 1 = .ok (.iconst 0, 1) := by decide +kernel
theorem d_La_init_2 : decode b_La_init 2 = .ok (.iconst 0, 1) := by decide +kernel
theorem d_La_init_3 : decode b_La_init 3 = .ok (.invokespecial 3, 3) := by decide +kernel
theorem d_La_init_6 : decode b_La_init 6 = .ok (.aload_n 0, 1) := by decide +kernel
theorem d_La_init_7 : decode b_La_init 7 = .ok (.bipush 21, 2) := by decide +kernel
theorem d_La_init_9 : decode b_La_init 9 = .ok (.newarray .long, 2) := by decide +kernel
theorem d_La_init_11 : decode b_La_init 11 = .ok (.putfield 9, 3) := by decide +kernel
theorem d_La_init_14 : decode b_La_init 14 = .ok (.return_, 1) := by decide +kernel
theorem d_La_price_0 : decode b_La_price 0 = .ok (.iconst 0, 1) := by decide +kernel
theorem d_La_price_1 : decode b_La_price 1 = .ok (.istore 4, 2) := by decide +kernel
theorem d_La_price_3 : decode b_La_price 3 = .ok (.iload 4, 2) := by decide +kernel
theorem d_La_price_5 : decode b_La_price 5 = .ok (.aload_n 1, 1) := by decide +kernel
theorem d_La_price_6 : decode b_La_price 6 = .ok (.getfield 15, 3) := by decide +kernel
theorem d_La_price_9 : decode b_La_price 9 = .ok (.if_icmp .gt 33, 3) := by decide +kernel
theorem d_La_price_12 : decode b_La_price 12 = .ok (.aload_n 0, 1) := by decide +kernel
theorem d_La_price_13 : decode b_La_price 13 = .ok (.getfield 9, 3) := by decide +kernel
theorem d_La_price_16 : decode b_La_price 16 = .ok (.iload 4, 2) := by decide +kernel
theorem d_La_price_18 : decode b_La_price 18 = .ok (.aload_n 1, 1) := by decide +kernel
theorem d_La_price_19 : decode b_La_price 19 = .ok (.aload_n 1, 1) := by decide +kernel
theorem d_La_price_20 : decode b_La_price 20 = .ok (.iconst 2, 1) := by decide +kernel
theorem d_La_price_21 : decode b_La_price 21 = .ok (.iload 4, 2) := by decide +kernel
theorem d_La_price_23 : decode b_La_price 23 = .ok (.imul, 1) := by decide +kernel
theorem d_La_price_24 : decode b_La_price 24 = .ok (.aload_n 1, 1) := by decide +kernel
theorem d_La_price_25 : decode b_La_price 25 = .ok (.getfield 15, 3) := by decide +kernel
theorem d_La_price_28 : decode b_La_price 28 = .ok (.isub, 1) := by decide +kernel
theorem d_La_price_29 : decode b_La_price 29 = .ok (.invokevirtual 21, 3) := by decide +kernel
theorem d_La_price_32 : decode b_La_price 32 = .ok (.invokevirtual 25, 3) := by decide +kernel
theorem d_La_price_35 : decode b_La_price 35 = .ok (.lastore, 1) := by decide +kernel
theorem d_La_price_36 : decode b_La_price 36 = .ok (.iinc 4 1, 3) := by decide +kernel
theorem d_La_price_39 : decode b_La_price 39 = .ok (.goto (-36), 3) := by decide +kernel
theorem d_La_price_42 : decode b_La_price 42 = .ok (.aload_n 1, 1) := by decide +kernel
theorem d_La_price_43 : decode b_La_price 43 = .ok (.getfield 15, 3) := by decide +kernel
theorem d_La_price_46 : decode b_La_price 46 = .ok (.iconst 1, 1) := by decide +kernel
theorem d_La_price_47 : decode b_La_price 47 = .ok (.isub, 1) := by decide +kernel
theorem d_La_price_48 : decode b_La_price 48 = .ok (.istore 4, 2) := by decide +kernel
theorem d_La_price_50 : decode b_La_price 50 = .ok (.iload 4, 2) := by decide +kernel
theorem d_La_price_52 : decode b_La_price 52 = .ok (.ifCond .lt 17, 3) := by decide +kernel
theorem d_La_price_55 : decode b_La_price 55 = .ok (.aload_n 0, 1) := by decide +kernel
theorem d_La_price_56 : decode b_La_price 56 = .ok (.aload_n 1, 1) := by decide +kernel
theorem d_La_price_57 : decode b_La_price 57 = .ok (.lload_n 2, 1) := by decide +kernel
theorem d_La_price_58 : decode b_La_price 58 = .ok (.iload 4, 2) := by decide +kernel
theorem d_La_price_60 : decode b_La_price 60 = .ok (.invokevirtual 29, 3) := by decide +kernel
theorem d_La_price_63 : decode b_La_price 63 = .ok (.iinc 4 (-1), 3) := by decide +kernel
theorem d_La_price_66 : decode b_La_price 66 = .ok (.goto (-16), 3) := by decide +kernel
theorem d_La_price_69 : decode b_La_price 69 = .ok (.aload_n 0, 1) := by decide +kernel
theorem d_La_price_70 : decode b_La_price 70 = .ok (.getfield 9, 3) := by decide +kernel
theorem d_La_price_73 : decode b_La_price 73 = .ok (.iconst 0, 1) := by decide +kernel
theorem d_La_price_74 : decode b_La_price 74 = .ok (.laload, 1) := by decide +kernel
theorem d_La_price_75 : decode b_La_price 75 = .ok (.lreturn, 1) := by decide +kernel
theorem d_La_stepBack_0 : decode b_La_stepBack 0 = .ok (.aload_n 1, 1) := by decide +kernel
theorem d_La_stepBack_1 : decode b_La_stepBack 1 = .ok (.getfield 33, 3) := by decide +kernel
theorem d_La_stepBack_4 : decode b_La_stepBack 4 = .ok (.istore 5, 2) := by decide +kernel
theorem d_La_stepBack_6 : decode b_La_stepBack 6 = .ok (.iconst 0, 1) := by decide +kernel
theorem d_La_stepBack_7 : decode b_La_stepBack 7 = .ok (.istore 6, 2) := by decide +kernel
theorem d_La_stepBack_9 : decode b_La_stepBack 9 = .ok (.iload 6, 2) := by decide +kernel
theorem d_La_stepBack_11 : decode b_La_stepBack 11 = .ok (.iload 4, 2) := by decide +kernel
theorem d_La_stepBack_13 : decode b_La_stepBack 13 = .ok (.if_icmp .gt 74, 3) := by decide +kernel
theorem d_La_stepBack_16 : decode b_La_stepBack 16 = .ok (.iload 5, 2) := by decide +kernel
theorem d_La_stepBack_18 : decode b_La_stepBack 18 = .ok (.i2l, 1) := by decide +kernel
theorem d_La_stepBack_19 : decode b_La_stepBack 19 = .ok (.aload_n 0, 1) := by decide +kernel
theorem d_La_stepBack_20 : decode b_La_stepBack 20 = .ok (.getfield 9, 3) := by decide +kernel
theorem d_La_stepBack_23 : decode b_La_stepBack 23 = .ok (.iload 6, 2) := by decide +kernel
theorem d_La_stepBack_25 : decode b_La_stepBack 25 = .ok (.iconst 1, 1) := by decide +kernel
theorem d_La_stepBack_26 : decode b_La_stepBack 26 = .ok (.iadd, 1) := by decide +kernel
theorem d_La_stepBack_27 : decode b_La_stepBack 27 = .ok (.laload, 1) := by decide +kernel
theorem d_La_stepBack_28 : decode b_La_stepBack 28 = .ok (.lmul, 1) := by decide +kernel
theorem d_La_stepBack_29 : decode b_La_stepBack 29 = .ok (.bipush 16, 2) := by decide +kernel
theorem d_La_stepBack_31 : decode b_La_stepBack 31 = .ok (.iload 5, 2) := by decide +kernel
theorem d_La_stepBack_33 : decode b_La_stepBack 33 = .ok (.isub, 1) := by decide +kernel
theorem d_La_stepBack_34 : decode b_La_stepBack 34 = .ok (.i2l, 1) := by decide +kernel
theorem d_La_stepBack_35 : decode b_La_stepBack 35 = .ok (.aload_n 0, 1) := by decide +kernel
theorem d_La_stepBack_36 : decode b_La_stepBack 36 = .ok (.getfield 9, 3) := by decide +kernel
theorem d_La_stepBack_39 : decode b_La_stepBack 39 = .ok (.iload 6, 2) := by decide +kernel
theorem d_La_stepBack_41 : decode b_La_stepBack 41 = .ok (.laload, 1) := by decide +kernel
theorem d_La_stepBack_42 : decode b_La_stepBack 42 = .ok (.lmul, 1) := by decide +kernel
theorem d_La_stepBack_43 : decode b_La_stepBack 43 = .ok (.ladd, 1) := by decide +kernel
theorem d_La_stepBack_44 : decode b_La_stepBack 44 = .ok (.lstore 7, 2) := by decide +kernel
theorem d_La_stepBack_46 : decode b_La_stepBack 46 = .ok (.lload_n 2, 1) := by decide +kernel
theorem d_La_stepBack_47 : decode b_La_stepBack 47 = .ok (.lload 7, 2) := by decide +kernel
theorem d_La_stepBack_49 : decode b_La_stepBack 49 = .ok (.lmul, 1) := by decide +kernel
theorem d_La_stepBack_50 : decode b_La_stepBack 50 = .ok (.bipush 14, 2) := by decide +kernel
theorem d_La_stepBack_52 : decode b_La_stepBack 52 = .ok (.invokestatic 36, 3) := by decide +kernel
theorem d_La_stepBack_55 : decode b_La_stepBack 55 = .ok (.lstore 9, 2) := by decide +kernel
theorem d_La_stepBack_57 : decode b_La_stepBack 57 = .ok (.aload_n 0, 1) := by decide +kernel
theorem d_La_stepBack_58 : decode b_La_stepBack 58 = .ok (.getfield 9, 3) := by decide +kernel
theorem d_La_stepBack_61 : decode b_La_stepBack 61 = .ok (.iload 6, 2) := by decide +kernel
theorem d_La_stepBack_63 : decode b_La_stepBack 63 = .ok (.aload_n 1, 1) := by decide +kernel
theorem d_La_stepBack_64 : decode b_La_stepBack 64 = .ok (.aload_n 1, 1) := by decide +kernel
theorem d_La_stepBack_65 : decode b_La_stepBack 65 = .ok (.iconst 2, 1) := by decide +kernel
theorem d_La_stepBack_66 : decode b_La_stepBack 66 = .ok (.iload 6, 2) := by decide +kernel
theorem d_La_stepBack_68 : decode b_La_stepBack 68 = .ok (.imul, 1) := by decide +kernel
theorem d_La_stepBack_69 : decode b_La_stepBack 69 = .ok (.iload 4, 2) := by decide +kernel
theorem d_La_stepBack_71 : decode b_La_stepBack 71 = .ok (.isub, 1) := by decide +kernel
theorem d_La_stepBack_72 : decode b_La_stepBack 72 = .ok (.invokevirtual 21, 3) := by decide +kernel
theorem d_La_stepBack_75 : decode b_La_stepBack 75 = .ok (.lload 9, 2) := by decide +kernel
theorem d_La_stepBack_77 : decode b_La_stepBack 77 = .ok (.invokevirtual 40, 3) := by decide +kernel
theorem d_La_stepBack_80 : decode b_La_stepBack 80 = .ok (.lastore, 1) := by decide +kernel
theorem d_La_stepBack_81 : decode b_La_stepBack 81 = .ok (.iinc 6 1, 3) := by decide +kernel
theorem d_La_stepBack_84 : decode b_La_stepBack 84 = .ok (.goto (-75), 3) := by decide +kernel
theorem d_La_stepBack_87 : decode b_La_stepBack 87 = .ok (.return_, 1) := by decide +kernel
theorem d_M_ask_0 : decode b_M_ask 0 = .ok (.iconst 1, 1) := by decide +kernel
theorem d_M_ask_1 : decode b_M_ask 1 = .ok (.istore_n 2, 1) := by decide +kernel
theorem d_M_ask_2 : decode b_M_ask 2 = .ok (.aload_n 0, 1) := by decide +kernel
theorem d_M_ask_3 : decode b_M_ask 3 = .ok (.getfield 57, 3) := by decide +kernel
theorem d_M_ask_6 : decode b_M_ask 6 = .ok (.iconst 0, 1) := by decide +kernel
theorem d_M_ask_7 : decode b_M_ask 7 = .ok (.iload_n 1, 1) := by decide +kernel
theorem d_M_ask_8 : decode b_M_ask 8 = .ok (.iastore, 1) := by decide +kernel
theorem d_M_ask_9 : decode b_M_ask 9 = .ok (.aload_n 0, 1) := by decide +kernel
theorem d_M_ask_10 : decode b_M_ask 10 = .ok (.getfield 60, 3) := by decide +kernel
theorem d_M_ask_13 : decode b_M_ask 13 = .ok (.iconst 0, 1) := by decide +kernel
theorem d_M_ask_14 : decode b_M_ask 14 = .ok (.iconst 0, 1) := by decide +kernel
theorem d_M_ask_15 : decode b_M_ask 15 = .ok (.iastore, 1) := by decide +kernel
theorem d_M_ask_16 : decode b_M_ask 16 = .ok (.aload_n 0, 1) := by decide +kernel
theorem d_M_ask_17 : decode b_M_ask 17 = .ok (.iconst 0, 1) := by decide +kernel
theorem d_M_ask_18 : decode b_M_ask 18 = .ok (.putfield 127, 3) := by decide +kernel
theorem d_M_ask_21 : decode b_M_ask 21 = .ok (.iload_n 2, 1) := by decide +kernel
theorem d_M_ask_22 : decode b_M_ask 22 = .ok (.ifCond .le 157, 3) := by decide +kernel
theorem d_M_ask_25 : decode b_M_ask 25 = .ok (.aload_n 0, 1) := by decide +kernel
theorem d_M_ask_26 : decode b_M_ask 26 = .ok (.getfield 57, 3) := by decide +kernel
theorem d_M_ask_29 : decode b_M_ask 29 = .ok (.iload_n 2, 1) := by decide +kernel
theorem d_M_ask_30 : decode b_M_ask 30 = .ok (.iconst 1, 1) := by decide +kernel
theorem d_M_ask_31 : decode b_M_ask 31 = .ok (.isub, 1) := by decide +kernel
theorem d_M_ask_32 : decode b_M_ask 32 = .ok (.iaload, 1) := by decide +kernel
theorem d_M_ask_33 : decode b_M_ask 33 = .ok (.istore_n 3, 1) := by decide +kernel
theorem d_M_ask_34 : decode b_M_ask 34 = .ok (.aload_n 0, 1) := by decide +kernel
theorem d_M_ask_35 : decode b_M_ask 35 = .ok (.getfield 60, 3) := by decide +kernel
theorem d_M_ask_38 : decode b_M_ask 38 = .ok (.iload_n 2, 1) := by decide +kernel
theorem d_M_ask_39 : decode b_M_ask 39 = .ok (.iconst 1, 1) := by decide +kernel
theorem d_M_ask_40 : decode b_M_ask 40 = .ok (.isub, 1) := by decide +kernel
theorem d_M_ask_41 : decode b_M_ask 41 = .ok (.iaload, 1) := by decide +kernel
theorem d_M_ask_42 : decode b_M_ask 42 = .ok (.istore 4, 2) := by decide +kernel
theorem d_M_ask_44 : decode b_M_ask 44 = .ok (.aload_n 0, 1) := by decide +kernel
theorem d_M_ask_45 : decode b_M_ask 45 = .ok (.getfield 20, 3) := by decide +kernel
theorem d_M_ask_48 : decode b_M_ask 48 = .ok (.iload_n 3, 1) := by decide +kernel
theorem d_M_ask_49 : decode b_M_ask 49 = .ok (.baload, 1) := by decide +kernel
theorem d_M_ask_50 : decode b_M_ask 50 = .ok (.ifCond .eq 9, 3) := by decide +kernel
theorem d_M_ask_53 : decode b_M_ask 53 = .ok (.iinc 2 (-1), 3) := by decide +kernel
theorem d_M_ask_56 : decode b_M_ask 56 = .ok (.goto 120, 3) := by decide +kernel
theorem d_M_ask_59 : decode b_M_ask 59 = .ok (.iload 4, 2) := by decide +kernel
theorem d_M_ask_61 : decode b_M_ask 61 = .ok (.iconst 4, 1) := by decide +kernel
theorem d_M_ask_62 : decode b_M_ask 62 = .ok (.if_icmp .ge 59, 3) := by decide +kernel
theorem d_M_ask_65 : decode b_M_ask 65 = .ok (.aload_n 0, 1) := by decide +kernel
theorem d_M_ask_66 : decode b_M_ask 66 = .ok (.getfield 60, 3) := by decide +kernel
theorem d_M_ask_69 : decode b_M_ask 69 = .ok (.iload_n 2, 1) := by decide +kernel
theorem d_M_ask_70 : decode b_M_ask 70 = .ok (.iconst 1, 1) := by decide +kernel
theorem d_M_ask_71 : decode b_M_ask 71 = .ok (.isub, 1) := by decide +kernel
theorem d_M_ask_72 : decode b_M_ask 72 = .ok (.dup2, 1) := by decide +kernel
theorem d_M_ask_73 : decode b_M_ask 73 = .ok (.iaload, 1) := by decide +kernel
theorem d_M_ask_74 : decode b_M_ask 74 = .ok (.iconst 1, 1) := by decide +kernel
theorem d_M_ask_75 : decode b_M_ask 75 = .ok (.iadd, 1) := by decide +kernel
theorem d_M_ask_76 : decode b_M_ask 76 = .ok (.iastore, 1) := by decide +kernel
theorem d_M_ask_77 : decode b_M_ask 77 = .ok (.aload_n 0, 1) := by decide +kernel
theorem d_M_ask_78 : decode b_M_ask 78 = .ok (.getfield 13, 3) := by decide +kernel
theorem d_M_ask_81 : decode b_M_ask 81 = .ok (.iload_n 3, 1) := by decide +kernel
theorem d_M_ask_82 : decode b_M_ask 82 = .ok (.iconst 4, 1) := by decide +kernel
theorem d_M_ask_83 : decode b_M_ask 83 = .ok (.imul, 1) := by decide +kernel
theorem d_M_ask_84 : decode b_M_ask 84 = .ok (.iload 4, 2) := by decide +kernel
theorem d_M_ask_86 : decode b_M_ask 86 = .ok (.iadd, 1) := by decide +kernel
theorem d_M_ask_87 : decode b_M_ask 87 = .ok (.iaload, 1) := by decide +kernel
theorem d_M_ask_88 : decode b_M_ask 88 = .ok (.ifCond .lt 88, 3) := by decide +kernel
theorem d_M_ask_91 : decode b_M_ask 91 = .ok (.aload_n 0, 1) := by decide +kernel
theorem d_M_ask_92 : decode b_M_ask 92 = .ok (.getfield 57, 3) := by decide +kernel
theorem d_M_ask_95 : decode b_M_ask 95 = .ok (.iload_n 2, 1) := by decide +kernel
theorem d_M_ask_96 : decode b_M_ask 96 = .ok (.aload_n 0, 1) := by decide +kernel
theorem d_M_ask_97 : decode b_M_ask 97 = .ok (.getfield 13, 3) := by decide +kernel
theorem d_M_ask_100 : decode b_M_ask 100 = .ok (.iload_n 3, 1) := by decide +kernel
theorem d_M_ask_101 : decode b_M_ask 101 = .ok (.iconst 4, 1) := by decide +kernel
theorem d_M_ask_102 : decode b_M_ask 102 = .ok (.imul, 1) := by decide +kernel
theorem d_M_ask_103 : decode b_M_ask 103 = .ok (.iload 4, 2) := by decide +kernel
theorem d_M_ask_105 : decode b_M_ask 105 = .ok (.iadd, 1) := by decide +kernel
theorem d_M_ask_106 : decode b_M_ask 106 = .ok (.iaload, 1) := by decide +kernel
theorem d_M_ask_107 : decode b_M_ask 107 = .ok (.iastore, 1) := by decide +kernel
theorem d_M_ask_108 : decode b_M_ask 108 = .ok (.aload_n 0, 1) := by decide +kernel
theorem d_M_ask_109 : decode b_M_ask 109 = .ok (.getfield 60, 3) := by decide +kernel
theorem d_M_ask_112 : decode b_M_ask 112 = .ok (.iload_n 2, 1) := by decide +kernel
theorem d_M_ask_113 : decode b_M_ask 113 = .ok (.iconst 0, 1) := by decide +kernel
theorem d_M_ask_114 : decode b_M_ask 114 = .ok (.iastore, 1) := by decide +kernel
theorem d_M_ask_115 : decode b_M_ask 115 = .ok (.iinc 2 1, 3) := by decide +kernel
theorem d_M_ask_118 : decode b_M_ask 118 = .ok (.goto 58, 3) := by decide +kernel
theorem d_M_ask_121 : decode b_M_ask 121 = .ok (.aload_n 0, 1) := by decide +kernel
theorem d_M_ask_122 : decode b_M_ask 122 = .ok (.aload_n 0, 1) := by decide +kernel
theorem d_M_ask_123 : decode b_M_ask 123 = .ok (.iload_n 3, 1) := by decide +kernel
theorem d_M_ask_124 : decode b_M_ask 124 = .ok (.invokevirtual 200, 3) := by decide +kernel
theorem d_M_ask_127 : decode b_M_ask 127 = .ok (.invokevirtual 150, 3) := by decide +kernel
theorem d_M_ask_130 : decode b_M_ask 130 = .ok (.lstore 5, 2) := by decide +kernel
theorem d_M_ask_132 : decode b_M_ask 132 = .ok (.aload_n 0, 1) := by decide +kernel
theorem d_M_ask_133 : decode b_M_ask 133 = .ok (.getfield 127, 3) := by decide +kernel
theorem d_M_ask_136 : decode b_M_ask 136 = .ok (.ifCond .eq 5, 3) := by decide +kernel
theorem d_M_ask_139 : decode b_M_ask 139 = .ok (.iconst 0, 1) := by decide +kernel
theorem d_M_ask_140 : decode b_M_ask 140 = .ok (.ireturn, 1) := by decide +kernel
theorem d_M_ask_141 : decode b_M_ask 141 = .ok (.aload_n 0, 1) := by decide +kernel
theorem d_M_ask_142 : decode b_M_ask 142 = .ok (.getfield 16, 3) := by decide +kernel
theorem d_M_ask_145 : decode b_M_ask 145 = .ok (.iload_n 3, 1) := by decide +kernel
theorem d_M_ask_146 : decode b_M_ask 146 = .ok (.lload 5, 2) := by decide +kernel
theorem d_M_ask_148 : decode b_M_ask 148 = .ok (.lastore, 1) := by decide +kernel
theorem d_M_ask_149 : decode b_M_ask 149 = .ok (.aload_n 0, 1) := by decide +kernel
theorem d_M_ask_150 : decode b_M_ask 150 = .ok (.getfield 20, 3) := by decide +kernel
theorem d_M_ask_153 : decode b_M_ask 153 = .ok (.iload_n 3, 1) := by decide +kernel
theorem d_M_ask_154 : decode b_M_ask 154 = .ok (.iconst 1, 1) := by decide +kernel
theorem d_M_ask_155 : decode b_M_ask 155 = .ok (.bastore, 1) := by decide +kernel
theorem d_M_ask_156 : decode b_M_ask 156 = .ok (.aload_n 0, 1) := by decide +kernel
theorem d_M_ask_157 : decode b_M_ask 157 = .ok (.getfield 30, 3) := by decide +kernel
theorem d_M_ask_160 : decode b_M_ask 160 = .ok (.iload_n 3, 1) := by decide +kernel
theorem d_M_ask_161 : decode b_M_ask 161 = .ok (.dup2, 1) := by decide +kernel
theorem d_M_ask_162 : decode b_M_ask 162 = .ok (.iaload, 1) := by decide +kernel
theorem d_M_ask_163 : decode b_M_ask 163 = .ok (.iconst 1, 1) := by decide +kernel
theorem d_M_ask_164 : decode b_M_ask 164 = .ok (.iadd, 1) := by decide +kernel
theorem d_M_ask_165 : decode b_M_ask 165 = .ok (.iastore, 1) := by decide +kernel
theorem d_M_ask_166 : decode b_M_ask 166 = .ok (.aload_n 0, 1) := by decide +kernel
theorem d_M_ask_167 : decode b_M_ask 167 = .ok (.dup, 1) := by decide +kernel
end
section
theorem d_M_ask_168 : decode b_M_ask 168 = .ok (.getfield 203, 3) := by decide +kernel
theorem d_M_ask_171 : decode b_M_ask 171 = .ok (.iconst 1, 1) := by decide +kernel
theorem d_M_ask_172 : decode b_M_ask 172 = .ok (.iadd, 1) := by decide +kernel
theorem d_M_ask_173 : decode b_M_ask 173 = .ok (.putfield 203, 3) := by decide +kernel
theorem d_M_ask_176 : decode b_M_ask 176 = .ok (.goto (-155), 3) := by decide +kernel
theorem d_M_ask_179 : decode b_M_ask 179 = .ok (.iconst 1, 1) := by decide +kernel
theorem d_M_ask_180 : decode b_M_ask 180 = .ok (.ireturn, 1) := by decide +kernel
theorem d_M_badPart_0 : decode b_M_badPart 0 = .ok (.iload_n 2, 1) := by decide +kernel
theorem d_M_badPart_1 : decode b_M_badPart 1 = .ok (.iconst (-1), 1) := by decide +kernel
theorem d_M_badPart_2 : decode b_M_badPart 2 = .ok (.if_icmp .eq 29, 3) := by decide +kernel
theorem d_M_badPart_5 : decode b_M_badPart 5 = .ok (.aload_n 0, 1) := by decide +kernel
theorem d_M_badPart_6 : decode b_M_badPart 6 = .ok (.iload_n 2, 1) := by decide +kernel
theorem d_M_badPart_7 : decode b_M_badPart 7 = .ok (.invokevirtual 96, 3) := by decide +kernel
theorem d_M_badPart_10 : decode b_M_badPart 10 = .ok (.ifCond .ne 17, 3) := by decide +kernel
theorem d_M_badPart_13 : decode b_M_badPart 13 = .ok (.iload_n 2, 1) := by decide +kernel
theorem d_M_badPart_14 : decode b_M_badPart 14 = .ok (.iload_n 1, 1) := by decide +kernel
theorem d_M_badPart_15 : decode b_M_badPart 15 = .ok (.if_icmp .eq 12, 3) := by decide +kernel
theorem d_M_badPart_18 : decode b_M_badPart 18 = .ok (.aload_n 0, 1) := by decide +kernel
theorem d_M_badPart_19 : decode b_M_badPart 19 = .ok (.iload_n 2, 1) := by decide +kernel
theorem d_M_badPart_20 : decode b_M_badPart 20 = .ok (.iload_n 1, 1) := by decide +kernel
theorem d_M_badPart_21 : decode b_M_badPart 21 = .ok (.invokevirtual 102, 3) := by decide +kernel
theorem d_M_badPart_24 : decode b_M_badPart 24 = .ok (.ifCond .eq 7, 3) := by decide +kernel
theorem d_M_badPart_27 : decode b_M_badPart 27 = .ok (.iconst 1, 1) := by decide +kernel
theorem d_M_badPart_28 : decode b_M_badPart 28 = .ok (.goto 4, 3) := by decide +kernel
theorem d_M_badPart_31 : decode b_M_badPart 31 = .ok (.iconst 0, 1) := by decide +kernel
theorem d_M_badPart_32 : decode b_M_badPart 32 = .ok (.ireturn, 1) := by decide +kernel
theorem d_M_blend_0 : decode b_M_blend 0 = .ok (.aload_n 0, 1) := by decide +kernel
theorem d_M_blend_1 : decode b_M_blend 1 = .ok (.aload_n 0, 1) := by decide +kernel
theorem d_M_blend_2 : decode b_M_blend 2 = .ok (.iload_n 1, 1) := by decide +kernel
theorem d_M_blend_3 : decode b_M_blend 3 = .ok (.invokevirtual 96, 3) := by decide +kernel
theorem d_M_blend_6 : decode b_M_blend 6 = .ok (.ifCond .ne 34, 3) := by decide +kernel
theorem d_M_blend_9 : decode b_M_blend 9 = .ok (.aload_n 0, 1) := by decide +kernel
theorem d_M_blend_10 : decode b_M_blend 10 = .ok (.iload_n 2, 1) := by decide +kernel
theorem d_M_blend_11 : decode b_M_blend 11 = .ok (.invokevirtual 96, 3) := by decide +kernel
theorem d_M_blend_14 : decode b_M_blend 14 = .ok (.ifCond .ne 26, 3) := by decide +kernel
theorem d_M_blend_17 : decode b_M_blend 17 = .ok (.aload_n 0, 1) := by decide +kernel
theorem d_M_blend_18 : decode b_M_blend 18 = .ok (.dload_n 3, 1) := by decide +kernel
theorem d_M_blend_19 : decode b_M_blend 19 = .ok (.ldc2_w 100, 3) := by decide +kernel
theorem d_M_blend_22 : decode b_M_blend 22 = .ok (.invokevirtual 86, 3) := by decide +kernel
theorem d_M_blend_25 : decode b_M_blend 25 = .ok (.ifCond .ne 15, 3) := by decide +kernel
theorem d_M_blend_28 : decode b_M_blend 28 = .ok (.aload_n 0, 1) := by decide +kernel
theorem d_M_blend_29 : decode b_M_blend 29 = .ok (.dload 5, 2) := by decide +kernel
theorem d_M_blend_31 : decode b_M_blend 31 = .ok (.ldc2_w 100, 3) := by decide +kernel
theorem d_M_blend_34 : decode b_M_blend 34 = .ok (.invokevirtual 86, 3) := by decide +kernel
theorem d_M_blend_37 : decode b_M_blend 37 = .ok (.ifCond .eq 7, 3) := by decide +kernel
theorem d_M_blend_40 : decode b_M_blend 40 = .ok (.iconst 1, 1) := by decide +kernel
theorem d_M_blend_41 : decode b_M_blend 41 = .ok (.goto 17, 3) := by decide +kernel
theorem d_M_blend_44 : decode b_M_blend 44 = .ok (.aload_n 0, 1) := by decide +kernel
theorem d_M_blend_45 : decode b_M_blend 45 = .ok (.getfield 79, 3) := by decide +kernel
theorem d_M_blend_48 : decode b_M_blend 48 = .ok (.bipush 16, 2) := by decide +kernel
theorem d_M_blend_50 : decode b_M_blend 50 = .ok (.if_icmp .ne 7, 3) := by decide +kernel
theorem d_M_blend_53 : decode b_M_blend 53 = .ok (.iconst 2, 1) := by decide +kernel
theorem d_M_blend_54 : decode b_M_blend 54 = .ok (.goto 4, 3) := by decide +kernel
theorem d_M_blend_57 : decode b_M_blend 57 = .ok (.iconst 0, 1) := by decide +kernel
theorem d_M_blend_58 : decode b_M_blend 58 = .ok (.putfield 75, 3) := by decide +kernel
theorem d_M_blend_61 : decode b_M_blend 61 = .ok (.aload_n 0, 1) := by decide +kernel
theorem d_M_blend_62 : decode b_M_blend 62 = .ok (.getfield 75, 3) := by decide +kernel
theorem d_M_blend_65 : decode b_M_blend 65 = .ok (.ifCond .eq 5, 3) := by decide +kernel
theorem d_M_blend_68 : decode b_M_blend 68 = .ok (.iconst 0, 1) := by decide +kernel
theorem d_M_blend_69 : decode b_M_blend 69 = .ok (.ireturn, 1) := by decide +kernel
theorem d_M_blend_70 : decode b_M_blend 70 = .ok (.aload_n 0, 1) := by decide +kernel
theorem d_M_blend_71 : decode b_M_blend 71 = .ok (.iconst 1, 1) := by decide +kernel
theorem d_M_blend_72 : decode b_M_blend 72 = .ok (.iload_n 1, 1) := by decide +kernel
theorem d_M_blend_73 : decode b_M_blend 73 = .ok (.iload_n 2, 1) := by decide +kernel
theorem d_M_blend_74 : decode b_M_blend 74 = .ok (.invokevirtual 90, 3) := by decide +kernel
theorem d_M_blend_77 : decode b_M_blend 77 = .ok (.istore 7, 2) := by decide +kernel
theorem d_M_blend_79 : decode b_M_blend 79 = .ok (.aload_n 0, 1) := by decide +kernel
theorem d_M_blend_80 : decode b_M_blend 80 = .ok (.getfield 33, 3) := by decide +kernel
theorem d_M_blend_83 : decode b_M_blend 83 = .ok (.iload 7, 2) := by decide +kernel
theorem d_M_blend_85 : decode b_M_blend 85 = .ok (.dload_n 3, 1) := by decide +kernel
theorem d_M_blend_86 : decode b_M_blend 86 = .ok (.ldc2_w 82, 3) := by decide +kernel
theorem d_M_blend_89 : decode b_M_blend 89 = .ok (.dmul, 1) := by decide +kernel
theorem d_M_blend_90 : decode b_M_blend 90 = .ok (.d2l, 1) := by decide +kernel
theorem d_M_blend_91 : decode b_M_blend 91 = .ok (.lastore, 1) := by decide +kernel
theorem d_M_blend_92 : decode b_M_blend 92 = .ok (.aload_n 0, 1) := by decide +kernel
theorem d_M_blend_93 : decode b_M_blend 93 = .ok (.getfield 36, 3) := by decide +kernel
theorem d_M_blend_96 : decode b_M_blend 96 = .ok (.iload 7, 2) := by decide +kernel
theorem d_M_blend_98 : decode b_M_blend 98 = .ok (.dload 5, 2) := by decide +kernel
theorem d_M_blend_100 : decode b_M_blend 100 = .ok (.ldc2_w 82, 3) := by decide +kernel
theorem d_M_blend_103 : decode b_M_blend 103 = .ok (.dmul, 1) := by decide +kernel
theorem d_M_blend_104 : decode b_M_blend 104 = .ok (.d2l, 1) := by decide +kernel
theorem d_M_blend_105 : decode b_M_blend 105 = .ok (.lastore, 1) := by decide +kernel
theorem d_M_blend_106 : decode b_M_blend 106 = .ok (.iload 7, 2) := by decide +kernel
theorem d_M_blend_108 : decode b_M_blend 108 = .ok (.ireturn, 1) := by decide +kernel
theorem d_M_bounded_0 : decode b_M_bounded 0 = .ok (.lload_n 1, 1) := by decide +kernel
theorem d_M_bounded_1 : decode b_M_bounded 1 = .ok (.ldc2_w 123, 3) := by decide +kernel
theorem d_M_bounded_4 : decode b_M_bounded 4 = .ok (.lcmp, 1) := by decide +kernel
theorem d_M_bounded_5 : decode b_M_bounded 5 = .ok (.ifCond .gt 11, 3) := by decide +kernel
theorem d_M_bounded_8 : decode b_M_bounded 8 = .ok (.lload_n 1, 1) := by decide +kernel
theorem d_M_bounded_9 : decode b_M_bounded 9 = .ok (.ldc2_w 125, 3) := by decide +kernel
theorem d_M_bounded_12 : decode b_M_bounded 12 = .ok (.lcmp, 1) := by decide +kernel
theorem d_M_bounded_13 : decode b_M_bounded 13 = .ok (.ifCond .ge 8, 3) := by decide +kernel
theorem d_M_bounded_16 : decode b_M_bounded 16 = .ok (.aload_n 0, 1) := by decide +kernel
theorem d_M_bounded_17 : decode b_M_bounded 17 = .ok (.iconst 2, 1) := by decide +kernel
theorem d_M_bounded_18 : decode b_M_bounded 18 = .ok (.putfield 127, 3) := by decide +kernel
theorem d_M_bounded_21 : decode b_M_bounded 21 = .ok (.lload_n 1, 1) := by decide +kernel
theorem d_M_bounded_22 : decode b_M_bounded 22 = .ok (.lreturn, 1) := by decide +kernel
theorem d_M_bump_0 : decode b_M_bump 0 = .ok (.aload_n 0, 1) := by decide +kernel
theorem d_M_bump_1 : decode b_M_bump 1 = .ok (.aload_n 0, 1) := by decide +kernel
theorem d_M_bump_2 : decode b_M_bump 2 = .ok (.iload_n 1, 1) := by decide +kernel
theorem d_M_bump_3 : decode b_M_bump 3 = .ok (.invokevirtual 96, 3) := by decide +kernel
theorem d_M_bump_6 : decode b_M_bump 6 = .ok (.ifCond .ne 31, 3) := by decide +kernel
theorem d_M_bump_9 : decode b_M_bump 9 = .ok (.aload_n 0, 1) := by decide +kernel
theorem d_M_bump_10 : decode b_M_bump 10 = .ok (.iload_n 2, 1) := by decide +kernel
theorem d_M_bump_11 : decode b_M_bump 11 = .ok (.invokevirtual 96, 3) := by decide +kernel
theorem d_M_bump_14 : decode b_M_bump 14 = .ok (.ifCond .ne 23, 3) := by decide +kernel
theorem d_M_bump_17 : decode b_M_bump 17 = .ok (.aload_n 0, 1) := by decide +kernel
theorem d_M_bump_18 : decode b_M_bump 18 = .ok (.getfield 7, 3) := by decide +kernel
theorem d_M_bump_21 : decode b_M_bump 21 = .ok (.iload_n 2, 1) := by decide +kernel
theorem d_M_bump_22 : decode b_M_bump 22 = .ok (.iaload, 1) := by decide +kernel
theorem d_M_bump_23 : decode b_M_bump 23 = .ok (.ifCond .ne 14, 3) := by decide +kernel
theorem d_M_bump_26 : decode b_M_bump 26 = .ok (.aload_n 0, 1) := by decide +kernel
theorem d_M_bump_27 : decode b_M_bump 27 = .ok (.dload_n 3, 1) := by decide +kernel
theorem d_M_bump_28 : decode b_M_bump 28 = .ok (.ldc2_w 212, 3) := by decide +kernel
theorem d_M_bump_31 : decode b_M_bump 31 = .ok (.invokevirtual 86, 3) := by decide +kernel
theorem d_M_bump_34 : decode b_M_bump 34 = .ok (.ifCond .eq 7, 3) := by decide +kernel
theorem d_M_bump_37 : decode b_M_bump 37 = .ok (.iconst 1, 1) := by decide +kernel
theorem d_M_bump_38 : decode b_M_bump 38 = .ok (.goto 4, 3) := by decide +kernel
theorem d_M_bump_41 : decode b_M_bump 41 = .ok (.iconst 0, 1) := by decide +kernel
theorem d_M_bump_42 : decode b_M_bump 42 = .ok (.putfield 75, 3) := by decide +kernel
theorem d_M_bump_45 : decode b_M_bump 45 = .ok (.aload_n 0, 1) := by decide +kernel
theorem d_M_bump_46 : decode b_M_bump 46 = .ok (.getfield 75, 3) := by decide +kernel
theorem d_M_bump_49 : decode b_M_bump 49 = .ok (.ifCond .eq 5, 3) := by decide +kernel
theorem d_M_bump_52 : decode b_M_bump 52 = .ok (.dconst 0, 1) := by decide +kernel
theorem d_M_bump_53 : decode b_M_bump 53 = .ok (.dreturn, 1) := by decide +kernel
theorem d_M_bump_54 : decode b_M_bump 54 = .ok (.aload_n 0, 1) := by decide +kernel
theorem d_M_bump_55 : decode b_M_bump 55 = .ok (.iload_n 1, 1) := by decide +kernel
theorem d_M_bump_56 : decode b_M_bump 56 = .ok (.invokevirtual 206, 3) := by decide +kernel
theorem d_M_bump_59 : decode b_M_bump 59 = .ok (.istore 5, 2) := by decide +kernel
theorem d_M_bump_61 : decode b_M_bump 61 = .ok (.aload_n 0, 1) := by decide +kernel
theorem d_M_bump_62 : decode b_M_bump 62 = .ok (.getfield 16, 3) := by decide +kernel
theorem d_M_bump_65 : decode b_M_bump 65 = .ok (.iload_n 1, 1) := by decide +kernel
theorem d_M_bump_66 : decode b_M_bump 66 = .ok (.laload, 1) := by decide +kernel
theorem d_M_bump_67 : decode b_M_bump 67 = .ok (.lstore 6, 2) := by decide +kernel
theorem d_M_bump_69 : decode b_M_bump 69 = .ok (.lconst 0, 1) := by decide +kernel
theorem d_M_bump_70 : decode b_M_bump 70 = .ok (.lstore 8, 2) := by decide +kernel
theorem d_M_bump_72 : decode b_M_bump 72 = .ok (.iload 5, 2) := by decide +kernel
theorem d_M_bump_74 : decode b_M_bump 74 = .ok (.ifCond .eq 181, 3) := by decide +kernel
theorem d_M_bump_77 : decode b_M_bump 77 = .ok (.iconst 0, 1) := by decide +kernel
theorem d_M_bump_78 : decode b_M_bump 78 = .ok (.istore 10, 2) := by decide +kernel
theorem d_M_bump_80 : decode b_M_bump 80 = .ok (.iload 10, 2) := by decide +kernel
theorem d_M_bump_82 : decode b_M_bump 82 = .ok (.aload_n 0, 1) := by decide +kernel
theorem d_M_bump_83 : decode b_M_bump 83 = .ok (.getfield 79, 3) := by decide +kernel
theorem d_M_bump_86 : decode b_M_bump 86 = .ok (.if_icmp .ge 37, 3) := by decide +kernel
theorem d_M_bump_89 : decode b_M_bump 89 = .ok (.aload_n 0, 1) := by decide +kernel
theorem d_M_bump_90 : decode b_M_bump 90 = .ok (.getfield 63, 3) := by decide +kernel
theorem d_M_bump_93 : decode b_M_bump 93 = .ok (.iload 10, 2) := by decide +kernel
theorem d_M_bump_95 : decode b_M_bump 95 = .ok (.aload_n 0, 1) := by decide +kernel
theorem d_M_bump_96 : decode b_M_bump 96 = .ok (.getfield 16, 3) := by decide +kernel
theorem d_M_bump_99 : decode b_M_bump 99 = .ok (.iload 10, 2) := by decide +kernel
theorem d_M_bump_101 : decode b_M_bump 101 = .ok (.laload, 1) := by decide +kernel
theorem d_M_bump_102 : decode b_M_bump 102 = .ok (.lastore, 1) := by decide +kernel
theorem d_M_bump_103 : decode b_M_bump 103 = .ok (.aload_n 0, 1) := by decide +kernel
theorem d_M_bump_104 : decode b_M_bump 104 = .ok (.getfield 66, 3) := by decide +kernel
theorem d_M_bump_107 : decode b_M_bump 107 = .ok (.iload 10, 2) := by decide +kernel
theorem d_M_bump_109 : decode b_M_bump 109 = .ok (.aload_n 0, 1) := by decide +kernel
theorem d_M_bump_110 : decode b_M_bump 110 = .ok (.getfield 20, 3) := by decide +kernel
theorem d_M_bump_113 : decode b_M_bump 113 = .ok (.iload 10, 2) := by decide +kernel
theorem d_M_bump_115 : decode b_M_bump 115 = .ok (.baload, 1) := by decide +kernel
theorem d_M_bump_116 : decode b_M_bump 116 = .ok (.bastore, 1) := by decide +kernel
theorem d_M_bump_117 : decode b_M_bump 117 = .ok (.iinc 10 1, 3) := by decide +kernel
theorem d_M_bump_120 : decode b_M_bump 120 = .ok (.goto (-40), 3) := by decide +kernel
theorem d_M_bump_123 : decode b_M_bump 123 = .ok (.aload_n 0, 1) := by decide +kernel
theorem d_M_bump_124 : decode b_M_bump 124 = .ok (.getfield 16, 3) := by decide +kernel
theorem d_M_bump_127 : decode b_M_bump 127 = .ok (.iload_n 2, 1) := by decide +kernel
theorem d_M_bump_128 : decode b_M_bump 128 = .ok (.dup2, 1) := by decide +kernel
theorem d_M_bump_129 : decode b_M_bump 129 = .ok (.laload, 1) := by decide +kernel
theorem d_M_bump_130 : decode b_M_bump 130 = .ok (.dload_n 3, 1) := by decide +kernel
theorem d_M_bump_131 : decode b_M_bump 131 = .ok (.ldc2_w 94, 3) := by decide +kernel
theorem d_M_bump_134 : decode b_M_bump 134 = .ok (.dmul, 1) := by decide +kernel
theorem d_M_bump_135 : decode b_M_bump 135 = .ok (.d2l, 1) := by decide +kernel
theorem d_M_bump_136 : decode b_M_bump 136 = .ok (.ladd, 1) := by decide +kernel
theorem d_M_bump_137 : decode b_M_bump 137 = .ok (.lastore, 1) := by decide +kernel
theorem d_M_bump_138 : decode b_M_bump 138 = .ok (.iconst 0, 1) := by decide +kernel
theorem d_M_bump_139 : decode b_M_bump 139 = .ok (.istore 10, 2) := by decide +kernel
theorem d_M_bump_141 : decode b_M_bump 141 = .ok (.iload 10, 2) := by decide +kernel
theorem d_M_bump_143 : decode b_M_bump 143 = .ok (.aload_n 0, 1) := by decide +kernel
theorem d_M_bump_144 : decode b_M_bump 144 = .ok (.getfield 79, 3) := by decide +kernel
theorem d_M_bump_147 : decode b_M_bump 147 = .ok (.if_icmp .ge 47, 3) := by decide +kernel
theorem d_M_bump_150 : decode b_M_bump 150 = .ok (.aload_n 0, 1) := by decide +kernel
theorem d_M_bump_151 : decode b_M_bump 151 = .ok (.getfield 7, 3) := by decide +kernel
theorem d_M_bump_154 : decode b_M_bump 154 = .ok (.iload 10, 2) := by decide +kernel
theorem d_M_bump_156 : decode b_M_bump 156 = .ok (.iaload, 1) := by decide +kernel
theorem d_M_bump_157 : decode b_M_bump 157 = .ok (.ifCond .le 31, 3) := by decide +kernel
theorem d_M_bump_160 : decode b_M_bump 160 = .ok (.aload_n 0, 1) := by decide +kernel
theorem d_M_bump_161 : decode b_M_bump 161 = .ok (.getfield 24, 3) := by decide +kernel
theorem d_M_bump_164 : decode b_M_bump 164 = .ok (.iload 10, 2) := by decide +kernel
theorem d_M_bump_166 : decode b_M_bump 166 = .ok (.baload, 1) := by decide +kernel
theorem d_M_bump_167 : decode b_M_bump 167 = .ok (.ifCond .ne 21, 3) := by decide +kernel
theorem d_M_bump_170 : decode b_M_bump 170 = .ok (.aload_n 0, 1) := by decide +kernel
theorem d_M_bump_171 : decode b_M_bump 171 = .ok (.iload 10, 2) := by decide +kernel
theorem d_M_bump_173 : decode b_M_bump 173 = .ok (.iload_n 2, 1) := by decide +kernel
theorem d_M_bump_174 : decode b_M_bump 174 = .ok (.invokevirtual 102, 3) := by decide +kernel
theorem d_M_bump_177 : decode b_M_bump 177 = .ok (.ifCond .eq 11, 3) := by decide +kernel
theorem d_M_bump_180 : decode b_M_bump 180 = .ok (.aload_n 0, 1) := by decide +kernel
theorem d_M_bump_181 : decode b_M_bump 181 = .ok (.getfield 20, 3) := by decide +kernel
theorem d_M_bump_184 : decode b_M_bump 184 = .ok (.iload 10, 2) := by decide +kernel
theorem d_M_bump_186 : decode b_M_bump 186 = .ok (.iconst 0, 1) := by decide +kernel
theorem d_M_bump_187 : decode b_M_bump 187 = .ok (.bastore, 1) := by decide +kernel
theorem d_M_bump_188 : decode b_M_bump 188 = .ok (.iinc 10 1, 3) := by decide +kernel
theorem d_M_bump_191 : decode b_M_bump 191 = .ok (.goto (-50), 3) := by decide +kernel
theorem d_M_bump_194 : decode b_M_bump 194 = .ok (.aload_n 0, 1) := by decide +kernel
theorem d_M_bump_195 : decode b_M_bump 195 = .ok (.iload_n 1, 1) := by decide +kernel
theorem d_M_bump_196 : decode b_M_bump 196 = .ok (.invokevirtual 206, 3) := by decide +kernel
theorem d_M_bump_199 : decode b_M_bump 199 = .ok (.istore 5, 2) := by decide +kernel
theorem d_M_bump_201 : decode b_M_bump 201 = .ok (.aload_n 0, 1) := by decide +kernel
theorem d_M_bump_202 : decode b_M_bump 202 = .ok (.getfield 16, 3) := by decide +kernel
theorem d_M_bump_205 : decode b_M_bump 205 = .ok (.iload_n 1, 1) := by decide +kernel
theorem d_M_bump_206 : decode b_M_bump 206 = .ok (.laload, 1) := by decide +kernel
theorem d_M_bump_207 : decode b_M_bump 207 = .ok (.lstore 8, 2) := by decide +kernel
theorem d_M_bump_209 : decode b_M_bump 209 = .ok (.iconst 0, 1) := by decide +kernel
theorem d_M_bump_210 : decode b_M_bump 210 = .ok (.istore 10, 2) := by decide +kernel
theorem d_M_bump_212 : decode b_M_bump 212 = .ok (.iload 10, 2) := by decide +kernel
theorem d_M_bump_214 : decode b_M_bump 214 = .ok (.aload_n 0, 1) := by decide +kernel
theorem d_M_bump_215 : decode b_M_bump 215 = .ok (.getfield 79, 3) := by decide +kernel
theorem d_M_bump_218 : decode b_M_bump 218 = .ok (.if_icmp .ge 37, 3) := by decide +kernel
theorem d_M_bump_221 : decode b_M_bump 221 = .ok (.aload_n 0, 1) := by decide +kernel
theorem d_M_bump_222 : decode b_M_bump 222 = .ok (.getfield 16, 3) := by decide +kernel
theorem d_M_bump_225 : decode b_M_bump 225 = .ok (.iload 10, 2) := by decide +kernel
theorem d_M_bump_227 : decode b_M_bump 227 = .ok (.aload_n 0, 1) := by decide +kernel
theorem d_M_bump_228 : decode b_M_bump 228 = .ok (.getfield 63, 3) := by decide +kernel
theorem d_M_bump_231 : decode b_M_bump 231 = .ok (.iload 10, 2) := by decide +kernel
theorem d_M_bump_233 : decode b_M_bump 233 = .ok (.laload, 1) := by decide +kernel
theorem d_M_bump_234 : decode b_M_bump 234 = .ok (.lastore, 1) := by decide +kernel
theorem d_M_bump_235 : decode b_M_bump 235 = .ok (.aload_n 0, 1) := by decide +kernel
theorem d_M_bump_236 : decode b_M_bump 236 = .ok (.getfield 20, 3) := by decide +kernel
theorem d_M_bump_239 : decode b_M_bump 239 = .ok (.iload 10, 2) := by decide +kernel
theorem d_M_bump_241 : decode b_M_bump 241 = .ok (.aload_n 0, 1) := by decide +kernel
theorem d_M_bump_242 : decode b_M_bump 242 = .ok (.getfield 66, 3) := by decide +kernel
theorem d_M_bump_245 : decode b_M_bump 245 = .ok (.iload 10, 2) := by decide +kernel
theorem d_M_bump_247 : decode b_M_bump 247 = .ok (.baload, 1) := by decide +kernel
theorem d_M_bump_248 : decode b_M_bump 248 = .ok (.bastore, 1) := by decide +kernel
theorem d_M_bump_249 : decode b_M_bump 249 = .ok (.iinc 10 1, 3) := by decide +kernel
theorem d_M_bump_252 : decode b_M_bump 252 = .ok (.goto (-40), 3) := by decide +kernel
theorem d_M_bump_255 : decode b_M_bump 255 = .ok (.iload 5, 2) := by decide +kernel
theorem d_M_bump_257 : decode b_M_bump 257 = .ok (.ifCond .eq 14, 3) := by decide +kernel
theorem d_M_bump_260 : decode b_M_bump 260 = .ok (.lload 8, 2) := by decide +kernel
theorem d_M_bump_262 : decode b_M_bump 262 = .ok (.lload 6, 2) := by decide +kernel
theorem d_M_bump_264 : decode b_M_bump 264 = .ok (.lsub, 1) := by decide +kernel
theorem d_M_bump_265 : decode b_M_bump 265 = .ok (.l2d, 1) := by decide +kernel
theorem d_M_bump_266 : decode b_M_bump 266 = .ok (.ldc2_w 94, 3) := by decide +kernel
theorem d_M_bump_269 : decode b_M_bump 269 = .ok (.ddiv, 1) := by decide +kernel
theorem d_M_bump_270 : decode b_M_bump 270 = .ok (.dreturn, 1) := by decide +kernel
theorem d_M_bump_271 : decode b_M_bump 271 = .ok (.aload_n 0, 1) := by decide +kernel
theorem d_M_bump_272 : decode b_M_bump 272 = .ok (.aload_n 0, 1) := by decide +kernel
theorem d_M_bump_273 : decode b_M_bump 273 = .ok (.getfield 127, 3) := by decide +kernel
theorem d_M_bump_276 : decode b_M_bump 276 = .ok (.putfield 75, 3) := by decide +kernel
theorem d_M_bump_279 : decode b_M_bump 279 = .ok (.aload_n 0, 1) := by decide +kernel
theorem d_M_bump_280 : decode b_M_bump 280 = .ok (.dup, 1) := by decide +kernel
theorem d_M_bump_281 : decode b_M_bump 281 = .ok (.getfield 209, 3) := by decide +kernel
theorem d_M_bump_284 : decode b_M_bump 284 = .ok (.iconst 1, 1) := by decide +kernel
theorem d_M_bump_285 : decode b_M_bump 285 = .ok (.iadd, 1) := by decide +kernel
theorem d_M_bump_286 : decode b_M_bump 286 = .ok (.putfield 209, 3) := by decide +kernel
theorem d_M_bump_289 : decode b_M_bump 289 = .ok (.dconst 0, 1) := by decide +kernel
theorem d_M_bump_290 : decode b_M_bump 290 = .ok (.dreturn, 1) := by decide +kernel
theorem d_M_count_0 : decode b_M_count 0 = .ok (.aload_n 0, 1) := by decide +kernel
theorem d_M_count_1 : decode b_M_count 1 = .ok (.iconst 0, 1) := by decide +kernel
theorem d_M_count_2 : decode b_M_count 2 = .ok (.putfield 75, 3) := by decide +kernel
theorem d_M_count_5 : decode b_M_count 5 = .ok (.iload_n 1, 1) := by decide +kernel
theorem d_M_count_6 : decode b_M_count 6 = .ok (.ifCond .ne 8, 3) := by decide +kernel
theorem d_M_count_9 : decode b_M_count 9 = .ok (.aload_n 0, 1) := by decide +kernel
theorem d_M_count_10 : decode b_M_count 10 = .ok (.getfield 79, 3) := by decide +kernel
theorem d_M_count_13 : decode b_M_count 13 = .ok (.ireturn, 1) := by decide +kernel
theorem d_M_count_14 : decode b_M_count 14 = .ok (.iload_n 1, 1) := by decide +kernel
theorem d_M_count_15 : decode b_M_count 15 = .ok (.iconst 1, 1) := by decide +kernel
theorem d_M_count_16 : decode b_M_count 16 = .ok (.if_icmp .ne 8, 3) := by decide +kernel
theorem d_M_count_19 : decode b_M_count 19 = .ok (.aload_n 0, 1) := by decide +kernel
theorem d_M_count_20 : decode b_M_count 20 = .ok (.getfield 106, 3) := by decide +kernel
theorem d_M_count_23 : decode b_M_count 23 = .ok (.ireturn, 1) := by decide +kernel
theorem d_M_count_24 : decode b_M_count 24 = .ok (.iload_n 1, 1) := by decide +kernel
theorem d_M_count_25 : decode b_M_count 25 = .ok (.iconst 2, 1) := by decide +kernel
theorem d_M_count_26 : decode b_M_count 26 = .ok (.if_icmp .ne 8, 3) := by decide +kernel
theorem d_M_count_29 : decode b_M_count 29 = .ok (.aload_n 0, 1) := by decide +kernel
theorem d_M_count_30 : decode b_M_count 30 = .ok (.getfield 203, 3) := by decide +kernel
theorem d_M_count_33 : decode b_M_count 33 = .ok (.ireturn, 1) := by decide +kernel
theorem d_M_count_34 : decode b_M_count 34 = .ok (.iload_n 1, 1) := by decide +kernel
theorem d_M_count_35 : decode b_M_count 35 = .ok (.iconst 3, 1) := by decide +kernel
theorem d_M_count_36 : decode b_M_count 36 = .ok (.if_icmp .ne 10, 3) := by decide +kernel
theorem d_M_count_39 : decode b_M_count 39 = .ok (.aload_n 0, 1) := by decide +kernel
theorem d_M_count_40 : decode b_M_count 40 = .ok (.getfield 209, 3) := by decide +kernel
theorem d_M_count_43 : decode b_M_count 43 = .ok (.goto 4, 3) := by decide +kernel
theorem d_M_count_46 : decode b_M_count 46 = .ok (.iconst (-1), 1) := by decide +kernel
theorem d_M_count_47 : decode b_M_count 47 = .ok (.ireturn, 1) := by decide +kernel
theorem d_M_create_0 : decode b_M_create 0 = .ok (.aload_n 0, 1) := by decide +kernel
theorem d_M_create_1 : decode b_M_create 1 = .ok (.getfield 7, 3) := by decide +kernel
theorem d_M_create_4 : decode b_M_create 4 = .ok (.aload_n 0, 1) := by decide +kernel
theorem d_M_create_5 : decode b_M_create 5 = .ok (.getfield 79, 3) := by decide +kernel
theorem d_M_create_8 : decode b_M_create 8 = .ok (.iload_n 1, 1) := by decide +kernel
theorem d_M_create_9 : decode b_M_create 9 = .ok (.iastore, 1) := by decide +kernel
theorem d_M_create_10 : decode b_M_create 10 = .ok (.iconst 0, 1) := by decide +kernel
theorem d_M_create_11 : decode b_M_create 11 = .ok (.istore 4, 2) := by decide +kernel
theorem d_M_create_13 : decode b_M_create 13 = .ok (.iload 4, 2) := by decide +kernel
theorem d_M_create_15 : decode b_M_create 15 = .ok (.iconst 4, 1) := by decide +kernel
theorem d_M_create_16 : decode b_M_create 16 = .ok (.if_icmp .ge 24, 3) := by decide +kernel
theorem d_M_create_19 : decode b_M_create 19 = .ok (.aload_n 0, 1) := by decide +kernel
theorem d_M_create_20 : decode b_M_create 20 = .ok (.getfield 13, 3) := by decide +kernel
theorem d_M_create_23 : decode b_M_create 23 = .ok (.aload_n 0, 1) := by decide +kernel
theorem d_M_create_24 : decode b_M_create 24 = .ok (.getfield 79, 3) := by decide +kernel
theorem d_M_create_27 : decode b_M_create 27 = .ok (.iconst 4, 1) := by decide +kernel
theorem d_M_create_28 : decode b_M_create 28 = .ok (.imul, 1) := by decide +kernel
theorem d_M_create_29 : decode b_M_create 29 = .ok (.iload 4, 2) := by decide +kernel
theorem d_M_create_31 : decode b_M_create 31 = .ok (.iadd, 1) := by decide +kernel
theorem d_M_create_32 : decode b_M_create 32 = .ok (.iconst (-1), 1) := by decide +kernel
theorem d_M_create_33 : decode b_M_create 33 = .ok (.iastore, 1) := by decide +kernel
theorem d_M_create_34 : decode b_M_create 34 = .ok (.iinc 4 1, 3) := by decide +kernel
theorem d_M_create_37 : decode b_M_create 37 = .ok (.goto (-24), 3) := by decide +kernel
theorem d_M_create_40 : decode b_M_create 40 = .ok (.aload_n 0, 1) := by decide +kernel
theorem d_M_create_41 : decode b_M_create 41 = .ok (.getfield 13, 3) := by decide +kernel
theorem d_M_create_44 : decode b_M_create 44 = .ok (.aload_n 0, 1) := by decide +kernel
theorem d_M_create_45 : decode b_M_create 45 = .ok (.getfield 79, 3) := by decide +kernel
theorem d_M_create_48 : decode b_M_create 48 = .ok (.iconst 4, 1) := by decide +kernel
theorem d_M_create_49 : decode b_M_create 49 = .ok (.imul, 1) := by decide +kernel
theorem d_M_create_50 : decode b_M_create 50 = .ok (.iload_n 2, 1) := by decide +kernel
theorem d_M_create_51 : decode b_M_create 51 = .ok (.iastore, 1) := by decide +kernel
theorem d_M_create_52 : decode b_M_create 52 = .ok (.aload_n 0, 1) := by decide +kernel
theorem d_M_create_53 : decode b_M_create 53 = .ok (.getfield 13, 3) := by decide +kernel
theorem d_M_create_56 : decode b_M_create 56 = .ok (.aload_n 0, 1) := by decide +kernel
theorem d_M_create_57 : decode b_M_create 57 = .ok (.getfield 79, 3) := by decide +kernel
theorem d_M_create_60 : decode b_M_create 60 = .ok (.iconst 4, 1) := by decide +kernel
theorem d_M_create_61 : decode b_M_create 61 = .ok (.imul, 1) := by decide +kernel
theorem d_M_create_62 : decode b_M_create 62 = .ok (.iconst 1, 1) := by decide +kernel
theorem d_M_create_63 : decode b_M_create 63 = .ok (.iadd, 1) := by decide +kernel
theorem d_M_create_64 : decode b_M_create 64 = .ok (.iload_n 3, 1) := by decide +kernel
theorem d_M_create_65 : decode b_M_create 65 = .ok (.iastore, 1) := by decide +kernel
theorem d_M_create_66 : decode b_M_create 66 = .ok (.aload_n 0, 1) := by decide +kernel
theorem d_M_create_67 : decode b_M_create 67 = .ok (.getfield 20, 3) := by decide +kernel
theorem d_M_create_70 : decode b_M_create 70 = .ok (.aload_n 0, 1) := by decide +kernel
theorem d_M_create_71 : decode b_M_create 71 = .ok (.getfield 79, 3) := by decide +kernel
theorem d_M_create_74 : decode b_M_create 74 = .ok (.iload_n 1, 1) := by decide +kernel
theorem d_M_create_75 : decode b_M_create 75 = .ok (.ifCond .ne 7, 3) := by decide +kernel
theorem d_M_create_78 : decode b_M_create 78 = .ok (.iconst 1, 1) := by decide +kernel
theorem d_M_create_79 : decode b_M_create 79 = .ok (.goto 4, 3) := by decide +kernel
theorem d_M_create_82 : decode b_M_create 82 = .ok (.iconst 0, 1) := by decide +kernel
theorem d_M_create_83 : decode b_M_create 83 = .ok (.bastore, 1) := by decide +kernel
theorem d_M_create_84 : decode b_M_create 84 = .ok (.aload_n 0, 1) := by decide +kernel
theorem d_M_create_85 : decode b_M_create 85 = .ok (.getfield 45, 3) := by decide +kernel
theorem d_M_create_88 : decode b_M_create 88 = .ok (.aload_n 0, 1) := by decide +kernel
theorem d_M_create_89 : decode b_M_create 89 = .ok (.getfield 79, 3) := by decide +kernel
theorem d_M_create_92 : decode b_M_create 92 = .ok (.bipush 8, 2) := by decide +kernel
theorem d_M_create_94 : decode b_M_create 94 = .ok (.iastore, 1) := by decide +kernel
theorem d_M_create_95 : decode b_M_create 95 = .ok (.aload_n 0, 1) := by decide +kernel
theorem d_M_create_96 : decode b_M_create 96 = .ok (.dup, 1) := by decide +kernel
theorem d_M_create_97 : decode b_M_create 97 = .ok (.getfield 79, 3) := by decide +kernel
theorem d_M_create_100 : decode b_M_create 100 = .ok (.iconst 1, 1) := by decide +kernel
theorem d_M_create_101 : decode b_M_create 101 = .ok (.iadd, 1) := by decide +kernel
theorem d_M_create_102 : decode b_M_create 102 = .ok (.putfield 79, 3) := by decide +kernel
theorem d_M_create_105 : decode b_M_create 105 = .ok (.aload_n 0, 1) := by decide +kernel
theorem d_M_create_106 : decode b_M_create 106 = .ok (.getfield 79, 3) := by decide +kernel
theorem d_M_create_109 : decode b_M_create 109 = .ok (.iconst 1, 1) := by decide +kernel
theorem d_M_create_110 : decode b_M_create 110 = .ok (.isub, 1) := by decide +kernel
theorem d_M_create_111 : decode b_M_create 111 = .ok (.ireturn, 1) := by decide +kernel
theorem d_M_earlier_0 : decode b_M_earlier 0 = .ok (.aload_n 0, 1) := by decide +kernel
theorem d_M_earlier_1 : decode b_M_earlier 1 = .ok (.aload_n 0, 1) := by decide +kernel
theorem d_M_earlier_2 : decode b_M_earlier 2 = .ok (.aload_n 0, 1) := by decide +kernel
theorem d_M_earlier_3 : decode b_M_earlier 3 = .ok (.getfield 139, 3) := by decide +kernel
theorem d_M_earlier_6 : decode b_M_earlier 6 = .ok (.lload_n 1, 1) := by decide +kernel
theorem d_M_earlier_7 : decode b_M_earlier 7 = .ok (.lmul, 1) := by decide +kernel
theorem d_M_earlier_8 : decode b_M_earlier 8 = .ok (.ldc2_w 142, 3) := by decide +kernel
theorem d_M_earlier_11 : decode b_M_earlier 11 = .ok (.ladd, 1) := by decide +kernel
theorem d_M_earlier_12 : decode b_M_earlier 12 = .ok (.ldc2_w 144, 3) := by decide +kernel
theorem d_M_earlier_15 : decode b_M_earlier 15 = .ok (.invokevirtual 146, 3) := by decide +kernel
theorem d_M_earlier_18 : decode b_M_earlier 18 = .ok (.invokevirtual 150, 3) := by decide +kernel
theorem d_M_earlier_21 : decode b_M_earlier 21 = .ok (.lstore 5, 2) := by decide +kernel
theorem d_M_earlier_23 : decode b_M_earlier 23 = .ok (.aload_n 0, 1) := by decide +kernel
theorem d_M_earlier_24 : decode b_M_earlier 24 = .ok (.getfield 13, 3) := by decide +kernel
theorem d_M_earlier_27 : decode b_M_earlier 27 = .ok (.aload_n 0, 1) := by decide +kernel
theorem d_M_earlier_28 : decode b_M_earlier 28 = .ok (.getfield 130, 3) := by decide +kernel
theorem d_M_earlier_31 : decode b_M_earlier 31 = .ok (.iconst 4, 1) := by decide +kernel
theorem d_M_earlier_32 : decode b_M_earlier 32 = .ok (.imul, 1) := by decide +kernel
theorem d_M_earlier_33 : decode b_M_earlier 33 = .ok (.iconst 3, 1) := by decide +kernel
theorem d_M_earlier_34 : decode b_M_earlier 34 = .ok (.iadd, 1) := by decide +kernel
theorem d_M_earlier_35 : decode b_M_earlier 35 = .ok (.iaload, 1) := by decide +kernel
theorem d_M_earlier_36 : decode b_M_earlier 36 = .ok (.ifCond .lt 14, 3) := by decide +kernel
theorem d_M_earlier_39 : decode b_M_earlier 39 = .ok (.lload_n 3, 1) := by decide +kernel
theorem d_M_earlier_40 : decode b_M_earlier 40 = .ok (.aload_n 0, 1) := by decide +kernel
theorem d_M_earlier_41 : decode b_M_earlier 41 = .ok (.getfield 133, 3) := by decide +kernel
theorem d_M_earlier_44 : decode b_M_earlier 44 = .ok (.lcmp, 1) := by decide +kernel
theorem d_M_earlier_45 : decode b_M_earlier 45 = .ok (.ifCond .lt 5, 3) := by decide +kernel
theorem d_M_earlier_48 : decode b_M_earlier 48 = .ok (.lconst 0, 1) := by decide +kernel
theorem d_M_earlier_49 : decode b_M_earlier 49 = .ok (.lreturn, 1) := by decide +kernel
theorem d_M_earlier_50 : decode b_M_earlier 50 = .ok (.aload_n 0, 1) := by decide +kernel
theorem d_M_earlier_51 : decode b_M_earlier 51 = .ok (.lload_n 3, 1) := by decide +kernel
theorem d_M_earlier_52 : decode b_M_earlier 52 = .ok (.invokevirtual 154, 3) := by decide +kernel
theorem d_M_earlier_55 : decode b_M_earlier 55 = .ok (.lstore 7, 2) := by decide +kernel
theorem d_M_earlier_57 : decode b_M_earlier 57 = .ok (.aload_n 0, 1) := by decide +kernel
theorem d_M_earlier_58 : decode b_M_earlier 58 = .ok (.getfield 48, 3) := by decide +kernel
theorem d_M_earlier_61 : decode b_M_earlier 61 = .ok (.aload_n 0, 1) := by decide +kernel
theorem d_M_earlier_62 : decode b_M_earlier 62 = .ok (.getfield 130, 3) := by decide +kernel
theorem d_M_earlier_65 : decode b_M_earlier 65 = .ok (.baload, 1) := by decide +kernel
theorem d_M_earlier_66 : decode b_M_earlier 66 = .ok (.ifCond .eq 16, 3) := by decide +kernel
theorem d_M_earlier_69 : decode b_M_earlier 69 = .ok (.lload 7, 2) := by decide +kernel
theorem d_M_earlier_71 : decode b_M_earlier 71 = .ok (.lload 5, 2) := by decide +kernel
theorem d_M_earlier_73 : decode b_M_earlier 73 = .ok (.lcmp, 1) := by decide +kernel
theorem d_M_earlier_74 : decode b_M_earlier 74 = .ok (.ifCond .le 8, 3) := by decide +kernel
theorem d_M_earlier_77 : decode b_M_earlier 77 = .ok (.lload 7, 2) := by decide +kernel
theorem d_M_earlier_79 : decode b_M_earlier 79 = .ok (.goto 5, 3) := by decide +kernel
theorem d_M_earlier_82 : decode b_M_earlier 82 = .ok (.lload 5, 2) := by decide +kernel
theorem d_M_earlier_84 : decode b_M_earlier 84 = .ok (.lreturn, 1) := by decide +kernel
theorem d_M_engine_0 : decode b_M_engine 0 = .ok (.iload_n 2, 1) := by decide +kernel
theorem d_M_engine_1 : decode b_M_engine 1 = .ok (.ifCond .ne 7, 3) := by decide +kernel
theorem d_M_engine_4 : decode b_M_engine 4 = .ok (.iload_n 3, 1) := by decide +kernel
theorem d_M_engine_5 : decode b_M_engine 5 = .ok (.ifCond .eq 34, 3) := by decide +kernel
theorem d_M_engine_8 : decode b_M_engine 8 = .ok (.iload_n 2, 1) := by decide +kernel
theorem d_M_engine_9 : decode b_M_engine 9 = .ok (.iconst 1, 1) := by decide +kernel
theorem d_M_engine_10 : decode b_M_engine 10 = .ok (.if_icmp .ne 13, 3) := by decide +kernel
theorem d_M_engine_13 : decode b_M_engine 13 = .ok (.iload_n 3, 1) := by decide +kernel
theorem d_M_engine_14 : decode b_M_engine 14 = .ok (.ifCond .lt 9, 3) := by decide +kernel
theorem d_M_engine_17 : decode b_M_engine 17 = .ok (.iload_n 3, 1) := by decide +kernel
theorem d_M_engine_18 : decode b_M_engine 18 = .ok (.bipush 6, 2) := by decide +kernel
theorem d_M_engine_20 : decode b_M_engine 20 = .ok (.if_icmp .le 19, 3) := by decide +kernel
theorem d_M_engine_23 : decode b_M_engine 23 = .ok (.iload_n 2, 1) := by decide +kernel
theorem d_M_engine_24 : decode b_M_engine 24 = .ok (.iconst 2, 1) := by decide +kernel
theorem d_M_engine_25 : decode b_M_engine 25 = .ok (.if_icmp .ne 18, 3) := by decide +kernel
theorem d_M_engine_28 : decode b_M_engine 28 = .ok (.iload_n 3, 1) := by decide +kernel
theorem d_M_engine_29 : decode b_M_engine 29 = .ok (.iconst 1, 1) := by decide +kernel
theorem d_M_engine_30 : decode b_M_engine 30 = .ok (.if_icmp .lt 13, 3) := by decide +kernel
theorem d_M_engine_33 : decode b_M_engine 33 = .ok (.iload_n 3, 1) := by decide +kernel
theorem d_M_engine_34 : decode b_M_engine 34 = .ok (.bipush 20, 2) := by decide +kernel
theorem d_M_engine_36 : decode b_M_engine 36 = .ok (.if_icmp .gt 7, 3) := by decide +kernel
theorem d_M_engine_39 : decode b_M_engine 39 = .ok (.iconst 1, 1) := by decide +kernel
theorem d_M_engine_40 : decode b_M_engine 40 = .ok (.goto 4, 3) := by decide +kernel
theorem d_M_engine_43 : decode b_M_engine 43 = .ok (.iconst 0, 1) := by decide +kernel
theorem d_M_engine_44 : decode b_M_engine 44 = .ok (.istore 4, 2) := by decide +kernel
theorem d_M_engine_46 : decode b_M_engine 46 = .ok (.aload_n 0, 1) := by decide +kernel
theorem d_M_engine_47 : decode b_M_engine 47 = .ok (.aload_n 0, 1) := by decide +kernel
theorem d_M_engine_48 : decode b_M_engine 48 = .ok (.iload_n 1, 1) := by decide +kernel
theorem d_M_engine_49 : decode b_M_engine 49 = .ok (.invokevirtual 113, 3) := by decide +kernel
theorem d_M_engine_52 : decode b_M_engine 52 = .ok (.ifCond .ne 8, 3) := by decide +kernel
theorem d_M_engine_55 : decode b_M_engine 55 = .ok (.iload 4, 2) := by decide +kernel
theorem d_M_engine_57 : decode b_M_engine 57 = .ok (.ifCond .ne 7, 3) := by decide +kernel
theorem d_M_engine_60 : decode b_M_engine 60 = .ok (.iconst 1, 1) := by decide +kernel
theorem d_M_engine_61 : decode b_M_engine 61 = .ok (.goto 17, 3) := by decide +kernel
theorem d_M_engine_64 : decode b_M_engine 64 = .ok (.aload_n 0, 1) := by decide +kernel
theorem d_M_engine_65 : decode b_M_engine 65 = .ok (.getfield 24, 3) := by decide +kernel
theorem d_M_engine_68 : decode b_M_engine 68 = .ok (.iload_n 1, 1) := by decide +kernel
theorem d_M_engine_69 : decode b_M_engine 69 = .ok (.baload, 1) := by decide +kernel
theorem d_M_engine_70 : decode b_M_engine 70 = .ok (.ifCond .eq 7, 3) := by decide +kernel
theorem d_M_engine_73 : decode b_M_engine 73 = .ok (.iconst 2, 1) := by decide +kernel
theorem d_M_engine_74 : decode b_M_engine 74 = .ok (.goto 4, 3) := by decide +kernel
theorem d_M_engine_77 : decode b_M_engine 77 = .ok (.iconst 0, 1) := by decide +kernel
theorem d_M_engine_78 : decode b_M_engine 78 = .ok (.putfield 75, 3) := by decide +kernel
theorem d_M_engine_81 : decode b_M_engine 81 = .ok (.aload_n 0, 1) := by decide +kernel
theorem d_M_engine_82 : decode b_M_engine 82 = .ok (.getfield 75, 3) := by decide +kernel
theorem d_M_engine_85 : decode b_M_engine 85 = .ok (.ifCond .eq 4, 3) := by decide +kernel
theorem d_M_engine_88 : decode b_M_engine 88 = .ok (.return_, 1) := by decide +kernel
theorem d_M_engine_89 : decode b_M_engine 89 = .ok (.aload_n 0, 1) := by decide +kernel
theorem d_M_engine_90 : decode b_M_engine 90 = .ok (.getfield 51, 3) := by decide +kernel
theorem d_M_engine_93 : decode b_M_engine 93 = .ok (.iload_n 1, 1) := by decide +kernel
theorem d_M_engine_94 : decode b_M_engine 94 = .ok (.iload_n 2, 1) := by decide +kernel
theorem d_M_engine_95 : decode b_M_engine 95 = .ok (.iastore, 1) := by decide +kernel
theorem d_M_engine_96 : decode b_M_engine 96 = .ok (.aload_n 0, 1) := by decide +kernel
theorem d_M_engine_97 : decode b_M_engine 97 = .ok (.getfield 54, 3) := by decide +kernel
theorem d_M_engine_100 : decode b_M_engine 100 = .ok (.iload_n 1, 1) := by decide +kernel
theorem d_M_engine_101 : decode b_M_engine 101 = .ok (.iload_n 3, 1) := by decide +kernel
theorem d_M_engine_102 : decode b_M_engine 102 = .ok (.iastore, 1) := by decide +kernel
theorem d_M_engine_103 : decode b_M_engine 103 = .ok (.aload_n 0, 1) := by decide +kernel
theorem d_M_engine_104 : decode b_M_engine 104 = .ok (.getfield 57, 3) := by decide +kernel
theorem d_M_engine_107 : decode b_M_engine 107 = .ok (.iconst 0, 1) := by decide +kernel
theorem d_M_engine_108 : decode b_M_engine 108 = .ok (.iload_n 1, 1) := by decide +kernel
theorem d_M_engine_109 : decode b_M_engine 109 = .ok (.iastore, 1) := by decide +kernel
theorem d_M_engine_110 : decode b_M_engine 110 = .ok (.aload_n 0, 1) := by decide +kernel
theorem d_M_engine_111 : decode b_M_engine 111 = .ok (.iconst 1, 1) := by decide +kernel
theorem d_M_engine_112 : decode b_M_engine 112 = .ok (.invokevirtual 119, 3) := by decide +kernel
theorem d_M_engine_115 : decode b_M_engine 115 = .ok (.return_, 1) := by decide +kernel
theorem d_M_far_0 : decode b_M_far 0 = .ok (.dload_n 1, 1) := by decide +kernel
theorem d_M_far_1 : decode b_M_far 1 = .ok (.dload_n 3, 1) := by decide +kernel
theorem d_M_far_2 : decode b_M_far 2 = .ok (.dneg, 1) := by decide +kernel
theorem d_M_far_3 : decode b_M_far 3 = .ok (.dcmp .l, 1) := by decide +kernel
theorem d_M_far_4 : decode b_M_far 4 = .ok (.ifCond .lt 25, 3) := by decide +kernel
theorem d_M_far_7 : decode b_M_far 7 = .ok (.dload_n 1, 1) := by decide +kernel
theorem d_M_far_8 : decode b_M_far 8 = .ok (.dload_n 3, 1) := by decide +kernel
theorem d_M_far_9 : decode b_M_far 9 = .ok (.dcmp .g, 1) := by decide +kernel
theorem d_M_far_10 : decode b_M_far 10 = .ok (.ifCond .gt 19, 3) := by decide +kernel
theorem d_M_far_13 : decode b_M_far 13 = .ok (.dload_n 1, 1) := by decide +kernel
theorem d_M_far_14 : decode b_M_far 14 = .ok (.ldc2_w 82, 3) := by decide +kernel
theorem d_M_far_17 : decode b_M_far 17 = .ok (.dmul, 1) := by decide +kernel
theorem d_M_far_18 : decode b_M_far 18 = .ok (.dload_n 1, 1) := by decide +kernel
theorem d_M_far_19 : decode b_M_far 19 = .ok (.ldc2_w 82, 3) := by decide +kernel
theorem d_M_far_22 : decode b_M_far 22 = .ok (.dmul, 1) := by decide +kernel
theorem d_M_far_23 : decode b_M_far 23 = .ok (.d2l, 1) := by decide +kernel
theorem d_M_far_24 : decode b_M_far 24 = .ok (.l2d, 1) := by decide +kernel
theorem d_M_far_25 : decode b_M_far 25 = .ok (.dcmp .l, 1) := by decide +kernel
theorem d_M_far_26 : decode b_M_far 26 = .ok (.ifCond .eq 7, 3) := by decide +kernel
theorem d_M_far_29 : decode b_M_far 29 = .ok (.iconst 1, 1) := by decide +kernel
theorem d_M_far_30 : decode b_M_far 30 = .ok (.goto 4, 3) := by decide +kernel
theorem d_M_far_33 : decode b_M_far 33 = .ok (.iconst 0, 1) := by decide +kernel
theorem d_M_far_34 : decode b_M_far 34 = .ok (.ireturn, 1) := by decide +kernel
theorem d_M_floored_0 : decode b_M_floored 0 = .ok (.lload_n 1, 1) := by decide +kernel
theorem d_M_floored_1 : decode b_M_floored 1 = .ok (.lload_n 3, 1) := by decide +kernel
theorem d_M_floored_2 : decode b_M_floored 2 = .ok (.lrem, 1) := by decide +kernel
theorem d_M_floored_3 : decode b_M_floored 3 = .ok (.lconst 0, 1) := by decide +kernel
theorem d_M_floored_4 : decode b_M_floored 4 = .ok (.lcmp, 1) := by decide +kernel
theorem d_M_floored_5 : decode b_M_floored 5 = .ok (.ifCond .ge 11, 3) := by decide +kernel
theorem d_M_floored_8 : decode b_M_floored 8 = .ok (.lload_n 1, 1) := by decide +kernel
theorem d_M_floored_9 : decode b_M_floored 9 = .ok (.lload_n 3, 1) := by decide +kernel
theorem d_M_floored_10 : decode b_M_floored 10 = .ok (.ldiv, 1) := by decide +kernel
theorem d_M_floored_11 : decode b_M_floored 11 = .ok (.lconst 1, 1) := by decide +kernel
theorem d_M_floored_12 : decode b_M_floored 12 = .ok (.lsub, 1) := by decide +kernel
theorem d_M_floored_13 : decode b_M_floored 13 = .ok (.goto 6, 3) := by decide +kernel
theorem d_M_floored_16 : decode b_M_floored 16 = .ok (.lload_n 1, 1) := by decide +kernel
theorem d_M_floored_17 : decode b_M_floored 17 = .ok (.lload_n 3, 1) := by decide +kernel
theorem d_M_floored_18 : decode b_M_floored 18 = .ok (.ldiv, 1) := by decide +kernel
theorem d_M_floored_19 : decode b_M_floored 19 = .ok (.lreturn, 1) := by decide +kernel
theorem d_M_freeze_0 : decode b_M_freeze 0 = .ok (.aload_n 0, 1) := by decide +kernel
theorem d_M_freeze_1 : decode b_M_freeze 1 = .ok (.aload_n 0, 1) := by decide +kernel
theorem d_M_freeze_2 : decode b_M_freeze 2 = .ok (.iload_n 1, 1) := by decide +kernel
theorem d_M_freeze_3 : decode b_M_freeze 3 = .ok (.invokevirtual 96, 3) := by decide +kernel
theorem d_M_freeze_6 : decode b_M_freeze 6 = .ok (.ifCond .ne 12, 3) := by decide +kernel
theorem d_M_freeze_9 : decode b_M_freeze 9 = .ok (.aload_n 0, 1) := by decide +kernel
theorem d_M_freeze_10 : decode b_M_freeze 10 = .ok (.getfield 7, 3) := by decide +kernel
theorem d_M_freeze_13 : decode b_M_freeze 13 = .ok (.iload_n 1, 1) := by decide +kernel
theorem d_M_freeze_14 : decode b_M_freeze 14 = .ok (.iaload, 1) := by decide +kernel
theorem d_M_freeze_15 : decode b_M_freeze 15 = .ok (.ifCond .ne 7, 3) := by decide +kernel
theorem d_M_freeze_18 : decode b_M_freeze 18 = .ok (.iconst 1, 1) := by decide +kernel
theorem d_M_freeze_19 : decode b_M_freeze 19 = .ok (.goto 21, 3) := by decide +kernel
theorem d_M_freeze_22 : decode b_M_freeze 22 = .ok (.iload_n 2, 1) := by decide +kernel
theorem d_M_freeze_23 : decode b_M_freeze 23 = .ok (.ifCond .eq 16, 3) := by decide +kernel
theorem d_M_freeze_26 : decode b_M_freeze 26 = .ok (.aload_n 0, 1) := by decide +kernel
theorem d_M_freeze_27 : decode b_M_freeze 27 = .ok (.getfield 20, 3) := by decide +kernel
theorem d_M_freeze_30 : decode b_M_freeze 30 = .ok (.iload_n 1, 1) := by decide +kernel
theorem d_M_freeze_31 : decode b_M_freeze 31 = .ok (.baload, 1) := by decide +kernel
theorem d_M_freeze_32 : decode b_M_freeze 32 = .ok (.ifCond .ne 7, 3) := by decide +kernel
theorem d_M_freeze_35 : decode b_M_freeze 35 = .ok (.iconst 2, 1) := by decide +kernel
theorem d_M_freeze_36 : decode b_M_freeze 36 = .ok (.goto 4, 3) := by decide +kernel
theorem d_M_freeze_39 : decode b_M_freeze 39 = .ok (.iconst 0, 1) := by decide +kernel
theorem d_M_freeze_40 : decode b_M_freeze 40 = .ok (.putfield 75, 3) := by decide +kernel
theorem d_M_freeze_43 : decode b_M_freeze 43 = .ok (.aload_n 0, 1) := by decide +kernel
theorem d_M_freeze_44 : decode b_M_freeze 44 = .ok (.getfield 75, 3) := by decide +kernel
theorem d_M_freeze_47 : decode b_M_freeze 47 = .ok (.ifCond .ne 13, 3) := by decide +kernel
theorem d_M_freeze_50 : decode b_M_freeze 50 = .ok (.aload_n 0, 1) := by decide +kernel
theorem d_M_freeze_51 : decode b_M_freeze 51 = .ok (.getfield 24, 3) := by decide +kernel
theorem d_M_freeze_54 : decode b_M_freeze 54 = .ok (.iload_n 1, 1) := by decide +kernel
theorem d_M_freeze_55 : decode b_M_freeze 55 = .ok (.baload, 1) := by decide +kernel
theorem d_M_freeze_56 : decode b_M_freeze 56 = .ok (.iload_n 2, 1) := by decide +kernel
theorem d_M_freeze_57 : decode b_M_freeze 57 = .ok (.if_icmp .ne 4, 3) := by decide +kernel
theorem d_M_freeze_60 : decode b_M_freeze 60 = .ok (.return_, 1) := by decide +kernel
theorem d_M_freeze_61 : decode b_M_freeze 61 = .ok (.aload_n 0, 1) := by decide +kernel
theorem d_M_freeze_62 : decode b_M_freeze 62 = .ok (.getfield 24, 3) := by decide +kernel
theorem d_M_freeze_65 : decode b_M_freeze 65 = .ok (.iload_n 1, 1) := by decide +kernel
theorem d_M_freeze_66 : decode b_M_freeze 66 = .ok (.iload_n 2, 1) := by decide +kernel
theorem d_M_freeze_67 : decode b_M_freeze 67 = .ok (.bastore, 1) := by decide +kernel
theorem d_M_freeze_68 : decode b_M_freeze 68 = .ok (.iload_n 2, 1) := by decide +kernel
theorem d_M_freeze_69 : decode b_M_freeze 69 = .ok (.ifCond .ne 12, 3) := by decide +kernel
theorem d_M_freeze_72 : decode b_M_freeze 72 = .ok (.aload_n 0, 1) := by decide +kernel
theorem d_M_freeze_73 : decode b_M_freeze 73 = .ok (.getfield 27, 3) := by decide +kernel
theorem d_M_freeze_76 : decode b_M_freeze 76 = .ok (.iload_n 1, 1) := by decide +kernel
theorem d_M_freeze_77 : decode b_M_freeze 77 = .ok (.baload, 1) := by decide +kernel
theorem d_M_freeze_78 : decode b_M_freeze 78 = .ok (.ifCond .ne 4, 3) := by decide +kernel
theorem d_M_freeze_81 : decode b_M_freeze 81 = .ok (.return_, 1) := by decide +kernel
theorem d_M_freeze_82 : decode b_M_freeze 82 = .ok (.aload_n 0, 1) := by decide +kernel
theorem d_M_freeze_83 : decode b_M_freeze 83 = .ok (.getfield 27, 3) := by decide +kernel
theorem d_M_freeze_86 : decode b_M_freeze 86 = .ok (.iload_n 1, 1) := by decide +kernel
theorem d_M_freeze_87 : decode b_M_freeze 87 = .ok (.iconst 0, 1) := by decide +kernel
theorem d_M_freeze_88 : decode b_M_freeze 88 = .ok (.bastore, 1) := by decide +kernel
theorem d_M_freeze_89 : decode b_M_freeze 89 = .ok (.aload_n 0, 1) := by decide +kernel
theorem d_M_freeze_90 : decode b_M_freeze 90 = .ok (.getfield 57, 3) := by decide +kernel
theorem d_M_freeze_93 : decode b_M_freeze 93 = .ok (.iconst 0, 1) := by decide +kernel
theorem d_M_freeze_94 : decode b_M_freeze 94 = .ok (.iload_n 1, 1) := by decide +kernel
theorem d_M_freeze_95 : decode b_M_freeze 95 = .ok (.iastore, 1) := by decide +kernel
theorem d_M_freeze_96 : decode b_M_freeze 96 = .ok (.aload_n 0, 1) := by decide +kernel
theorem d_M_freeze_97 : decode b_M_freeze 97 = .ok (.iconst 1, 1) := by decide +kernel
theorem d_M_freeze_98 : decode b_M_freeze 98 = .ok (.invokevirtual 119, 3) := by decide +kernel
theorem d_M_freeze_101 : decode b_M_freeze 101 = .ok (.return_, 1) := by decide +kernel
theorem d_M_greater_0 : decode b_M_greater 0 = .ok (.aload_n 0, 1) := by decide +kernel
theorem d_M_greater_1 : decode b_M_greater 1 = .ok (.aload_n 0, 1) := by decide +kernel
theorem d_M_greater_2 : decode b_M_greater 2 = .ok (.iload_n 1, 1) := by decide +kernel
theorem d_M_greater_3 : decode b_M_greater 3 = .ok (.invokevirtual 96, 3) := by decide +kernel
theorem d_M_greater_6 : decode b_M_greater 6 = .ok (.ifCond .ne 11, 3) := by decide +kernel
theorem d_M_greater_9 : decode b_M_greater 9 = .ok (.aload_n 0, 1) := by decide +kernel
theorem d_M_greater_10 : decode b_M_greater 10 = .ok (.iload_n 2, 1) := by decide +kernel
theorem d_M_greater_11 : decode b_M_greater 11 = .ok (.invokevirtual 96, 3) := by decide +kernel
theorem d_M_greater_14 : decode b_M_greater 14 = .ok (.ifCond .eq 7, 3) := by decide +kernel
theorem d_M_greater_17 : decode b_M_greater 17 = .ok (.iconst 1, 1) := by decide +kernel
theorem d_M_greater_18 : decode b_M_greater 18 = .ok (.goto 17, 3) := by decide +kernel
theorem d_M_greater_21 : decode b_M_greater 21 = .ok (.aload_n 0, 1) := by decide +kernel
theorem d_M_greater_22 : decode b_M_greater 22 = .ok (.getfield 79, 3) := by decide +kernel
theorem d_M_greater_25 : decode b_M_greater 25 = .ok (.bipush 16, 2) := by decide +kernel
theorem d_M_greater_27 : decode b_M_greater 27 = .ok (.if_icmp .ne 7, 3) := by decide +kernel
theorem d_M_greater_30 : decode b_M_greater 30 = .ok (.iconst 2, 1) := by decide +kernel
theorem d_M_greater_31 : decode b_M_greater 31 = .ok (.goto 4, 3) := by decide +kernel
theorem d_M_greater_34 : decode b_M_greater 34 = .ok (.iconst 0, 1) := by decide +kernel
theorem d_M_greater_35 : decode b_M_greater 35 = .ok (.putfield 75, 3) := by decide +kernel
theorem d_M_greater_38 : decode b_M_greater 38 = .ok (.aload_n 0, 1) := by decide +kernel
theorem d_M_greater_39 : decode b_M_greater 39 = .ok (.getfield 75, 3) := by decide +kernel
theorem d_M_greater_42 : decode b_M_greater 42 = .ok (.ifCond .eq 7, 3) := by decide +kernel
theorem d_M_greater_45 : decode b_M_greater 45 = .ok (.iconst 0, 1) := by decide +kernel
theorem d_M_greater_46 : decode b_M_greater 46 = .ok (.goto 10, 3) := by decide +kernel
theorem d_M_greater_49 : decode b_M_greater 49 = .ok (.aload_n 0, 1) := by decide +kernel
theorem d_M_greater_50 : decode b_M_greater 50 = .ok (.iconst 2, 1) := by decide +kernel
theorem d_M_greater_51 : decode b_M_greater 51 = .ok (.iload_n 1, 1) := by decide +kernel
theorem d_M_greater_52 : decode b_M_greater 52 = .ok (.iload_n 2, 1) := by decide +kernel
theorem d_M_greater_53 : decode b_M_greater 53 = .ok (.invokevirtual 90, 3) := by decide +kernel
theorem d_M_greater_56 : decode b_M_greater 56 = .ok (.ireturn, 1) := by decide +kernel
theorem d_M_hangs_0 : decode b_M_hangs 0 = .ok (.iconst 0, 1) := by decide +kernel
theorem d_M_hangs_1 : decode b_M_hangs 1 = .ok (.istore_n 3, 1) := by decide +kernel
theorem d_M_hangs_2 : decode b_M_hangs 2 = .ok (.iconst 0, 1) := by decide +kernel
theorem d_M_hangs_3 : decode b_M_hangs 3 = .ok (.istore 4, 2) := by decide +kernel
theorem d_M_hangs_5 : decode b_M_hangs 5 = .ok (.iload 4, 2) := by decide +kernel
theorem d_M_hangs_7 : decode b_M_hangs 7 = .ok (.bipush 16, 2) := by decide +kernel
theorem d_M_hangs_9 : decode b_M_hangs 9 = .ok (.if_icmp .ge 89, 3) := by decide +kernel
theorem d_M_hangs_12 : decode b_M_hangs 12 = .ok (.iconst 0, 1) := by decide +kernel
theorem d_M_hangs_13 : decode b_M_hangs 13 = .ok (.istore 5, 2) := by decide +kernel
theorem d_M_hangs_15 : decode b_M_hangs 15 = .ok (.iload 5, 2) := by decide +kernel
theorem d_M_hangs_17 : decode b_M_hangs 17 = .ok (.aload_n 0, 1) := by decide +kernel
theorem d_M_hangs_18 : decode b_M_hangs 18 = .ok (.getfield 79, 3) := by decide +kernel
theorem d_M_hangs_21 : decode b_M_hangs 21 = .ok (.if_icmp .ge 71, 3) := by decide +kernel
theorem d_M_hangs_24 : decode b_M_hangs 24 = .ok (.iconst 0, 1) := by decide +kernel
theorem d_M_hangs_25 : decode b_M_hangs 25 = .ok (.istore 6, 2) := by decide +kernel
theorem d_M_hangs_27 : decode b_M_hangs 27 = .ok (.iload 6, 2) := by decide +kernel
theorem d_M_hangs_29 : decode b_M_hangs 29 = .ok (.iconst 4, 1) := by decide +kernel
theorem d_M_hangs_30 : decode b_M_hangs 30 = .ok (.if_icmp .ge 56, 3) := by decide +kernel
theorem d_M_hangs_33 : decode b_M_hangs 33 = .ok (.iload 5, 2) := by decide +kernel
theorem d_M_hangs_35 : decode b_M_hangs 35 = .ok (.iload_n 1, 1) := by decide +kernel
theorem d_M_hangs_36 : decode b_M_hangs 36 = .ok (.if_icmp .eq 12, 3) := by decide +kernel
theorem d_M_hangs_39 : decode b_M_hangs 39 = .ok (.iload_n 3, 1) := by decide +kernel
theorem d_M_hangs_40 : decode b_M_hangs 40 = .ok (.iload 5, 2) := by decide +kernel
theorem d_M_hangs_42 : decode b_M_hangs 42 = .ok (.ishr, 1) := by decide +kernel
theorem d_M_hangs_43 : decode b_M_hangs 43 = .ok (.iconst 1, 1) := by decide +kernel
theorem d_M_hangs_44 : decode b_M_hangs 44 = .ok (.iand, 1) := by decide +kernel
theorem d_M_hangs_45 : decode b_M_hangs 45 = .ok (.ifCond .eq 35, 3) := by decide +kernel
theorem d_M_hangs_48 : decode b_M_hangs 48 = .ok (.aload_n 0, 1) := by decide +kernel
theorem d_M_hangs_49 : decode b_M_hangs 49 = .ok (.getfield 13, 3) := by decide +kernel
theorem d_M_hangs_52 : decode b_M_hangs 52 = .ok (.iload 5, 2) := by decide +kernel
theorem d_M_hangs_54 : decode b_M_hangs 54 = .ok (.iconst 4, 1) := by decide +kernel
theorem d_M_hangs_55 : decode b_M_hangs 55 = .ok (.imul, 1) := by decide +kernel
theorem d_M_hangs_56 : decode b_M_hangs 56 = .ok (.iload 6, 2) := by decide +kernel
theorem d_M_hangs_58 : decode b_M_hangs 58 = .ok (.iadd, 1) := by decide +kernel
theorem d_M_hangs_59 : decode b_M_hangs 59 = .ok (.iaload, 1) := by decide +kernel
theorem d_M_hangs_60 : decode b_M_hangs 60 = .ok (.ifCond .lt 20, 3) := by decide +kernel
theorem d_M_hangs_63 : decode b_M_hangs 63 = .ok (.iload_n 3, 1) := by decide +kernel
theorem d_M_hangs_64 : decode b_M_hangs 64 = .ok (.iconst 1, 1) := by decide +kernel
theorem d_M_hangs_65 : decode b_M_hangs 65 = .ok (.aload_n 0, 1) := by decide +kernel
theorem d_M_hangs_66 : decode b_M_hangs 66 = .ok (.getfield 13, 3) := by decide +kernel
theorem d_M_hangs_69 : decode b_M_hangs 69 = .ok (.iload 5, 2) := by decide +kernel
theorem d_M_hangs_71 : decode b_M_hangs 71 = .ok (.iconst 4, 1) := by decide +kernel
theorem d_M_hangs_72 : decode b_M_hangs 72 = .ok (.imul, 1) := by decide +kernel
theorem d_M_hangs_73 : decode b_M_hangs 73 = .ok (.iload 6, 2) := by decide +kernel
theorem d_M_hangs_75 : decode b_M_hangs 75 = .ok (.iadd, 1) := by decide +kernel
theorem d_M_hangs_76 : decode b_M_hangs 76 = .ok (.iaload, 1) := by decide +kernel
theorem d_M_hangs_77 : decode b_M_hangs 77 = .ok (.ishl, 1) := by decide +kernel
theorem d_M_hangs_78 : decode b_M_hangs 78 = .ok (.ior, 1) := by decide +kernel
theorem d_M_hangs_79 : decode b_M_hangs 79 = .ok (.istore_n 3, 1) := by decide +kernel
theorem d_M_hangs_80 : decode b_M_hangs 80 = .ok (.iinc 6 1, 3) := by decide +kernel
theorem d_M_hangs_83 : decode b_M_hangs 83 = .ok (.goto (-56), 3) := by decide +kernel
theorem d_M_hangs_86 : decode b_M_hangs 86 = .ok (.iinc 5 1, 3) := by decide +kernel
theorem d_M_hangs_89 : decode b_M_hangs 89 = .ok (.goto (-74), 3) := by decide +kernel
theorem d_M_hangs_92 : decode b_M_hangs 92 = .ok (.iinc 4 1, 3) := by decide +kernel
theorem d_M_hangs_95 : decode b_M_hangs 95 = .ok (.goto (-90), 3) := by decide +kernel
theorem d_M_hangs_98 : decode b_M_hangs 98 = .ok (.iload_n 3, 1) := by decide +kernel
theorem d_M_hangs_99 : decode b_M_hangs 99 = .ok (.iload_n 2, 1) := by decide +kernel
theorem d_M_hangs_100 : decode b_M_hangs 100 = .ok (.ishr, 1) := by decide +kernel
theorem d_M_hangs_101 : decode b_M_hangs 101 = .ok (.iconst 1, 1) := by decide +kernel
theorem d_M_hangs_102 : decode b_M_hangs 102 = .ok (.iand, 1) := by decide +kernel
theorem d_M_hangs_103 : decode b_M_hangs 103 = .ok (.ifCond .eq 7, 3) := by decide +kernel
theorem d_M_hangs_106 : decode b_M_hangs 106 = .ok (.iconst 1, 1) := by decide +kernel
theorem d_M_hangs_107 : decode b_M_hangs 107 = .ok (.goto 4, 3) := by decide +kernel
theorem d_M_hangs_110 : decode b_M_hangs 110 = .ok (.iconst 0, 1) := by decide +kernel
theorem d_M_hangs_111 : decode b_M_hangs 111 = .ok (.ireturn, 1) := by decide +kernel
theorem d_M_init_0 : decode b_M_init 0 = .ok (.aload_n 0, 1) := by decide +kernel
theorem d_M_init_1 : decode b_M_init 1 = .ok (.invokespecial 1, 3) := by decide +kernel
theorem d_M_init_4 : decode b_M_init 4 = .ok (.aload_n 0, 1) := by decide +kernel
theorem d_M_init_5 : decode b_M_init 5 = .ok (.bipush 16, 2) := by decide +kernel
theorem d_M_init_7 : decode b_M_init 7 = .ok (.newarray .int, 2) := by decide +kernel
theorem d_M_init_9 : decode b_M_init 9 = .ok (.putfield 7, 3) := by decide +kernel
theorem d_M_init_12 : decode b_M_init 12 = .ok (.aload_n 0, 1) := by decide +kernel
theorem d_M_init_13 : decode b_M_init 13 = .ok (.bipush 64, 2) := by decide +kernel
theorem d_M_init_15 : decode b_M_init 15 = .ok (.newarray .int, 2) := by decide +kernel
theorem d_M_init_17 : decode b_M_init 17 = .ok (.putfield 13, 3) := by decide +kernel
theorem d_M_init_20 : decode b_M_init 20 = .ok (.aload_n 0, 1) := by decide +kernel
theorem d_M_init_21 : decode b_M_init 21 = .ok (.bipush 16, 2) := by decide +kernel
theorem d_M_init_23 : decode b_M_init 23 = .ok (.newarray .long, 2) := by decide +kernel
theorem d_M_init_25 : decode b_M_init 25 = .ok (.putfield 16, 3) := by decide +kernel
theorem d_M_init_28 : decode b_M_init 28 = .ok (.aload_n 0, 1) := by decide +kernel
theorem d_M_init_29 : decode b_M_init 29 = .ok (.bipush 16, 2) := by decide +kernel
theorem d_M_init_31 : decode b_M_init 31 = .ok (.newarray .boolean, 2) := by decide +kernel
theorem d_M_init_33 : decode b_M_init 33 = .ok (.putfield 20, 3) := by decide +kernel
theorem d_M_init_36 : decode b_M_init 36 = .ok (.aload_n 0, 1) := by decide +kernel
theorem d_M_init_37 : decode b_M_init 37 = .ok (.bipush 16, 2) := by decide +kernel
theorem d_M_init_39 : decode b_M_init 39 = .ok (.newarray .boolean, 2) := by decide +kernel
theorem d_M_init_41 : decode b_M_init 41 = .ok (.putfield 24, 3) := by decide +kernel
theorem d_M_init_44 : decode b_M_init 44 = .ok (.aload_n 0, 1) := by decide +kernel
theorem d_M_init_45 : decode b_M_init 45 = .ok (.bipush 16, 2) := by decide +kernel
theorem d_M_init_47 : decode b_M_init 47 = .ok (.newarray .boolean, 2) := by decide +kernel
theorem d_M_init_49 : decode b_M_init 49 = .ok (.putfield 27, 3) := by decide +kernel
theorem d_M_init_52 : decode b_M_init 52 = .ok (.aload_n 0, 1) := by decide +kernel
theorem d_M_init_53 : decode b_M_init 53 = .ok (.bipush 16, 2) := by decide +kernel
theorem d_M_init_55 : decode b_M_init 55 = .ok (.newarray .int, 2) := by decide +kernel
theorem d_M_init_57 : decode b_M_init 57 = .ok (.putfield 30, 3) := by decide +kernel
theorem d_M_init_60 : decode b_M_init 60 = .ok (.aload_n 0, 1) := by decide +kernel
theorem d_M_init_61 : decode b_M_init 61 = .ok (.bipush 16, 2) := by decide +kernel
theorem d_M_init_63 : decode b_M_init 63 = .ok (.newarray .long, 2) := by decide +kernel
theorem d_M_init_65 : decode b_M_init 65 = .ok (.putfield 33, 3) := by decide +kernel
theorem d_M_init_68 : decode b_M_init 68 = .ok (.aload_n 0, 1) := by decide +kernel
theorem d_M_init_69 : decode b_M_init 69 = .ok (.bipush 16, 2) := by decide +kernel
theorem d_M_init_71 : decode b_M_init 71 = .ok (.newarray .long, 2) := by decide +kernel
theorem d_M_init_73 : decode b_M_init 73 = .ok (.putfield 36, 3) := by decide +kernel
theorem d_M_init_76 : decode b_M_init 76 = .ok (.aload_n 0, 1) := by decide +kernel
theorem d_M_init_77 : decode b_M_init 77 = .ok (.bipush 16, 2) := by decide +kernel
theorem d_M_init_79 : decode b_M_init 79 = .ok (.newarray .int, 2) := by decide +kernel
theorem d_M_init_81 : decode b_M_init 81 = .ok (.putfield 39, 3) := by decide +kernel
theorem d_M_init_84 : decode b_M_init 84 = .ok (.aload_n 0, 1) := by decide +kernel
theorem d_M_init_85 : decode b_M_init 85 = .ok (.bipush 16, 2) := by decide +kernel
theorem d_M_init_87 : decode b_M_init 87 = .ok (.newarray .int, 2) := by decide +kernel
theorem d_M_init_89 : decode b_M_init 89 = .ok (.putfield 42, 3) := by decide +kernel
theorem d_M_init_92 : decode b_M_init 92 = .ok (.aload_n 0, 1) := by decide +kernel
theorem d_M_init_93 : decode b_M_init 93 = .ok (.bipush 16, 2) := by decide +kernel
theorem d_M_init_95 : decode b_M_init 95 = .ok (.newarray .int, 2) := by decide +kernel
theorem d_M_init_97 : decode b_M_init 97 = .ok (.putfield 45, 3) := by decide +kernel
theorem d_M_init_100 : decode b_M_init 100 = .ok (.aload_n 0, 1) := by decide +kernel
theorem d_M_init_101 : decode b_M_init 101 = .ok (.bipush 16, 2) := by decide +kernel
theorem d_M_init_103 : decode b_M_init 103 = .ok (.newarray .boolean, 2) := by decide +kernel
theorem d_M_init_105 : decode b_M_init 105 = .ok (.putfield 48, 3) := by decide +kernel
theorem d_M_init_108 : decode b_M_init 108 = .ok (.aload_n 0, 1) := by decide +kernel
theorem d_M_init_109 : decode b_M_init 109 = .ok (.bipush 16, 2) := by decide +kernel
theorem d_M_init_111 : decode b_M_init 111 = .ok (.newarray .int, 2) := by decide +kernel
theorem d_M_init_113 : decode b_M_init 113 = .ok (.putfield 51, 3) := by decide +kernel
theorem d_M_init_116 : decode b_M_init 116 = .ok (.aload_n 0, 1) := by decide +kernel
theorem d_M_init_117 : decode b_M_init 117 = .ok (.bipush 16, 2) := by decide +kernel
theorem d_M_init_119 : decode b_M_init 119 = .ok (.newarray .int, 2) := by decide +kernel
theorem d_M_init_121 : decode b_M_init 121 = .ok (.putfield 54, 3) := by decide +kernel
theorem d_M_init_124 : decode b_M_init 124 = .ok (.aload_n 0, 1) := by decide +kernel
theorem d_M_init_125 : decode b_M_init 125 = .ok (.bipush 64, 2) := by decide +kernel
theorem d_M_init_127 : decode b_M_init 127 = .ok (.newarray .int, 2) := by decide +kernel
theorem d_M_init_129 : decode b_M_init 129 = .ok (.putfield 57, 3) := by decide +kernel
theorem d_M_init_132 : decode b_M_init 132 = .ok (.aload_n 0, 1) := by decide +kernel
theorem d_M_init_133 : decode b_M_init 133 = .ok (.bipush 64, 2) := by decide +kernel
theorem d_M_init_135 : decode b_M_init 135 = .ok (.newarray .int, 2) := by decide +kernel
theorem d_M_init_137 : decode b_M_init 137 = .ok (.putfield 60, 3) := by decide +kernel
theorem d_M_init_140 : decode b_M_init 140 = .ok (.aload_n 0, 1) := by decide +kernel
theorem d_M_init_141 : decode b_M_init 141 = .ok (.bipush 16, 2) := by decide +kernel
theorem d_M_init_143 : decode b_M_init 143 = .ok (.newarray .long, 2) := by decide +kernel
theorem d_M_init_145 : decode b_M_init 145 = .ok (.putfield 63, 3) := by decide +kernel
theorem d_M_init_148 : decode b_M_init 148 = .ok (.aload_n 0, 1) := by decide +kernel
theorem d_M_init_149 : decode b_M_init 149 = .ok (.bipush 16, 2) := by decide +kernel
theorem d_M_init_151 : decode b_M_init 151 = .ok (.newarray .boolean, 2) := by decide +kernel
theorem d_M_init_153 : decode b_M_init 153 = .ok (.putfield 66, 3) := by decide +kernel
theorem d_M_init_156 : decode b_M_init 156 = .ok (.aload_n 0, 1) := by decide +kernel
theorem d_M_init_157 : decode b_M_init 157 = .ok (.bipush 44, 2) := by decide +kernel
theorem d_M_init_159 : decode b_M_init 159 = .ok (.newarray .long, 2) := by decide +kernel
theorem d_M_init_161 : decode b_M_init 161 = .ok (.putfield 69, 3) := by decide +kernel
theorem d_M_init_164 : decode b_M_init 164 = .ok (.aload_n 0, 1) := by decide +kernel
theorem d_M_init_165 : decode b_M_init 165 = .ok (.bipush 44, 2) := by decide +kernel
theorem d_M_init_167 : decode b_M_init 167 = .ok (.newarray .long, 2) := by decide +kernel
theorem d_M_init_169 : decode b_M_init 169 = .ok (.putfield 72, 3) := by decide +kernel
theorem d_M_init_172 : decode b_M_init 172 = .ok (.return_, 1) := by decide +kernel
theorem d_M_lattice_0 : decode b_M_lattice 0 = .ok (.aload_n 0, 1) := by decide +kernel
theorem d_M_lattice_1 : decode b_M_lattice 1 = .ok (.getfield 42, 3) := by decide +kernel
theorem d_M_lattice_4 : decode b_M_lattice 4 = .ok (.aload_n 0, 1) := by decide +kernel
theorem d_M_lattice_5 : decode b_M_lattice 5 = .ok (.getfield 130, 3) := by decide +kernel
theorem d_M_lattice_8 : decode b_M_lattice 8 = .ok (.iaload, 1) := by decide +kernel
theorem d_M_lattice_9 : decode b_M_lattice 9 = .ok (.istore_n 1, 1) := by decide +kernel
theorem d_M_lattice_10 : decode b_M_lattice 10 = .ok (.aload_n 0, 1) := by decide +kernel
theorem d_M_lattice_11 : decode b_M_lattice 11 = .ok (.getfield 45, 3) := by decide +kernel
theorem d_M_lattice_14 : decode b_M_lattice 14 = .ok (.aload_n 0, 1) := by decide +kernel
theorem d_M_lattice_15 : decode b_M_lattice 15 = .ok (.getfield 130, 3) := by decide +kernel
theorem d_M_lattice_18 : decode b_M_lattice 18 = .ok (.iaload, 1) := by decide +kernel
theorem d_M_lattice_19 : decode b_M_lattice 19 = .ok (.i2l, 1) := by decide +kernel
theorem d_M_lattice_20 : decode b_M_lattice 20 = .ok (.lstore_n 2, 1) := by decide +kernel
theorem d_M_lattice_21 : decode b_M_lattice 21 = .ok (.iconst 0, 1) := by decide +kernel
theorem d_M_lattice_22 : decode b_M_lattice 22 = .ok (.istore 4, 2) := by decide +kernel
theorem d_M_lattice_24 : decode b_M_lattice 24 = .ok (.iload 4, 2) := by decide +kernel
theorem d_M_lattice_26 : decode b_M_lattice 26 = .ok (.iload_n 1, 1) := by decide +kernel
theorem d_M_lattice_27 : decode b_M_lattice 27 = .ok (.if_icmp .gt 37, 3) := by decide +kernel
theorem d_M_lattice_30 : decode b_M_lattice 30 = .ok (.aload_n 0, 1) := by decide +kernel
theorem d_M_lattice_31 : decode b_M_lattice 31 = .ok (.getfield 69, 3) := by decide +kernel
theorem d_M_lattice_34 : decode b_M_lattice 34 = .ok (.iload 4, 2) := by decide +kernel
theorem d_M_lattice_36 : decode b_M_lattice 36 = .ok (.aload_n 0, 1) := by decide +kernel
theorem d_M_lattice_37 : decode b_M_lattice 37 = .ok (.aload_n 0, 1) := by decide +kernel
theorem d_M_lattice_38 : decode b_M_lattice 38 = .ok (.getfield 157, 3) := by decide +kernel
theorem d_M_lattice_41 : decode b_M_lattice 41 = .ok (.iconst 2, 1) := by decide +kernel
theorem d_M_lattice_42 : decode b_M_lattice 42 = .ok (.iload 4, 2) := by decide +kernel
theorem d_M_lattice_44 : decode b_M_lattice 44 = .ok (.imul, 1) := by decide +kernel
theorem d_M_lattice_45 : decode b_M_lattice 45 = .ok (.iload_n 1, 1) := by decide +kernel
theorem d_M_lattice_46 : decode b_M_lattice 46 = .ok (.isub, 1) := by decide +kernel
theorem d_M_lattice_47 : decode b_M_lattice 47 = .ok (.i2l, 1) := by decide +kernel
theorem d_M_lattice_48 : decode b_M_lattice 48 = .ok (.aload_n 0, 1) := by decide +kernel
theorem d_M_lattice_49 : decode b_M_lattice 49 = .ok (.getfield 160, 3) := by decide +kernel
theorem d_M_lattice_52 : decode b_M_lattice 52 = .ok (.lmul, 1) := by decide +kernel
theorem d_M_lattice_53 : decode b_M_lattice 53 = .ok (.ladd, 1) := by decide +kernel
theorem d_M_lattice_54 : decode b_M_lattice 54 = .ok (.invokevirtual 154, 3) := by decide +kernel
theorem d_M_lattice_57 : decode b_M_lattice 57 = .ok (.lastore, 1) := by decide +kernel
theorem d_M_lattice_58 : decode b_M_lattice 58 = .ok (.iinc 4 1, 3) := by decide +kernel
theorem d_M_lattice_61 : decode b_M_lattice 61 = .ok (.goto (-37), 3) := by decide +kernel
theorem d_M_lattice_64 : decode b_M_lattice 64 = .ok (.iload_n 1, 1) := by decide +kernel
theorem d_M_lattice_65 : decode b_M_lattice 65 = .ok (.iconst 1, 1) := by decide +kernel
theorem d_M_lattice_66 : decode b_M_lattice 66 = .ok (.isub, 1) := by decide +kernel
theorem d_M_lattice_67 : decode b_M_lattice 67 = .ok (.istore 4, 2) := by decide +kernel
theorem d_M_lattice_69 : decode b_M_lattice 69 = .ok (.iload 4, 2) := by decide +kernel
theorem d_M_lattice_71 : decode b_M_lattice 71 = .ok (.ifCond .lt 79, 3) := by decide +kernel
theorem d_M_lattice_74 : decode b_M_lattice 74 = .ok (.iconst 0, 1) := by decide +kernel
theorem d_M_lattice_75 : decode b_M_lattice 75 = .ok (.istore 5, 2) := by decide +kernel
theorem d_M_lattice_77 : decode b_M_lattice 77 = .ok (.iload 5, 2) := by decide +kernel
theorem d_M_lattice_79 : decode b_M_lattice 79 = .ok (.iload 4, 2) := by decide +kernel
theorem d_M_lattice_81 : decode b_M_lattice 81 = .ok (.if_icmp .gt 63, 3) := by decide +kernel
theorem d_M_lattice_84 : decode b_M_lattice 84 = .ok (.aload_n 0, 1) := by decide +kernel
theorem d_M_lattice_85 : decode b_M_lattice 85 = .ok (.getfield 69, 3) := by decide +kernel
theorem d_M_lattice_88 : decode b_M_lattice 88 = .ok (.iload 5, 2) := by decide +kernel
theorem d_M_lattice_90 : decode b_M_lattice 90 = .ok (.aload_n 0, 1) := by decide +kernel
theorem d_M_lattice_91 : decode b_M_lattice 91 = .ok (.lload_n 2, 1) := by decide +kernel
theorem d_M_lattice_92 : decode b_M_lattice 92 = .ok (.aload_n 0, 1) := by decide +kernel
theorem d_M_lattice_93 : decode b_M_lattice 93 = .ok (.getfield 69, 3) := by decide +kernel
theorem d_M_lattice_96 : decode b_M_lattice 96 = .ok (.iload 5, 2) := by decide +kernel
theorem d_M_lattice_98 : decode b_M_lattice 98 = .ok (.iconst 1, 1) := by decide +kernel
theorem d_M_lattice_99 : decode b_M_lattice 99 = .ok (.iadd, 1) := by decide +kernel
theorem d_M_lattice_100 : decode b_M_lattice 100 = .ok (.laload, 1) := by decide +kernel
theorem d_M_lattice_101 : decode b_M_lattice 101 = .ok (.lmul, 1) := by decide +kernel
theorem d_M_lattice_102 : decode b_M_lattice 102 = .ok (.ldc2_w 163, 3) := by decide +kernel
theorem d_M_lattice_105 : decode b_M_lattice 105 = .ok (.lload_n 2, 1) := by decide +kernel
theorem d_M_lattice_106 : decode b_M_lattice 106 = .ok (.lsub, 1) := by decide +kernel
theorem d_M_lattice_107 : decode b_M_lattice 107 = .ok (.aload_n 0, 1) := by decide +kernel
theorem d_M_lattice_108 : decode b_M_lattice 108 = .ok (.getfield 69, 3) := by decide +kernel
theorem d_M_lattice_111 : decode b_M_lattice 111 = .ok (.iload 5, 2) := by decide +kernel
theorem d_M_lattice_113 : decode b_M_lattice 113 = .ok (.laload, 1) := by decide +kernel
theorem d_M_lattice_114 : decode b_M_lattice 114 = .ok (.lmul, 1) := by decide +kernel
theorem d_M_lattice_115 : decode b_M_lattice 115 = .ok (.ladd, 1) := by decide +kernel
theorem d_M_lattice_116 : decode b_M_lattice 116 = .ok (.aload_n 0, 1) := by decide +kernel
theorem d_M_lattice_117 : decode b_M_lattice 117 = .ok (.getfield 157, 3) := by decide +kernel
theorem d_M_lattice_120 : decode b_M_lattice 120 = .ok (.iconst 2, 1) := by decide +kernel
theorem d_M_lattice_121 : decode b_M_lattice 121 = .ok (.iload 5, 2) := by decide +kernel
theorem d_M_lattice_123 : decode b_M_lattice 123 = .ok (.imul, 1) := by decide +kernel
theorem d_M_lattice_124 : decode b_M_lattice 124 = .ok (.iload 4, 2) := by decide +kernel
theorem d_M_lattice_126 : decode b_M_lattice 126 = .ok (.isub, 1) := by decide +kernel
theorem d_M_lattice_127 : decode b_M_lattice 127 = .ok (.i2l, 1) := by decide +kernel
theorem d_M_lattice_128 : decode b_M_lattice 128 = .ok (.aload_n 0, 1) := by decide +kernel
theorem d_M_lattice_129 : decode b_M_lattice 129 = .ok (.getfield 160, 3) := by decide +kernel
theorem d_M_lattice_132 : decode b_M_lattice 132 = .ok (.lmul, 1) := by decide +kernel
theorem d_M_lattice_133 : decode b_M_lattice 133 = .ok (.ladd, 1) := by decide +kernel
theorem d_M_lattice_134 : decode b_M_lattice 134 = .ok (.invokevirtual 165, 3) := by decide +kernel
theorem d_M_lattice_137 : decode b_M_lattice 137 = .ok (.lastore, 1) := by decide +kernel
theorem d_M_lattice_138 : decode b_M_lattice 138 = .ok (.iinc 5 1, 3) := by decide +kernel
theorem d_M_lattice_141 : decode b_M_lattice 141 = .ok (.goto (-64), 3) := by decide +kernel
theorem d_M_lattice_144 : decode b_M_lattice 144 = .ok (.iinc 4 (-1), 3) := by decide +kernel
theorem d_M_lattice_147 : decode b_M_lattice 147 = .ok (.goto (-78), 3) := by decide +kernel
theorem d_M_lattice_150 : decode b_M_lattice 150 = .ok (.aload_n 0, 1) := by decide +kernel
theorem d_M_lattice_151 : decode b_M_lattice 151 = .ok (.getfield 69, 3) := by decide +kernel
theorem d_M_lattice_154 : decode b_M_lattice 154 = .ok (.iconst 0, 1) := by decide +kernel
theorem d_M_lattice_155 : decode b_M_lattice 155 = .ok (.laload, 1) := by decide +kernel
theorem d_M_lattice_156 : decode b_M_lattice 156 = .ok (.lreturn, 1) := by decide +kernel
theorem d_M_net_0 : decode b_M_net 0 = .ok (.aload_n 0, 1) := by decide +kernel
theorem d_M_net_1 : decode b_M_net 1 = .ok (.getfield 54, 3) := by decide +kernel
theorem d_M_net_4 : decode b_M_net 4 = .ok (.aload_n 0, 1) := by decide +kernel
theorem d_M_net_5 : decode b_M_net 5 = .ok (.getfield 130, 3) := by decide +kernel
theorem d_M_net_8 : decode b_M_net 8 = .ok (.iaload, 1) := by decide +kernel
theorem d_M_net_9 : decode b_M_net 9 = .ok (.istore_n 1, 1) := by decide +kernel
theorem d_M_net_10 : decode b_M_net 10 = .ok (.aload_n 0, 1) := by decide +kernel
theorem d_M_net_11 : decode b_M_net 11 = .ok (.getfield 45, 3) := by decide +kernel
theorem d_M_net_14 : decode b_M_net 14 = .ok (.aload_n 0, 1) := by decide +kernel
theorem d_M_net_15 : decode b_M_net 15 = .ok (.getfield 130, 3) := by decide +kernel
theorem d_M_net_18 : decode b_M_net 18 = .ok (.iaload, 1) := by decide +kernel
theorem d_M_net_19 : decode b_M_net 19 = .ok (.i2l, 1) := by decide +kernel
theorem d_M_net_20 : decode b_M_net 20 = .ok (.lstore_n 2, 1) := by decide +kernel
theorem d_M_net_21 : decode b_M_net 21 = .ok (.lload_n 2, 1) := by decide +kernel
theorem d_M_net_22 : decode b_M_net 22 = .ok (.ldc2_w 182, 3) := by decide +kernel
theorem d_M_net_25 : decode b_M_net 25 = .ok (.lcmp, 1) := by decide +kernel
theorem d_M_net_26 : decode b_M_net 26 = .ok (.ifCond .le 10, 3) := by decide +kernel
theorem d_M_net_29 : decode b_M_net 29 = .ok (.aload_n 0, 1) := by decide +kernel
theorem d_M_net_30 : decode b_M_net 30 = .ok (.iconst 2, 1) := by decide +kernel
theorem d_M_net_31 : decode b_M_net 31 = .ok (.putfield 127, 3) := by decide +kernel
theorem d_M_net_34 : decode b_M_net 34 = .ok (.lconst 0, 1) := by decide +kernel
theorem d_M_net_35 : decode b_M_net 35 = .ok (.lreturn, 1) := by decide +kernel
theorem d_M_net_36 : decode b_M_net 36 = .ok (.iconst 0, 1) := by decide +kernel
theorem d_M_net_37 : decode b_M_net 37 = .ok (.istore 4, 2) := by decide +kernel
theorem d_M_net_39 : decode b_M_net 39 = .ok (.iload 4, 2) := by decide +kernel
theorem d_M_net_41 : decode b_M_net 41 = .ok (.iconst 2, 1) := by decide +kernel
theorem d_M_net_42 : decode b_M_net 42 = .ok (.iload_n 1, 1) := by decide +kernel
theorem d_M_net_43 : decode b_M_net 43 = .ok (.imul, 1) := by decide +kernel
theorem d_M_net_44 : decode b_M_net 44 = .ok (.if_icmp .gt 35, 3) := by decide +kernel
theorem d_M_net_47 : decode b_M_net 47 = .ok (.aload_n 0, 1) := by decide +kernel
theorem d_M_net_48 : decode b_M_net 48 = .ok (.getfield 69, 3) := by decide +kernel
theorem d_M_net_51 : decode b_M_net 51 = .ok (.iload 4, 2) := by decide +kernel
theorem d_M_net_53 : decode b_M_net 53 = .ok (.aload_n 0, 1) := by decide +kernel
theorem d_M_net_54 : decode b_M_net 54 = .ok (.aload_n 0, 1) := by decide +kernel
theorem d_M_net_55 : decode b_M_net 55 = .ok (.getfield 157, 3) := by decide +kernel
theorem d_M_net_58 : decode b_M_net 58 = .ok (.iload 4, 2) := by decide +kernel
theorem d_M_net_60 : decode b_M_net 60 = .ok (.iload_n 1, 1) := by decide +kernel
theorem d_M_net_61 : decode b_M_net 61 = .ok (.isub, 1) := by decide +kernel
theorem d_M_net_62 : decode b_M_net 62 = .ok (.i2l, 1) := by decide +kernel
theorem d_M_net_63 : decode b_M_net 63 = .ok (.aload_n 0, 1) := by decide +kernel
theorem d_M_net_64 : decode b_M_net 64 = .ok (.getfield 160, 3) := by decide +kernel
theorem d_M_net_67 : decode b_M_net 67 = .ok (.lmul, 1) := by decide +kernel
theorem d_M_net_68 : decode b_M_net 68 = .ok (.ladd, 1) := by decide +kernel
theorem d_M_net_69 : decode b_M_net 69 = .ok (.invokevirtual 154, 3) := by decide +kernel
theorem d_M_net_72 : decode b_M_net 72 = .ok (.lastore, 1) := by decide +kernel
theorem d_M_net_73 : decode b_M_net 73 = .ok (.iinc 4 1, 3) := by decide +kernel
theorem d_M_net_76 : decode b_M_net 76 = .ok (.goto (-37), 3) := by decide +kernel
theorem d_M_net_79 : decode b_M_net 79 = .ok (.iconst 0, 1) := by decide +kernel
theorem d_M_net_80 : decode b_M_net 80 = .ok (.istore 4, 2) := by decide +kernel
theorem d_M_net_82 : decode b_M_net 82 = .ok (.iload 4, 2) := by decide +kernel
theorem d_M_net_84 : decode b_M_net 84 = .ok (.aload_n 0, 1) := by decide +kernel
theorem d_M_net_85 : decode b_M_net 85 = .ok (.getfield 42, 3) := by decide +kernel
theorem d_M_net_88 : decode b_M_net 88 = .ok (.aload_n 0, 1) := by decide +kernel
theorem d_M_net_89 : decode b_M_net 89 = .ok (.getfield 130, 3) := by decide +kernel
theorem d_M_net_92 : decode b_M_net 92 = .ok (.iaload, 1) := by decide +kernel
theorem d_M_net_93 : decode b_M_net 93 = .ok (.if_icmp .ge 128, 3) := by decide +kernel
theorem d_M_net_96 : decode b_M_net 96 = .ok (.iconst 1, 1) := by decide +kernel
theorem d_M_net_97 : decode b_M_net 97 = .ok (.istore 5, 2) := by decide +kernel
theorem d_M_net_99 : decode b_M_net 99 = .ok (.iload 5, 2) := by decide +kernel
theorem d_M_net_101 : decode b_M_net 101 = .ok (.iconst 2, 1) := by decide +kernel
theorem d_M_net_102 : decode b_M_net 102 = .ok (.iload_n 1, 1) := by decide +kernel
theorem d_M_net_103 : decode b_M_net 103 = .ok (.imul, 1) := by decide +kernel
theorem d_M_net_104 : decode b_M_net 104 = .ok (.if_icmp .ge 80, 3) := by decide +kernel
theorem d_M_net_107 : decode b_M_net 107 = .ok (.aload_n 0, 1) := by decide +kernel
theorem d_M_net_108 : decode b_M_net 108 = .ok (.getfield 72, 3) := by decide +kernel
theorem d_M_net_111 : decode b_M_net 111 = .ok (.iload 5, 2) := by decide +kernel
theorem d_M_net_113 : decode b_M_net 113 = .ok (.aload_n 0, 1) := by decide +kernel
theorem d_M_net_114 : decode b_M_net 114 = .ok (.ldc2_w 163, 3) := by decide +kernel
theorem d_M_net_117 : decode b_M_net 117 = .ok (.aload_n 0, 1) := by decide +kernel
theorem d_M_net_118 : decode b_M_net 118 = .ok (.getfield 69, 3) := by decide +kernel
theorem d_M_net_121 : decode b_M_net 121 = .ok (.iload 5, 2) := by decide +kernel
theorem d_M_net_123 : decode b_M_net 123 = .ok (.laload, 1) := by decide +kernel
theorem d_M_net_124 : decode b_M_net 124 = .ok (.lmul, 1) := by decide +kernel
theorem d_M_net_125 : decode b_M_net 125 = .ok (.lload_n 2, 1) := by decide +kernel
theorem d_M_net_126 : decode b_M_net 126 = .ok (.aload_n 0, 1) := by decide +kernel
theorem d_M_net_127 : decode b_M_net 127 = .ok (.getfield 69, 3) := by decide +kernel
theorem d_M_net_130 : decode b_M_net 130 = .ok (.iload 5, 2) := by decide +kernel
theorem d_M_net_132 : decode b_M_net 132 = .ok (.iconst 1, 1) := by decide +kernel
theorem d_M_net_133 : decode b_M_net 133 = .ok (.iadd, 1) := by decide +kernel
theorem d_M_net_134 : decode b_M_net 134 = .ok (.laload, 1) := by decide +kernel
theorem d_M_net_135 : decode b_M_net 135 = .ok (.ldc2_w 176, 3) := by decide +kernel
theorem d_M_net_138 : decode b_M_net 138 = .ok (.aload_n 0, 1) := by decide +kernel
theorem d_M_net_139 : decode b_M_net 139 = .ok (.getfield 69, 3) := by decide +kernel
theorem d_M_net_142 : decode b_M_net 142 = .ok (.iload 5, 2) := by decide +kernel
theorem d_M_net_144 : decode b_M_net 144 = .ok (.laload, 1) := by decide +kernel
theorem d_M_net_145 : decode b_M_net 145 = .ok (.lmul, 1) := by decide +kernel
theorem d_M_net_146 : decode b_M_net 146 = .ok (.lsub, 1) := by decide +kernel
theorem d_M_net_147 : decode b_M_net 147 = .ok (.aload_n 0, 1) := by decide +kernel
theorem d_M_net_148 : decode b_M_net 148 = .ok (.getfield 69, 3) := by decide +kernel
theorem d_M_net_151 : decode b_M_net 151 = .ok (.iload 5, 2) := by decide +kernel
theorem d_M_net_153 : decode b_M_net 153 = .ok (.iconst 1, 1) := by decide +kernel
theorem d_M_net_154 : decode b_M_net 154 = .ok (.isub, 1) := by decide +kernel
theorem d_M_net_155 : decode b_M_net 155 = .ok (.laload, 1) := by decide +kernel
theorem d_M_net_156 : decode b_M_net 156 = .ok (.ladd, 1) := by decide +kernel
theorem d_M_net_157 : decode b_M_net 157 = .ok (.lmul, 1) := by decide +kernel
theorem d_M_net_158 : decode b_M_net 158 = .ok (.ladd, 1) := by decide +kernel
theorem d_M_net_159 : decode b_M_net 159 = .ok (.aload_n 0, 1) := by decide +kernel
theorem d_M_net_160 : decode b_M_net 160 = .ok (.getfield 157, 3) := by decide +kernel
theorem d_M_net_163 : decode b_M_net 163 = .ok (.iload 5, 2) := by decide +kernel
theorem d_M_net_165 : decode b_M_net 165 = .ok (.iload_n 1, 1) := by decide +kernel
theorem d_M_net_166 : decode b_M_net 166 = .ok (.isub, 1) := by decide +kernel
theorem d_M_net_167 : decode b_M_net 167 = .ok (.i2l, 1) := by decide +kernel
theorem d_M_net_168 : decode b_M_net 168 = .ok (.aload_n 0, 1) := by decide +kernel
theorem d_M_net_169 : decode b_M_net 169 = .ok (.getfield 160, 3) := by decide +kernel
theorem d_M_net_172 : decode b_M_net 172 = .ok (.lmul, 1) := by decide +kernel
theorem d_M_net_173 : decode b_M_net 173 = .ok (.ladd, 1) := by decide +kernel
theorem d_M_net_174 : decode b_M_net 174 = .ok (.invokevirtual 165, 3) := by decide +kernel
theorem d_M_net_177 : decode b_M_net 177 = .ok (.lastore, 1) := by decide +kernel
theorem d_M_net_178 : decode b_M_net 178 = .ok (.iinc 5 1, 3) := by decide +kernel
theorem d_M_net_181 : decode b_M_net 181 = .ok (.goto (-82), 3) := by decide +kernel
theorem d_M_net_184 : decode b_M_net 184 = .ok (.iconst 1, 1) := by decide +kernel
theorem d_M_net_185 : decode b_M_net 185 = .ok (.istore 5, 2) := by decide +kernel
theorem d_M_net_187 : decode b_M_net 187 = .ok (.iload 5, 2) := by decide +kernel
theorem d_M_net_189 : decode b_M_net 189 = .ok (.iconst 2, 1) := by decide +kernel
theorem d_M_net_190 : decode b_M_net 190 = .ok (.iload_n 1, 1) := by decide +kernel
theorem d_M_net_191 : decode b_M_net 191 = .ok (.imul, 1) := by decide +kernel
theorem d_M_net_192 : decode b_M_net 192 = .ok (.if_icmp .ge 23, 3) := by decide +kernel
theorem d_M_net_195 : decode b_M_net 195 = .ok (.aload_n 0, 1) := by decide +kernel
theorem d_M_net_196 : decode b_M_net 196 = .ok (.getfield 69, 3) := by decide +kernel
theorem d_M_net_199 : decode b_M_net 199 = .ok (.iload 5, 2) := by decide +kernel
theorem d_M_net_201 : decode b_M_net 201 = .ok (.aload_n 0, 1) := by decide +kernel
theorem d_M_net_202 : decode b_M_net 202 = .ok (.getfield 72, 3) := by decide +kernel
theorem d_M_net_205 : decode b_M_net 205 = .ok (.iload 5, 2) := by decide +kernel
theorem d_M_net_207 : decode b_M_net 207 = .ok (.laload, 1) := by decide +kernel
theorem d_M_net_208 : decode b_M_net 208 = .ok (.lastore, 1) := by decide +kernel
theorem d_M_net_209 : decode b_M_net 209 = .ok (.iinc 5 1, 3) := by decide +kernel
theorem d_M_net_212 : decode b_M_net 212 = .ok (.goto (-25), 3) := by decide +kernel
theorem d_M_net_215 : decode b_M_net 215 = .ok (.iinc 4 1, 3) := by decide +kernel
theorem d_M_net_218 : decode b_M_net 218 = .ok (.goto (-136), 3) := by decide +kernel
theorem d_M_net_221 : decode b_M_net 221 = .ok (.aload_n 0, 1) := by decide +kernel
theorem d_M_net_222 : decode b_M_net 222 = .ok (.getfield 69, 3) := by decide +kernel
theorem d_M_net_225 : decode b_M_net 225 = .ok (.iload_n 1, 1) := by decide +kernel
theorem d_M_net_226 : decode b_M_net 226 = .ok (.laload, 1) := by decide +kernel
theorem d_M_net_227 : decode b_M_net 227 = .ok (.lreturn, 1) := by decide +kernel
theorem d_M_no_0 : decode b_M_no 0 = .ok (.iload_n 1, 1) := by decide +kernel
theorem d_M_no_1 : decode b_M_no 1 = .ok (.ifCond .lt 11, 3) := by decide +kernel
theorem d_M_no_4 : decode b_M_no 4 = .ok (.iload_n 1, 1) := by decide +kernel
theorem d_M_no_5 : decode b_M_no 5 = .ok (.aload_n 0, 1) := by decide +kernel
theorem d_M_no_6 : decode b_M_no 6 = .ok (.getfield 79, 3) := by decide +kernel
theorem d_M_no_9 : decode b_M_no 9 = .ok (.if_icmp .lt 7, 3) := by decide +kernel
theorem d_M_no_12 : decode b_M_no 12 = .ok (.iconst 1, 1) := by decide +kernel
theorem d_M_no_13 : decode b_M_no 13 = .ok (.goto 4, 3) := by decide +kernel
theorem d_M_no_16 : decode b_M_no 16 = .ok (.iconst 0, 1) := by decide +kernel
theorem d_M_no_17 : decode b_M_no 17 = .ok (.ireturn, 1) := by decide +kernel
theorem d_M_noOption_0 : decode b_M_noOption 0 = .ok (.aload_n 0, 1) := by decide +kernel
theorem d_M_noOption_1 : decode b_M_noOption 1 = .ok (.iload_n 1, 1) := by decide +kernel
theorem d_M_noOption_2 : decode b_M_noOption 2 = .ok (.invokevirtual 96, 3) := by decide +kernel
theorem d_M_noOption_5 : decode b_M_noOption 5 = .ok (.ifCond .ne 13, 3) := by decide +kernel
theorem d_M_noOption_8 : decode b_M_noOption 8 = .ok (.aload_n 0, 1) := by decide +kernel
theorem d_M_noOption_9 : decode b_M_noOption 9 = .ok (.getfield 7, 3) := by decide +kernel
theorem d_M_noOption_12 : decode b_M_noOption 12 = .ok (.iload_n 1, 1) := by decide +kernel
theorem d_M_noOption_13 : decode b_M_noOption 13 = .ok (.iaload, 1) := by decide +kernel
theorem d_M_noOption_14 : decode b_M_noOption 14 = .ok (.iconst 3, 1) := by decide +kernel
theorem d_M_noOption_15 : decode b_M_noOption 15 = .ok (.if_icmp .eq 7, 3) := by decide +kernel
theorem d_M_noOption_18 : decode b_M_noOption 18 = .ok (.iconst 1, 1) := by decide +kernel
theorem d_M_noOption_19 : decode b_M_noOption 19 = .ok (.goto 4, 3) := by decide +kernel
theorem d_M_noOption_22 : decode b_M_noOption 22 = .ok (.iconst 0, 1) := by decide +kernel
theorem d_M_noOption_23 : decode b_M_noOption 23 = .ok (.ireturn, 1) := by decide +kernel
theorem d_M_node_0 : decode b_M_node 0 = .ok (.aload_n 0, 1) := by decide +kernel
theorem d_M_node_1 : decode b_M_node 1 = .ok (.aload_n 0, 1) := by decide +kernel
theorem d_M_node_2 : decode b_M_node 2 = .ok (.iload_n 1, 1) := by decide +kernel
theorem d_M_node_3 : decode b_M_node 3 = .ok (.invokevirtual 96, 3) := by decide +kernel
theorem d_M_node_6 : decode b_M_node 6 = .ok (.ifCond .ne 12, 3) := by decide +kernel
theorem d_M_node_9 : decode b_M_node 9 = .ok (.iload_n 2, 1) := by decide +kernel
theorem d_M_node_10 : decode b_M_node 10 = .ok (.ifCond .lt 8, 3) := by decide +kernel
theorem d_M_node_13 : decode b_M_node 13 = .ok (.iload_n 2, 1) := by decide +kernel
theorem d_M_node_14 : decode b_M_node 14 = .ok (.iconst 5, 1) := by decide +kernel
theorem d_M_node_15 : decode b_M_node 15 = .ok (.if_icmp .le 7, 3) := by decide +kernel
theorem d_M_node_18 : decode b_M_node 18 = .ok (.iconst 1, 1) := by decide +kernel
theorem d_M_node_19 : decode b_M_node 19 = .ok (.goto 4, 3) := by decide +kernel
theorem d_M_node_22 : decode b_M_node 22 = .ok (.iconst 0, 1) := by decide +kernel
theorem d_M_node_23 : decode b_M_node 23 = .ok (.putfield 75, 3) := by decide +kernel
theorem d_M_node_26 : decode b_M_node 26 = .ok (.aload_n 0, 1) := by decide +kernel
theorem d_M_node_27 : decode b_M_node 27 = .ok (.getfield 75, 3) := by decide +kernel
theorem d_M_node_30 : decode b_M_node 30 = .ok (.ifCond .eq 5, 3) := by decide +kernel
theorem d_M_node_33 : decode b_M_node 33 = .ok (.iconst 0, 1) := by decide +kernel
theorem d_M_node_34 : decode b_M_node 34 = .ok (.ireturn, 1) := by decide +kernel
theorem d_M_node_35 : decode b_M_node 35 = .ok (.iload_n 2, 1) := by decide +kernel
theorem d_M_node_36 : decode b_M_node 36 = .ok (.ifCond .ne 10, 3) := by decide +kernel
theorem d_M_node_39 : decode b_M_node 39 = .ok (.aload_n 0, 1) := by decide +kernel
theorem d_M_node_40 : decode b_M_node 40 = .ok (.getfield 7, 3) := by decide +kernel
theorem d_M_node_43 : decode b_M_node 43 = .ok (.iload_n 1, 1) := by decide +kernel
theorem d_M_node_44 : decode b_M_node 44 = .ok (.iaload, 1) := by decide +kernel
theorem d_M_node_45 : decode b_M_node 45 = .ok (.ireturn, 1) := by decide +kernel
theorem d_M_node_46 : decode b_M_node 46 = .ok (.iload_n 2, 1) := by decide +kernel
theorem d_M_node_47 : decode b_M_node 47 = .ok (.iconst 1, 1) := by decide +kernel
theorem d_M_node_48 : decode b_M_node 48 = .ok (.if_icmp .ne 18, 3) := by decide +kernel
theorem d_M_node_51 : decode b_M_node 51 = .ok (.aload_n 0, 1) := by decide +kernel
theorem d_M_node_52 : decode b_M_node 52 = .ok (.getfield 20, 3) := by decide +kernel
theorem d_M_node_55 : decode b_M_node 55 = .ok (.iload_n 1, 1) := by decide +kernel
theorem d_M_node_56 : decode b_M_node 56 = .ok (.baload, 1) := by decide +kernel
theorem d_M_node_57 : decode b_M_node 57 = .ok (.ifCond .eq 7, 3) := by decide +kernel
theorem d_M_node_60 : decode b_M_node 60 = .ok (.iconst 1, 1) := by decide +kernel
theorem d_M_node_61 : decode b_M_node 61 = .ok (.goto 4, 3) := by decide +kernel
theorem d_M_node_64 : decode b_M_node 64 = .ok (.iconst 0, 1) := by decide +kernel
theorem d_M_node_65 : decode b_M_node 65 = .ok (.ireturn, 1) := by decide +kernel
theorem d_M_node_66 : decode b_M_node 66 = .ok (.iload_n 2, 1) := by decide +kernel
theorem d_M_node_67 : decode b_M_node 67 = .ok (.iconst 2, 1) := by decide +kernel
theorem d_M_node_68 : decode b_M_node 68 = .ok (.if_icmp .ne 18, 3) := by decide +kernel
theorem d_M_node_71 : decode b_M_node 71 = .ok (.aload_n 0, 1) := by decide +kernel
theorem d_M_node_72 : decode b_M_node 72 = .ok (.getfield 24, 3) := by decide +kernel
theorem d_M_node_75 : decode b_M_node 75 = .ok (.iload_n 1, 1) := by decide +kernel
theorem d_M_node_76 : decode b_M_node 76 = .ok (.baload, 1) := by decide +kernel
theorem d_M_node_77 : decode b_M_node 77 = .ok (.ifCond .eq 7, 3) := by decide +kernel
theorem d_M_node_80 : decode b_M_node 80 = .ok (.iconst 1, 1) := by decide +kernel
theorem d_M_node_81 : decode b_M_node 81 = .ok (.goto 4, 3) := by decide +kernel
theorem d_M_node_84 : decode b_M_node 84 = .ok (.iconst 0, 1) := by decide +kernel
theorem d_M_node_85 : decode b_M_node 85 = .ok (.ireturn, 1) := by decide +kernel
theorem d_M_node_86 : decode b_M_node 86 = .ok (.iload_n 2, 1) := by decide +kernel
theorem d_M_node_87 : decode b_M_node 87 = .ok (.iconst 3, 1) := by decide +kernel
theorem d_M_node_88 : decode b_M_node 88 = .ok (.if_icmp .ne 18, 3) := by decide +kernel
theorem d_M_node_91 : decode b_M_node 91 = .ok (.aload_n 0, 1) := by decide +kernel
theorem d_M_node_92 : decode b_M_node 92 = .ok (.getfield 27, 3) := by decide +kernel
theorem d_M_node_95 : decode b_M_node 95 = .ok (.iload_n 1, 1) := by decide +kernel
theorem d_M_node_96 : decode b_M_node 96 = .ok (.baload, 1) := by decide +kernel
theorem d_M_node_97 : decode b_M_node 97 = .ok (.ifCond .eq 7, 3) := by decide +kernel
theorem d_M_node_100 : decode b_M_node 100 = .ok (.iconst 1, 1) := by decide +kernel
theorem d_M_node_101 : decode b_M_node 101 = .ok (.goto 4, 3) := by decide +kernel
theorem d_M_node_104 : decode b_M_node 104 = .ok (.iconst 0, 1) := by decide +kernel
theorem d_M_node_105 : decode b_M_node 105 = .ok (.ireturn, 1) := by decide +kernel
theorem d_M_node_106 : decode b_M_node 106 = .ok (.iload_n 2, 1) := by decide +kernel
theorem d_M_node_107 : decode b_M_node 107 = .ok (.iconst 5, 1) := by decide +kernel
theorem d_M_node_108 : decode b_M_node 108 = .ok (.if_icmp .ne 10, 3) := by decide +kernel
theorem d_M_node_111 : decode b_M_node 111 = .ok (.aload_n 0, 1) := by decide +kernel
theorem d_M_node_112 : decode b_M_node 112 = .ok (.getfield 30, 3) := by decide +kernel
theorem d_M_node_115 : decode b_M_node 115 = .ok (.iload_n 1, 1) := by decide +kernel
theorem d_M_node_116 : decode b_M_node 116 = .ok (.iaload, 1) := by decide +kernel
theorem d_M_node_117 : decode b_M_node 117 = .ok (.ireturn, 1) := by decide +kernel
theorem d_M_node_118 : decode b_M_node 118 = .ok (.iconst 0, 1) := by decide +kernel
theorem d_M_node_119 : decode b_M_node 119 = .ok (.istore_n 3, 1) := by decide +kernel
theorem d_M_node_120 : decode b_M_node 120 = .ok (.iconst 0, 1) := by decide +kernel
theorem d_M_node_121 : decode b_M_node 121 = .ok (.istore 4, 2) := by decide +kernel
theorem d_M_node_123 : decode b_M_node 123 = .ok (.iload 4, 2) := by decide +kernel
theorem d_M_node_125 : decode b_M_node 125 = .ok (.iconst 4, 1) := by decide +kernel
theorem d_M_node_126 : decode b_M_node 126 = .ok (.if_icmp .ge 26, 3) := by decide +kernel
theorem d_M_node_129 : decode b_M_node 129 = .ok (.aload_n 0, 1) := by decide +kernel
theorem d_M_node_130 : decode b_M_node 130 = .ok (.getfield 13, 3) := by decide +kernel
theorem d_M_node_133 : decode b_M_node 133 = .ok (.iload_n 1, 1) := by decide +kernel
theorem d_M_node_134 : decode b_M_node 134 = .ok (.iconst 4, 1) := by decide +kernel
theorem d_M_node_135 : decode b_M_node 135 = .ok (.imul, 1) := by decide +kernel
theorem d_M_node_136 : decode b_M_node 136 = .ok (.iload 4, 2) := by decide +kernel
theorem d_M_node_138 : decode b_M_node 138 = .ok (.iadd, 1) := by decide +kernel
theorem d_M_node_139 : decode b_M_node 139 = .ok (.iaload, 1) := by decide +kernel
theorem d_M_node_140 : decode b_M_node 140 = .ok (.ifCond .lt 6, 3) := by decide +kernel
theorem d_M_node_143 : decode b_M_node 143 = .ok (.iinc 3 1, 3) := by decide +kernel
theorem d_M_node_146 : decode b_M_node 146 = .ok (.iinc 4 1, 3) := by decide +kernel
theorem d_M_node_149 : decode b_M_node 149 = .ok (.goto (-26), 3) := by decide +kernel
theorem d_M_node_152 : decode b_M_node 152 = .ok (.iload_n 3, 1) := by decide +kernel
theorem d_M_node_153 : decode b_M_node 153 = .ok (.ireturn, 1) := by decide +kernel
theorem d_M_option_0 : decode b_M_option 0 = .ok (.aload_n 0, 1) := by decide +kernel
theorem d_M_option_1 : decode b_M_option 1 = .ok (.aload_n 0, 1) := by decide +kernel
theorem d_M_option_2 : decode b_M_option 2 = .ok (.iload_n 1, 1) := by decide +kernel
theorem d_M_option_3 : decode b_M_option 3 = .ok (.invokevirtual 96, 3) := by decide +kernel
theorem d_M_option_6 : decode b_M_option 6 = .ok (.ifCond .ne 45, 3) := by decide +kernel
theorem d_M_option_9 : decode b_M_option 9 = .ok (.aload_n 0, 1) := by decide +kernel
theorem d_M_option_10 : decode b_M_option 10 = .ok (.iload_n 2, 1) := by decide +kernel
theorem d_M_option_11 : decode b_M_option 11 = .ok (.invokevirtual 96, 3) := by decide +kernel
theorem d_M_option_14 : decode b_M_option 14 = .ok (.ifCond .ne 37, 3) := by decide +kernel
theorem d_M_option_17 : decode b_M_option 17 = .ok (.iload_n 3, 1) := by decide +kernel
theorem d_M_option_18 : decode b_M_option 18 = .ok (.ifCond .lt 33, 3) := by decide +kernel
theorem d_M_option_21 : decode b_M_option 21 = .ok (.iload_n 3, 1) := by decide +kernel
theorem d_M_option_22 : decode b_M_option 22 = .ok (.iconst 3, 1) := by decide +kernel
theorem d_M_option_23 : decode b_M_option 23 = .ok (.if_icmp .gt 28, 3) := by decide +kernel
theorem d_M_option_26 : decode b_M_option 26 = .ok (.aload_n 0, 1) := by decide +kernel
theorem d_M_option_27 : decode b_M_option 27 = .ok (.dload 4, 2) := by decide +kernel
theorem d_M_option_29 : decode b_M_option 29 = .ok (.ldc2_w 84, 3) := by decide +kernel
theorem d_M_option_32 : decode b_M_option 32 = .ok (.invokevirtual 86, 3) := by decide +kernel
theorem d_M_option_35 : decode b_M_option 35 = .ok (.ifCond .ne 16, 3) := by decide +kernel
theorem d_M_option_38 : decode b_M_option 38 = .ok (.iload 6, 2) := by decide +kernel
theorem d_M_option_40 : decode b_M_option 40 = .ok (.iconst 1, 1) := by decide +kernel
theorem d_M_option_41 : decode b_M_option 41 = .ok (.if_icmp .lt 10, 3) := by decide +kernel
theorem d_M_option_44 : decode b_M_option 44 = .ok (.iload 6, 2) := by decide +kernel
theorem d_M_option_46 : decode b_M_option 46 = .ok (.bipush 20, 2) := by decide +kernel
theorem d_M_option_48 : decode b_M_option 48 = .ok (.if_icmp .le 7, 3) := by decide +kernel
theorem d_M_option_51 : decode b_M_option 51 = .ok (.iconst 1, 1) := by decide +kernel
theorem d_M_option_52 : decode b_M_option 52 = .ok (.goto 17, 3) := by decide +kernel
theorem d_M_option_55 : decode b_M_option 55 = .ok (.aload_n 0, 1) := by decide +kernel
theorem d_M_option_56 : decode b_M_option 56 = .ok (.getfield 79, 3) := by decide +kernel
theorem d_M_option_59 : decode b_M_option 59 = .ok (.bipush 16, 2) := by decide +kernel
theorem d_M_option_61 : decode b_M_option 61 = .ok (.if_icmp .ne 7, 3) := by decide +kernel
theorem d_M_option_64 : decode b_M_option 64 = .ok (.iconst 2, 1) := by decide +kernel
theorem d_M_option_65 : decode b_M_option 65 = .ok (.goto 4, 3) := by decide +kernel
theorem d_M_option_68 : decode b_M_option 68 = .ok (.iconst 0, 1) := by decide +kernel
theorem d_M_option_69 : decode b_M_option 69 = .ok (.putfield 75, 3) := by decide +kernel
theorem d_M_option_72 : decode b_M_option 72 = .ok (.aload_n 0, 1) := by decide +kernel
theorem d_M_option_73 : decode b_M_option 73 = .ok (.getfield 75, 3) := by decide +kernel
theorem d_M_option_76 : decode b_M_option 76 = .ok (.ifCond .eq 5, 3) := by decide +kernel
theorem d_M_option_79 : decode b_M_option 79 = .ok (.iconst 0, 1) := by decide +kernel
theorem d_M_option_80 : decode b_M_option 80 = .ok (.ireturn, 1) := by decide +kernel
theorem d_M_option_81 : decode b_M_option 81 = .ok (.aload_n 0, 1) := by decide +kernel
theorem d_M_option_82 : decode b_M_option 82 = .ok (.iconst 3, 1) := by decide +kernel
theorem d_M_option_83 : decode b_M_option 83 = .ok (.iload_n 1, 1) := by decide +kernel
theorem d_M_option_84 : decode b_M_option 84 = .ok (.iload_n 2, 1) := by decide +kernel
theorem d_M_option_85 : decode b_M_option 85 = .ok (.invokevirtual 90, 3) := by decide +kernel
theorem d_M_option_88 : decode b_M_option 88 = .ok (.istore 7, 2) := by decide +kernel
theorem d_M_option_90 : decode b_M_option 90 = .ok (.aload_n 0, 1) := by decide +kernel
theorem d_M_option_91 : decode b_M_option 91 = .ok (.getfield 39, 3) := by decide +kernel
theorem d_M_option_94 : decode b_M_option 94 = .ok (.iload 7, 2) := by decide +kernel
theorem d_M_option_96 : decode b_M_option 96 = .ok (.iload_n 3, 1) := by decide +kernel
theorem d_M_option_97 : decode b_M_option 97 = .ok (.iastore, 1) := by decide +kernel
theorem d_M_option_98 : decode b_M_option 98 = .ok (.aload_n 0, 1) := by decide +kernel
theorem d_M_option_99 : decode b_M_option 99 = .ok (.getfield 33, 3) := by decide +kernel
theorem d_M_option_102 : decode b_M_option 102 = .ok (.iload 7, 2) := by decide +kernel
theorem d_M_option_104 : decode b_M_option 104 = .ok (.dload 4, 2) := by decide +kernel
theorem d_M_option_106 : decode b_M_option 106 = .ok (.ldc2_w 94, 3) := by decide +kernel
theorem d_M_option_109 : decode b_M_option 109 = .ok (.dmul, 1) := by decide +kernel
theorem d_M_option_110 : decode b_M_option 110 = .ok (.d2l, 1) := by decide +kernel
theorem d_M_option_111 : decode b_M_option 111 = .ok (.lastore, 1) := by decide +kernel
theorem d_M_option_112 : decode b_M_option 112 = .ok (.aload_n 0, 1) := by decide +kernel
theorem d_M_option_113 : decode b_M_option 113 = .ok (.getfield 42, 3) := by decide +kernel
theorem d_M_option_116 : decode b_M_option 116 = .ok (.iload 7, 2) := by decide +kernel
theorem d_M_option_118 : decode b_M_option 118 = .ok (.iload 6, 2) := by decide +kernel
theorem d_M_option_120 : decode b_M_option 120 = .ok (.iastore, 1) := by decide +kernel
theorem d_M_option_121 : decode b_M_option 121 = .ok (.iload 7, 2) := by decide +kernel
theorem d_M_option_123 : decode b_M_option 123 = .ok (.ireturn, 1) := by decide +kernel
theorem d_M_paths_0 : decode b_M_paths 0 = .ok (.ldc2_w 168, 3) := by decide +kernel
theorem d_M_paths_3 : decode b_M_paths 3 = .ok (.lstore_n 1, 1) := by decide +kernel
theorem d_M_paths_4 : decode b_M_paths 4 = .ok (.lconst 0, 1) := by decide +kernel
theorem d_M_paths_5 : decode b_M_paths 5 = .ok (.lstore_n 3, 1) := by decide +kernel
theorem d_M_paths_6 : decode b_M_paths 6 = .ok (.iconst 0, 1) := by decide +kernel
theorem d_M_paths_7 : decode b_M_paths 7 = .ok (.istore 5, 2) := by decide +kernel
theorem d_M_paths_9 : decode b_M_paths 9 = .ok (.iload 5, 2) := by decide +kernel
theorem d_M_paths_11 : decode b_M_paths 11 = .ok (.iconst 1, 1) := by decide +kernel
theorem d_M_paths_12 : decode b_M_paths 12 = .ok (.aload_n 0, 1) := by decide +kernel
theorem d_M_paths_13 : decode b_M_paths 13 = .ok (.getfield 54, 3) := by decide +kernel
theorem d_M_paths_16 : decode b_M_paths 16 = .ok (.aload_n 0, 1) := by decide +kernel
theorem d_M_paths_17 : decode b_M_paths 17 = .ok (.getfield 130, 3) := by decide +kernel
theorem d_M_paths_20 : decode b_M_paths 20 = .ok (.iaload, 1) := by decide +kernel
theorem d_M_paths_21 : decode b_M_paths 21 = .ok (.ishl, 1) := by decide +kernel
theorem d_M_paths_22 : decode b_M_paths 22 = .ok (.if_icmp .ge 168, 3) := by decide +kernel
theorem d_M_paths_25 : decode b_M_paths 25 = .ok (.aload_n 0, 1) := by decide +kernel
theorem d_M_paths_26 : decode b_M_paths 26 = .ok (.getfield 157, 3) := by decide +kernel
theorem d_M_paths_29 : decode b_M_paths 29 = .ok (.lstore 6, 2) := by decide +kernel
theorem d_M_paths_31 : decode b_M_paths 31 = .ok (.aload_n 0, 1) := by decide +kernel
theorem d_M_paths_32 : decode b_M_paths 32 = .ok (.getfield 13, 3) := by decide +kernel
theorem d_M_paths_35 : decode b_M_paths 35 = .ok (.aload_n 0, 1) := by decide +kernel
theorem d_M_paths_36 : decode b_M_paths 36 = .ok (.getfield 130, 3) := by decide +kernel
theorem d_M_paths_39 : decode b_M_paths 39 = .ok (.iconst 4, 1) := by decide +kernel
theorem d_M_paths_40 : decode b_M_paths 40 = .ok (.imul, 1) := by decide +kernel
theorem d_M_paths_41 : decode b_M_paths 41 = .ok (.iconst 3, 1) := by decide +kernel
theorem d_M_paths_42 : decode b_M_paths 42 = .ok (.iadd, 1) := by decide +kernel
theorem d_M_paths_43 : decode b_M_paths 43 = .ok (.iaload, 1) := by decide +kernel
theorem d_M_paths_44 : decode b_M_paths 44 = .ok (.ifCond .lt 17, 3) := by decide +kernel
theorem d_M_paths_47 : decode b_M_paths 47 = .ok (.lload 6, 2) := by decide +kernel
theorem d_M_paths_49 : decode b_M_paths 49 = .ok (.aload_n 0, 1) := by decide +kernel
theorem d_M_paths_50 : decode b_M_paths 50 = .ok (.getfield 133, 3) := by decide +kernel
theorem d_M_paths_53 : decode b_M_paths 53 = .ok (.lcmp, 1) := by decide +kernel
theorem d_M_paths_54 : decode b_M_paths 54 = .ok (.ifCond .lt 7, 3) := by decide +kernel
theorem d_M_paths_57 : decode b_M_paths 57 = .ok (.iconst 1, 1) := by decide +kernel
theorem d_M_paths_58 : decode b_M_paths 58 = .ok (.goto 4, 3) := by decide +kernel
theorem d_M_paths_61 : decode b_M_paths 61 = .ok (.iconst 0, 1) := by decide +kernel
theorem d_M_paths_62 : decode b_M_paths 62 = .ok (.istore 8, 2) := by decide +kernel
theorem d_M_paths_64 : decode b_M_paths 64 = .ok (.iconst 0, 1) := by decide +kernel
theorem d_M_paths_65 : decode b_M_paths 65 = .ok (.istore 9, 2) := by decide +kernel
theorem d_M_paths_67 : decode b_M_paths 67 = .ok (.iload 9, 2) := by decide +kernel
theorem d_M_paths_69 : decode b_M_paths 69 = .ok (.aload_n 0, 1) := by decide +kernel
theorem d_M_paths_70 : decode b_M_paths 70 = .ok (.getfield 42, 3) := by decide +kernel
theorem d_M_paths_73 : decode b_M_paths 73 = .ok (.aload_n 0, 1) := by decide +kernel
theorem d_M_paths_74 : decode b_M_paths 74 = .ok (.getfield 130, 3) := by decide +kernel
theorem d_M_paths_77 : decode b_M_paths 77 = .ok (.iaload, 1) := by decide +kernel
theorem d_M_paths_78 : decode b_M_paths 78 = .ok (.if_icmp .ge 92, 3) := by decide +kernel
theorem d_M_paths_81 : decode b_M_paths 81 = .ok (.lload_n 1, 1) := by decide +kernel
end
section
theorem d_M_paths_82 : decode b_M_paths 82 = .ok (.ldc2_w 170, 3) := by decide +kernel
theorem d_M_paths_85 : decode b_M_paths 85 = .ok (.lmul, 1) := by decide +kernel
theorem d_M_paths_86 : decode b_M_paths 86 = .ok (.ldc2_w 168, 3) := by decide +kernel
theorem d_M_paths_89 : decode b_M_paths 89 = .ok (.ladd, 1) := by decide +kernel
theorem d_M_paths_90 : decode b_M_paths 90 = .ok (.ldc2_w 172, 3) := by decide +kernel
theorem d_M_paths_93 : decode b_M_paths 93 = .ok (.land, 1) := by decide +kernel
theorem d_M_paths_94 : decode b_M_paths 94 = .ok (.lstore_n 1, 1) := by decide +kernel
theorem d_M_paths_95 : decode b_M_paths 95 = .ok (.lload 6, 2) := by decide +kernel
theorem d_M_paths_97 : decode b_M_paths 97 = .ok (.lload_n 1, 1) := by decide +kernel
theorem d_M_paths_98 : decode b_M_paths 98 = .ok (.ldc2_w 174, 3) := by decide +kernel
theorem d_M_paths_101 : decode b_M_paths 101 = .ok (.ldiv, 1) := by decide +kernel
theorem d_M_paths_102 : decode b_M_paths 102 = .ok (.ldc2_w 163, 3) := by decide +kernel
theorem d_M_paths_105 : decode b_M_paths 105 = .ok (.lrem, 1) := by decide +kernel
theorem d_M_paths_106 : decode b_M_paths 106 = .ok (.aload_n 0, 1) := by decide +kernel
theorem d_M_paths_107 : decode b_M_paths 107 = .ok (.getfield 45, 3) := by decide +kernel
theorem d_M_paths_110 : decode b_M_paths 110 = .ok (.aload_n 0, 1) := by decide +kernel
theorem d_M_paths_111 : decode b_M_paths 111 = .ok (.getfield 130, 3) := by decide +kernel
theorem d_M_paths_114 : decode b_M_paths 114 = .ok (.iaload, 1) := by decide +kernel
theorem d_M_paths_115 : decode b_M_paths 115 = .ok (.i2l, 1) := by decide +kernel
theorem d_M_paths_116 : decode b_M_paths 116 = .ok (.lcmp, 1) := by decide +kernel
theorem d_M_paths_117 : decode b_M_paths 117 = .ok (.ifCond .ge 10, 3) := by decide +kernel
theorem d_M_paths_120 : decode b_M_paths 120 = .ok (.aload_n 0, 1) := by decide +kernel
theorem d_M_paths_121 : decode b_M_paths 121 = .ok (.getfield 160, 3) := by decide +kernel
theorem d_M_paths_124 : decode b_M_paths 124 = .ok (.goto 8, 3) := by decide +kernel
theorem d_M_paths_127 : decode b_M_paths 127 = .ok (.aload_n 0, 1) := by decide +kernel
theorem d_M_paths_128 : decode b_M_paths 128 = .ok (.getfield 160, 3) := by decide +kernel
theorem d_M_paths_131 : decode b_M_paths 131 = .ok (.lneg, 1) := by decide +kernel
theorem d_M_paths_132 : decode b_M_paths 132 = .ok (.ladd, 1) := by decide +kernel
theorem d_M_paths_133 : decode b_M_paths 133 = .ok (.lstore 6, 2) := by decide +kernel
theorem d_M_paths_135 : decode b_M_paths 135 = .ok (.aload_n 0, 1) := by decide +kernel
theorem d_M_paths_136 : decode b_M_paths 136 = .ok (.getfield 13, 3) := by decide +kernel
theorem d_M_paths_139 : decode b_M_paths 139 = .ok (.aload_n 0, 1) := by decide +kernel
theorem d_M_paths_140 : decode b_M_paths 140 = .ok (.getfield 130, 3) := by decide +kernel
theorem d_M_paths_143 : decode b_M_paths 143 = .ok (.iconst 4, 1) := by decide +kernel
theorem d_M_paths_144 : decode b_M_paths 144 = .ok (.imul, 1) := by decide +kernel
theorem d_M_paths_145 : decode b_M_paths 145 = .ok (.iconst 3, 1) := by decide +kernel
theorem d_M_paths_146 : decode b_M_paths 146 = .ok (.iadd, 1) := by decide +kernel
theorem d_M_paths_147 : decode b_M_paths 147 = .ok (.iaload, 1) := by decide +kernel
theorem d_M_paths_148 : decode b_M_paths 148 = .ok (.ifCond .lt 16, 3) := by decide +kernel
theorem d_M_paths_151 : decode b_M_paths 151 = .ok (.lload 6, 2) := by decide +kernel
theorem d_M_paths_153 : decode b_M_paths 153 = .ok (.aload_n 0, 1) := by decide +kernel
theorem d_M_paths_154 : decode b_M_paths 154 = .ok (.getfield 133, 3) := by decide +kernel
theorem d_M_paths_157 : decode b_M_paths 157 = .ok (.lcmp, 1) := by decide +kernel
theorem d_M_paths_158 : decode b_M_paths 158 = .ok (.ifCond .lt 6, 3) := by decide +kernel
theorem d_M_paths_161 : decode b_M_paths 161 = .ok (.iconst 1, 1) := by decide +kernel
theorem d_M_paths_162 : decode b_M_paths 162 = .ok (.istore 8, 2) := by decide +kernel
theorem d_M_paths_164 : decode b_M_paths 164 = .ok (.iinc 9 1, 3) := by decide +kernel
theorem d_M_paths_167 : decode b_M_paths 167 = .ok (.goto (-100), 3) := by decide +kernel
theorem d_M_paths_170 : decode b_M_paths 170 = .ok (.iload 8, 2) := by decide +kernel
theorem d_M_paths_172 : decode b_M_paths 172 = .ok (.ifCond .ne 12, 3) := by decide +kernel
theorem d_M_paths_175 : decode b_M_paths 175 = .ok (.lload_n 3, 1) := by decide +kernel
theorem d_M_paths_176 : decode b_M_paths 176 = .ok (.aload_n 0, 1) := by decide +kernel
theorem d_M_paths_177 : decode b_M_paths 177 = .ok (.lload 6, 2) := by decide +kernel
theorem d_M_paths_179 : decode b_M_paths 179 = .ok (.invokevirtual 154, 3) := by decide +kernel
theorem d_M_paths_182 : decode b_M_paths 182 = .ok (.ladd, 1) := by decide +kernel
theorem d_M_paths_183 : decode b_M_paths 183 = .ok (.lstore_n 3, 1) := by decide +kernel
theorem d_M_paths_184 : decode b_M_paths 184 = .ok (.iinc 5 1, 3) := by decide +kernel
theorem d_M_paths_187 : decode b_M_paths 187 = .ok (.goto (-178), 3) := by decide +kernel
theorem d_M_paths_190 : decode b_M_paths 190 = .ok (.aload_n 0, 1) := by decide +kernel
theorem d_M_paths_191 : decode b_M_paths 191 = .ok (.aload_n 0, 1) := by decide +kernel
theorem d_M_paths_192 : decode b_M_paths 192 = .ok (.lload_n 3, 1) := by decide +kernel
theorem d_M_paths_193 : decode b_M_paths 193 = .ok (.ldc2_w 176, 3) := by decide +kernel
theorem d_M_paths_196 : decode b_M_paths 196 = .ok (.lmul, 1) := by decide +kernel
theorem d_M_paths_197 : decode b_M_paths 197 = .ok (.lconst 1, 1) := by decide +kernel
theorem d_M_paths_198 : decode b_M_paths 198 = .ok (.aload_n 0, 1) := by decide +kernel
theorem d_M_paths_199 : decode b_M_paths 199 = .ok (.getfield 54, 3) := by decide +kernel
theorem d_M_paths_202 : decode b_M_paths 202 = .ok (.aload_n 0, 1) := by decide +kernel
theorem d_M_paths_203 : decode b_M_paths 203 = .ok (.getfield 130, 3) := by decide +kernel
theorem d_M_paths_206 : decode b_M_paths 206 = .ok (.iaload, 1) := by decide +kernel
theorem d_M_paths_207 : decode b_M_paths 207 = .ok (.lshl, 1) := by decide +kernel
theorem d_M_paths_208 : decode b_M_paths 208 = .ok (.ladd, 1) := by decide +kernel
theorem d_M_paths_209 : decode b_M_paths 209 = .ok (.ldc2_w 176, 3) := by decide +kernel
theorem d_M_paths_212 : decode b_M_paths 212 = .ok (.aload_n 0, 1) := by decide +kernel
theorem d_M_paths_213 : decode b_M_paths 213 = .ok (.getfield 54, 3) := by decide +kernel
theorem d_M_paths_216 : decode b_M_paths 216 = .ok (.aload_n 0, 1) := by decide +kernel
theorem d_M_paths_217 : decode b_M_paths 217 = .ok (.getfield 130, 3) := by decide +kernel
theorem d_M_paths_220 : decode b_M_paths 220 = .ok (.iaload, 1) := by decide +kernel
theorem d_M_paths_221 : decode b_M_paths 221 = .ok (.lshl, 1) := by decide +kernel
theorem d_M_paths_222 : decode b_M_paths 222 = .ok (.invokevirtual 146, 3) := by decide +kernel
theorem d_M_paths_225 : decode b_M_paths 225 = .ok (.invokevirtual 150, 3) := by decide +kernel
theorem d_M_paths_228 : decode b_M_paths 228 = .ok (.lstore 5, 2) := by decide +kernel
theorem d_M_paths_230 : decode b_M_paths 230 = .ok (.iconst 0, 1) := by decide +kernel
theorem d_M_paths_231 : decode b_M_paths 231 = .ok (.istore 7, 2) := by decide +kernel
theorem d_M_paths_233 : decode b_M_paths 233 = .ok (.iload 7, 2) := by decide +kernel
theorem d_M_paths_235 : decode b_M_paths 235 = .ok (.aload_n 0, 1) := by decide +kernel
theorem d_M_paths_236 : decode b_M_paths 236 = .ok (.getfield 42, 3) := by decide +kernel
theorem d_M_paths_239 : decode b_M_paths 239 = .ok (.aload_n 0, 1) := by decide +kernel
theorem d_M_paths_240 : decode b_M_paths 240 = .ok (.getfield 130, 3) := by decide +kernel
theorem d_M_paths_243 : decode b_M_paths 243 = .ok (.iaload, 1) := by decide +kernel
theorem d_M_paths_244 : decode b_M_paths 244 = .ok (.if_icmp .ge 33, 3) := by decide +kernel
theorem d_M_paths_247 : decode b_M_paths 247 = .ok (.aload_n 0, 1) := by decide +kernel
theorem d_M_paths_248 : decode b_M_paths 248 = .ok (.aload_n 0, 1) := by decide +kernel
theorem d_M_paths_249 : decode b_M_paths 249 = .ok (.aload_n 0, 1) := by decide +kernel
theorem d_M_paths_250 : decode b_M_paths 250 = .ok (.getfield 139, 3) := by decide +kernel
theorem d_M_paths_253 : decode b_M_paths 253 = .ok (.lload 5, 2) := by decide +kernel
theorem d_M_paths_255 : decode b_M_paths 255 = .ok (.lmul, 1) := by decide +kernel
theorem d_M_paths_256 : decode b_M_paths 256 = .ok (.ldc2_w 178, 3) := by decide +kernel
theorem d_M_paths_259 : decode b_M_paths 259 = .ok (.ladd, 1) := by decide +kernel
theorem d_M_paths_260 : decode b_M_paths 260 = .ok (.ldc2_w 180, 3) := by decide +kernel
theorem d_M_paths_263 : decode b_M_paths 263 = .ok (.invokevirtual 146, 3) := by decide +kernel
theorem d_M_paths_266 : decode b_M_paths 266 = .ok (.invokevirtual 150, 3) := by decide +kernel
theorem d_M_paths_269 : decode b_M_paths 269 = .ok (.lstore 5, 2) := by decide +kernel
theorem d_M_paths_271 : decode b_M_paths 271 = .ok (.iinc 7 1, 3) := by decide +kernel
theorem d_M_paths_274 : decode b_M_paths 274 = .ok (.goto (-41), 3) := by decide +kernel
theorem d_M_paths_277 : decode b_M_paths 277 = .ok (.lload 5, 2) := by decide +kernel
theorem d_M_paths_279 : decode b_M_paths 279 = .ok (.lreturn, 1) := by decide +kernel
theorem d_M_payoff_0 : decode b_M_payoff 0 = .ok (.lload_n 1, 1) := by decide +kernel
theorem d_M_payoff_1 : decode b_M_payoff 1 = .ok (.aload_n 0, 1) := by decide +kernel
theorem d_M_payoff_2 : decode b_M_payoff 2 = .ok (.getfield 33, 3) := by decide +kernel
theorem d_M_payoff_5 : decode b_M_payoff 5 = .ok (.aload_n 0, 1) := by decide +kernel
theorem d_M_payoff_6 : decode b_M_payoff 6 = .ok (.getfield 130, 3) := by decide +kernel
theorem d_M_payoff_9 : decode b_M_payoff 9 = .ok (.laload, 1) := by decide +kernel
theorem d_M_payoff_10 : decode b_M_payoff 10 = .ok (.lsub, 1) := by decide +kernel
theorem d_M_payoff_11 : decode b_M_payoff 11 = .ok (.lstore_n 3, 1) := by decide +kernel
theorem d_M_payoff_12 : decode b_M_payoff 12 = .ok (.aload_n 0, 1) := by decide +kernel
theorem d_M_payoff_13 : decode b_M_payoff 13 = .ok (.getfield 13, 3) := by decide +kernel
theorem d_M_payoff_16 : decode b_M_payoff 16 = .ok (.aload_n 0, 1) := by decide +kernel
theorem d_M_payoff_17 : decode b_M_payoff 17 = .ok (.getfield 130, 3) := by decide +kernel
theorem d_M_payoff_20 : decode b_M_payoff 20 = .ok (.iconst 4, 1) := by decide +kernel
theorem d_M_payoff_21 : decode b_M_payoff 21 = .ok (.imul, 1) := by decide +kernel
theorem d_M_payoff_22 : decode b_M_payoff 22 = .ok (.iconst 3, 1) := by decide +kernel
theorem d_M_payoff_23 : decode b_M_payoff 23 = .ok (.iadd, 1) := by decide +kernel
theorem d_M_payoff_24 : decode b_M_payoff 24 = .ok (.iaload, 1) := by decide +kernel
theorem d_M_payoff_25 : decode b_M_payoff 25 = .ok (.ifCond .lt 14, 3) := by decide +kernel
theorem d_M_payoff_28 : decode b_M_payoff 28 = .ok (.lload_n 1, 1) := by decide +kernel
theorem d_M_payoff_29 : decode b_M_payoff 29 = .ok (.aload_n 0, 1) := by decide +kernel
theorem d_M_payoff_30 : decode b_M_payoff 30 = .ok (.getfield 133, 3) := by decide +kernel
theorem d_M_payoff_33 : decode b_M_payoff 33 = .ok (.lcmp, 1) := by decide +kernel
theorem d_M_payoff_34 : decode b_M_payoff 34 = .ok (.ifCond .lt 5, 3) := by decide +kernel
theorem d_M_payoff_37 : decode b_M_payoff 37 = .ok (.lconst 0, 1) := by decide +kernel
theorem d_M_payoff_38 : decode b_M_payoff 38 = .ok (.lreturn, 1) := by decide +kernel
theorem d_M_payoff_39 : decode b_M_payoff 39 = .ok (.aload_n 0, 1) := by decide +kernel
theorem d_M_payoff_40 : decode b_M_payoff 40 = .ok (.getfield 39, 3) := by decide +kernel
theorem d_M_payoff_43 : decode b_M_payoff 43 = .ok (.aload_n 0, 1) := by decide +kernel
theorem d_M_payoff_44 : decode b_M_payoff 44 = .ok (.getfield 130, 3) := by decide +kernel
theorem d_M_payoff_47 : decode b_M_payoff 47 = .ok (.iaload, 1) := by decide +kernel
theorem d_M_payoff_48 : decode b_M_payoff 48 = .ok (.ifCond .ne 15, 3) := by decide +kernel
theorem d_M_payoff_51 : decode b_M_payoff 51 = .ok (.lload_n 3, 1) := by decide +kernel
theorem d_M_payoff_52 : decode b_M_payoff 52 = .ok (.lconst 0, 1) := by decide +kernel
theorem d_M_payoff_53 : decode b_M_payoff 53 = .ok (.lcmp, 1) := by decide +kernel
theorem d_M_payoff_54 : decode b_M_payoff 54 = .ok (.ifCond .le 7, 3) := by decide +kernel
theorem d_M_payoff_57 : decode b_M_payoff 57 = .ok (.lload_n 3, 1) := by decide +kernel
theorem d_M_payoff_58 : decode b_M_payoff 58 = .ok (.goto 4, 3) := by decide +kernel
theorem d_M_payoff_61 : decode b_M_payoff 61 = .ok (.lconst 0, 1) := by decide +kernel
theorem d_M_payoff_62 : decode b_M_payoff 62 = .ok (.lreturn, 1) := by decide +kernel
theorem d_M_payoff_63 : decode b_M_payoff 63 = .ok (.aload_n 0, 1) := by decide +kernel
theorem d_M_payoff_64 : decode b_M_payoff 64 = .ok (.getfield 39, 3) := by decide +kernel
theorem d_M_payoff_67 : decode b_M_payoff 67 = .ok (.aload_n 0, 1) := by decide +kernel
theorem d_M_payoff_68 : decode b_M_payoff 68 = .ok (.getfield 130, 3) := by decide +kernel
theorem d_M_payoff_71 : decode b_M_payoff 71 = .ok (.iaload, 1) := by decide +kernel
theorem d_M_payoff_72 : decode b_M_payoff 72 = .ok (.iconst 1, 1) := by decide +kernel
theorem d_M_payoff_73 : decode b_M_payoff 73 = .ok (.if_icmp .ne 16, 3) := by decide +kernel
theorem d_M_payoff_76 : decode b_M_payoff 76 = .ok (.lload_n 3, 1) := by decide +kernel
theorem d_M_payoff_77 : decode b_M_payoff 77 = .ok (.lconst 0, 1) := by decide +kernel
theorem d_M_payoff_78 : decode b_M_payoff 78 = .ok (.lcmp, 1) := by decide +kernel
theorem d_M_payoff_79 : decode b_M_payoff 79 = .ok (.ifCond .ge 8, 3) := by decide +kernel
theorem d_M_payoff_82 : decode b_M_payoff 82 = .ok (.lload_n 3, 1) := by decide +kernel
theorem d_M_payoff_83 : decode b_M_payoff 83 = .ok (.lneg, 1) := by decide +kernel
theorem d_M_payoff_84 : decode b_M_payoff 84 = .ok (.goto 4, 3) := by decide +kernel
theorem d_M_payoff_87 : decode b_M_payoff 87 = .ok (.lconst 0, 1) := by decide +kernel
theorem d_M_payoff_88 : decode b_M_payoff 88 = .ok (.lreturn, 1) := by decide +kernel
theorem d_M_payoff_89 : decode b_M_payoff 89 = .ok (.aload_n 0, 1) := by decide +kernel
theorem d_M_payoff_90 : decode b_M_payoff 90 = .ok (.getfield 39, 3) := by decide +kernel
theorem d_M_payoff_93 : decode b_M_payoff 93 = .ok (.aload_n 0, 1) := by decide +kernel
theorem d_M_payoff_94 : decode b_M_payoff 94 = .ok (.getfield 130, 3) := by decide +kernel
theorem d_M_payoff_97 : decode b_M_payoff 97 = .ok (.iaload, 1) := by decide +kernel
theorem d_M_payoff_98 : decode b_M_payoff 98 = .ok (.iconst 2, 1) := by decide +kernel
theorem d_M_payoff_99 : decode b_M_payoff 99 = .ok (.if_icmp .ne 19, 3) := by decide +kernel
theorem d_M_payoff_102 : decode b_M_payoff 102 = .ok (.lload_n 3, 1) := by decide +kernel
theorem d_M_payoff_103 : decode b_M_payoff 103 = .ok (.lconst 0, 1) := by decide +kernel
theorem d_M_payoff_104 : decode b_M_payoff 104 = .ok (.lcmp, 1) := by decide +kernel
theorem d_M_payoff_105 : decode b_M_payoff 105 = .ok (.ifCond .lt 9, 3) := by decide +kernel
theorem d_M_payoff_108 : decode b_M_payoff 108 = .ok (.ldc2_w 137, 3) := by decide +kernel
theorem d_M_payoff_111 : decode b_M_payoff 111 = .ok (.goto 8, 3) := by decide +kernel
theorem d_M_payoff_114 : decode b_M_payoff 114 = .ok (.lconst 0, 1) := by decide +kernel
theorem d_M_payoff_115 : decode b_M_payoff 115 = .ok (.goto 4, 3) := by decide +kernel
theorem d_M_payoff_118 : decode b_M_payoff 118 = .ok (.lload_n 3, 1) := by decide +kernel
theorem d_M_payoff_119 : decode b_M_payoff 119 = .ok (.lreturn, 1) := by decide +kernel
theorem d_M_quote_0 : decode b_M_quote 0 = .ok (.aload_n 0, 1) := by decide +kernel
theorem d_M_quote_1 : decode b_M_quote 1 = .ok (.aload_n 0, 1) := by decide +kernel
theorem d_M_quote_2 : decode b_M_quote 2 = .ok (.dload_n 1, 1) := by decide +kernel
theorem d_M_quote_3 : decode b_M_quote 3 = .ok (.ldc2_w 84, 3) := by decide +kernel
theorem d_M_quote_6 : decode b_M_quote 6 = .ok (.invokevirtual 86, 3) := by decide +kernel
theorem d_M_quote_9 : decode b_M_quote 9 = .ok (.ifCond .eq 7, 3) := by decide +kernel
theorem d_M_quote_12 : decode b_M_quote 12 = .ok (.iconst 1, 1) := by decide +kernel
theorem d_M_quote_13 : decode b_M_quote 13 = .ok (.goto 17, 3) := by decide +kernel
theorem d_M_quote_16 : decode b_M_quote 16 = .ok (.aload_n 0, 1) := by decide +kernel
theorem d_M_quote_17 : decode b_M_quote 17 = .ok (.getfield 79, 3) := by decide +kernel
theorem d_M_quote_20 : decode b_M_quote 20 = .ok (.bipush 16, 2) := by decide +kernel
theorem d_M_quote_22 : decode b_M_quote 22 = .ok (.if_icmp .ne 7, 3) := by decide +kernel
theorem d_M_quote_25 : decode b_M_quote 25 = .ok (.iconst 2, 1) := by decide +kernel
theorem d_M_quote_26 : decode b_M_quote 26 = .ok (.goto 4, 3) := by decide +kernel
theorem d_M_quote_29 : decode b_M_quote 29 = .ok (.iconst 0, 1) := by decide +kernel
theorem d_M_quote_30 : decode b_M_quote 30 = .ok (.putfield 75, 3) := by decide +kernel
theorem d_M_quote_33 : decode b_M_quote 33 = .ok (.aload_n 0, 1) := by decide +kernel
theorem d_M_quote_34 : decode b_M_quote 34 = .ok (.getfield 75, 3) := by decide +kernel
theorem d_M_quote_37 : decode b_M_quote 37 = .ok (.ifCond .eq 5, 3) := by decide +kernel
theorem d_M_quote_40 : decode b_M_quote 40 = .ok (.iconst 0, 1) := by decide +kernel
theorem d_M_quote_41 : decode b_M_quote 41 = .ok (.ireturn, 1) := by decide +kernel
theorem d_M_quote_42 : decode b_M_quote 42 = .ok (.aload_n 0, 1) := by decide +kernel
theorem d_M_quote_43 : decode b_M_quote 43 = .ok (.iconst 0, 1) := by decide +kernel
theorem d_M_quote_44 : decode b_M_quote 44 = .ok (.iconst (-1), 1) := by decide +kernel
theorem d_M_quote_45 : decode b_M_quote 45 = .ok (.iconst (-1), 1) := by decide +kernel
theorem d_M_quote_46 : decode b_M_quote 46 = .ok (.invokevirtual 90, 3) := by decide +kernel
theorem d_M_quote_49 : decode b_M_quote 49 = .ok (.istore_n 3, 1) := by decide +kernel
theorem d_M_quote_50 : decode b_M_quote 50 = .ok (.aload_n 0, 1) := by decide +kernel
theorem d_M_quote_51 : decode b_M_quote 51 = .ok (.getfield 16, 3) := by decide +kernel
theorem d_M_quote_54 : decode b_M_quote 54 = .ok (.iload_n 3, 1) := by decide +kernel
theorem d_M_quote_55 : decode b_M_quote 55 = .ok (.dload_n 1, 1) := by decide +kernel
theorem d_M_quote_56 : decode b_M_quote 56 = .ok (.ldc2_w 94, 3) := by decide +kernel
theorem d_M_quote_59 : decode b_M_quote 59 = .ok (.dmul, 1) := by decide +kernel
theorem d_M_quote_60 : decode b_M_quote 60 = .ok (.d2l, 1) := by decide +kernel
theorem d_M_quote_61 : decode b_M_quote 61 = .ok (.lastore, 1) := by decide +kernel
theorem d_M_quote_62 : decode b_M_quote 62 = .ok (.iload_n 3, 1) := by decide +kernel
theorem d_M_quote_63 : decode b_M_quote 63 = .ok (.ireturn, 1) := by decide +kernel
theorem d_M_result_0 : decode b_M_result 0 = .ok (.aload_n 0, 1) := by decide +kernel
theorem d_M_result_1 : decode b_M_result 1 = .ok (.getfield 7, 3) := by decide +kernel
theorem d_M_result_4 : decode b_M_result 4 = .ok (.iload_n 1, 1) := by decide +kernel
theorem d_M_result_5 : decode b_M_result 5 = .ok (.iaload, 1) := by decide +kernel
theorem d_M_result_6 : decode b_M_result 6 = .ok (.iconst 3, 1) := by decide +kernel
theorem d_M_result_7 : decode b_M_result 7 = .ok (.if_icmp .ge 19, 3) := by decide +kernel
theorem d_M_result_10 : decode b_M_result 10 = .ok (.aload_n 0, 1) := by decide +kernel
theorem d_M_result_11 : decode b_M_result 11 = .ok (.getfield 16, 3) := by decide +kernel
theorem d_M_result_14 : decode b_M_result 14 = .ok (.aload_n 0, 1) := by decide +kernel
theorem d_M_result_15 : decode b_M_result 15 = .ok (.getfield 13, 3) := by decide +kernel
theorem d_M_result_18 : decode b_M_result 18 = .ok (.iload_n 1, 1) := by decide +kernel
theorem d_M_result_19 : decode b_M_result 19 = .ok (.iconst 4, 1) := by decide +kernel
theorem d_M_result_20 : decode b_M_result 20 = .ok (.imul, 1) := by decide +kernel
theorem d_M_result_21 : decode b_M_result 21 = .ok (.iaload, 1) := by decide +kernel
theorem d_M_result_22 : decode b_M_result 22 = .ok (.laload, 1) := by decide +kernel
theorem d_M_result_23 : decode b_M_result 23 = .ok (.goto 4, 3) := by decide +kernel
theorem d_M_result_26 : decode b_M_result 26 = .ok (.lconst 0, 1) := by decide +kernel
theorem d_M_result_27 : decode b_M_result 27 = .ok (.lstore_n 2, 1) := by decide +kernel
theorem d_M_result_28 : decode b_M_result 28 = .ok (.aload_n 0, 1) := by decide +kernel
theorem d_M_result_29 : decode b_M_result 29 = .ok (.getfield 7, 3) := by decide +kernel
theorem d_M_result_32 : decode b_M_result 32 = .ok (.iload_n 1, 1) := by decide +kernel
theorem d_M_result_33 : decode b_M_result 33 = .ok (.iaload, 1) := by decide +kernel
theorem d_M_result_34 : decode b_M_result 34 = .ok (.iconst 3, 1) := by decide +kernel
theorem d_M_result_35 : decode b_M_result 35 = .ok (.if_icmp .ge 21, 3) := by decide +kernel
theorem d_M_result_38 : decode b_M_result 38 = .ok (.aload_n 0, 1) := by decide +kernel
theorem d_M_result_39 : decode b_M_result 39 = .ok (.getfield 16, 3) := by decide +kernel
theorem d_M_result_42 : decode b_M_result 42 = .ok (.aload_n 0, 1) := by decide +kernel
theorem d_M_result_43 : decode b_M_result 43 = .ok (.getfield 13, 3) := by decide +kernel
theorem d_M_result_46 : decode b_M_result 46 = .ok (.iload_n 1, 1) := by decide +kernel
theorem d_M_result_47 : decode b_M_result 47 = .ok (.iconst 4, 1) := by decide +kernel
theorem d_M_result_48 : decode b_M_result 48 = .ok (.imul, 1) := by decide +kernel
theorem d_M_result_49 : decode b_M_result 49 = .ok (.iconst 1, 1) := by decide +kernel
theorem d_M_result_50 : decode b_M_result 50 = .ok (.iadd, 1) := by decide +kernel
theorem d_M_result_51 : decode b_M_result 51 = .ok (.iaload, 1) := by decide +kernel
theorem d_M_result_52 : decode b_M_result 52 = .ok (.laload, 1) := by decide +kernel
theorem d_M_result_53 : decode b_M_result 53 = .ok (.goto 4, 3) := by decide +kernel
theorem d_M_result_56 : decode b_M_result 56 = .ok (.lconst 0, 1) := by decide +kernel
theorem d_M_result_57 : decode b_M_result 57 = .ok (.lstore 4, 2) := by decide +kernel
theorem d_M_result_59 : decode b_M_result 59 = .ok (.aload_n 0, 1) := by decide +kernel
theorem d_M_result_60 : decode b_M_result 60 = .ok (.getfield 7, 3) := by decide +kernel
theorem d_M_result_63 : decode b_M_result 63 = .ok (.iload_n 1, 1) := by decide +kernel
theorem d_M_result_64 : decode b_M_result 64 = .ok (.iaload, 1) := by decide +kernel
theorem d_M_result_65 : decode b_M_result 65 = .ok (.iconst 1, 1) := by decide +kernel
theorem d_M_result_66 : decode b_M_result 66 = .ok (.if_icmp .ne 33, 3) := by decide +kernel
theorem d_M_result_69 : decode b_M_result 69 = .ok (.aload_n 0, 1) := by decide +kernel
theorem d_M_result_70 : decode b_M_result 70 = .ok (.aload_n 0, 1) := by decide +kernel
theorem d_M_result_71 : decode b_M_result 71 = .ok (.getfield 33, 3) := by decide +kernel
theorem d_M_result_74 : decode b_M_result 74 = .ok (.iload_n 1, 1) := by decide +kernel
theorem d_M_result_75 : decode b_M_result 75 = .ok (.laload, 1) := by decide +kernel
theorem d_M_result_76 : decode b_M_result 76 = .ok (.lload_n 2, 1) := by decide +kernel
theorem d_M_result_77 : decode b_M_result 77 = .ok (.lmul, 1) := by decide +kernel
theorem d_M_result_78 : decode b_M_result 78 = .ok (.aload_n 0, 1) := by decide +kernel
theorem d_M_result_79 : decode b_M_result 79 = .ok (.getfield 36, 3) := by decide +kernel
theorem d_M_result_82 : decode b_M_result 82 = .ok (.iload_n 1, 1) := by decide +kernel
theorem d_M_result_83 : decode b_M_result 83 = .ok (.laload, 1) := by decide +kernel
theorem d_M_result_84 : decode b_M_result 84 = .ok (.lload 4, 2) := by decide +kernel
theorem d_M_result_86 : decode b_M_result 86 = .ok (.lmul, 1) := by decide +kernel
theorem d_M_result_87 : decode b_M_result 87 = .ok (.ladd, 1) := by decide +kernel
theorem d_M_result_88 : decode b_M_result 88 = .ok (.ldc2_w 194, 3) := by decide +kernel
theorem d_M_result_91 : decode b_M_result 91 = .ok (.ladd, 1) := by decide +kernel
theorem d_M_result_92 : decode b_M_result 92 = .ok (.ldc2_w 182, 3) := by decide +kernel
theorem d_M_result_95 : decode b_M_result 95 = .ok (.invokevirtual 146, 3) := by decide +kernel
theorem d_M_result_98 : decode b_M_result 98 = .ok (.lreturn, 1) := by decide +kernel
theorem d_M_result_99 : decode b_M_result 99 = .ok (.aload_n 0, 1) := by decide +kernel
theorem d_M_result_100 : decode b_M_result 100 = .ok (.getfield 7, 3) := by decide +kernel
theorem d_M_result_103 : decode b_M_result 103 = .ok (.iload_n 1, 1) := by decide +kernel
theorem d_M_result_104 : decode b_M_result 104 = .ok (.iaload, 1) := by decide +kernel
theorem d_M_result_105 : decode b_M_result 105 = .ok (.iconst 2, 1) := by decide +kernel
theorem d_M_result_106 : decode b_M_result 106 = .ok (.if_icmp .ne 19, 3) := by decide +kernel
theorem d_M_result_109 : decode b_M_result 109 = .ok (.lload_n 2, 1) := by decide +kernel
theorem d_M_result_110 : decode b_M_result 110 = .ok (.lload 4, 2) := by decide +kernel
theorem d_M_result_112 : decode b_M_result 112 = .ok (.lcmp, 1) := by decide +kernel
theorem d_M_result_113 : decode b_M_result 113 = .ok (.ifCond .le 7, 3) := by decide +kernel
theorem d_M_result_116 : decode b_M_result 116 = .ok (.lload_n 2, 1) := by decide +kernel
theorem d_M_result_117 : decode b_M_result 117 = .ok (.goto 13, 3) := by decide +kernel
theorem d_M_result_120 : decode b_M_result 120 = .ok (.lload 4, 2) := by decide +kernel
theorem d_M_result_122 : decode b_M_result 122 = .ok (.goto 8, 3) := by decide +kernel
theorem d_M_result_125 : decode b_M_result 125 = .ok (.aload_n 0, 1) := by decide +kernel
theorem d_M_result_126 : decode b_M_result 126 = .ok (.iload_n 1, 1) := by decide +kernel
theorem d_M_result_127 : decode b_M_result 127 = .ok (.invokevirtual 196, 3) := by decide +kernel
theorem d_M_result_130 : decode b_M_result 130 = .ok (.lreturn, 1) := by decide +kernel
theorem d_M_set_0 : decode b_M_set 0 = .ok (.aload_n 0, 1) := by decide +kernel
theorem d_M_set_1 : decode b_M_set 1 = .ok (.aload_n 0, 1) := by decide +kernel
theorem d_M_set_2 : decode b_M_set 2 = .ok (.iload_n 1, 1) := by decide +kernel
theorem d_M_set_3 : decode b_M_set 3 = .ok (.invokevirtual 96, 3) := by decide +kernel
theorem d_M_set_6 : decode b_M_set 6 = .ok (.ifCond .ne 23, 3) := by decide +kernel
theorem d_M_set_9 : decode b_M_set 9 = .ok (.aload_n 0, 1) := by decide +kernel
theorem d_M_set_10 : decode b_M_set 10 = .ok (.getfield 7, 3) := by decide +kernel
theorem d_M_set_13 : decode b_M_set 13 = .ok (.iload_n 1, 1) := by decide +kernel
theorem d_M_set_14 : decode b_M_set 14 = .ok (.iaload, 1) := by decide +kernel
theorem d_M_set_15 : decode b_M_set 15 = .ok (.ifCond .ne 14, 3) := by decide +kernel
theorem d_M_set_18 : decode b_M_set 18 = .ok (.aload_n 0, 1) := by decide +kernel
theorem d_M_set_19 : decode b_M_set 19 = .ok (.dload_n 2, 1) := by decide +kernel
theorem d_M_set_20 : decode b_M_set 20 = .ok (.ldc2_w 84, 3) := by decide +kernel
theorem d_M_set_23 : decode b_M_set 23 = .ok (.invokevirtual 86, 3) := by decide +kernel
theorem d_M_set_26 : decode b_M_set 26 = .ok (.ifCond .eq 7, 3) := by decide +kernel
theorem d_M_set_29 : decode b_M_set 29 = .ok (.iconst 1, 1) := by decide +kernel
theorem d_M_set_30 : decode b_M_set 30 = .ok (.goto 4, 3) := by decide +kernel
theorem d_M_set_33 : decode b_M_set 33 = .ok (.iconst 0, 1) := by decide +kernel
theorem d_M_set_34 : decode b_M_set 34 = .ok (.putfield 75, 3) := by decide +kernel
theorem d_M_set_37 : decode b_M_set 37 = .ok (.aload_n 0, 1) := by decide +kernel
theorem d_M_set_38 : decode b_M_set 38 = .ok (.getfield 75, 3) := by decide +kernel
theorem d_M_set_41 : decode b_M_set 41 = .ok (.ifCond .eq 5, 3) := by decide +kernel
theorem d_M_set_44 : decode b_M_set 44 = .ok (.iconst 0, 1) := by decide +kernel
theorem d_M_set_45 : decode b_M_set 45 = .ok (.ireturn, 1) := by decide +kernel
theorem d_M_set_46 : decode b_M_set 46 = .ok (.dload_n 2, 1) := by decide +kernel
theorem d_M_set_47 : decode b_M_set 47 = .ok (.ldc2_w 94, 3) := by decide +kernel
theorem d_M_set_50 : decode b_M_set 50 = .ok (.dmul, 1) := by decide +kernel
theorem d_M_set_51 : decode b_M_set 51 = .ok (.d2l, 1) := by decide +kernel
theorem d_M_set_52 : decode b_M_set 52 = .ok (.lstore 4, 2) := by decide +kernel
theorem d_M_set_54 : decode b_M_set 54 = .ok (.aload_n 0, 1) := by decide +kernel
theorem d_M_set_55 : decode b_M_set 55 = .ok (.getfield 106, 3) := by decide +kernel
theorem d_M_set_58 : decode b_M_set 58 = .ok (.istore 6, 2) := by decide +kernel
theorem d_M_set_60 : decode b_M_set 60 = .ok (.lload 4, 2) := by decide +kernel
theorem d_M_set_62 : decode b_M_set 62 = .ok (.aload_n 0, 1) := by decide +kernel
theorem d_M_set_63 : decode b_M_set 63 = .ok (.getfield 16, 3) := by decide +kernel
theorem d_M_set_66 : decode b_M_set 66 = .ok (.iload_n 1, 1) := by decide +kernel
theorem d_M_set_67 : decode b_M_set 67 = .ok (.laload, 1) := by decide +kernel
theorem d_M_set_68 : decode b_M_set 68 = .ok (.lcmp, 1) := by decide +kernel
theorem d_M_set_69 : decode b_M_set 69 = .ok (.ifCond .eq 21, 3) := by decide +kernel
theorem d_M_set_72 : decode b_M_set 72 = .ok (.aload_n 0, 1) := by decide +kernel
theorem d_M_set_73 : decode b_M_set 73 = .ok (.getfield 16, 3) := by decide +kernel
theorem d_M_set_76 : decode b_M_set 76 = .ok (.iload_n 1, 1) := by decide +kernel
theorem d_M_set_77 : decode b_M_set 77 = .ok (.lload 4, 2) := by decide +kernel
theorem d_M_set_79 : decode b_M_set 79 = .ok (.lastore, 1) := by decide +kernel
theorem d_M_set_80 : decode b_M_set 80 = .ok (.aload_n 0, 1) := by decide +kernel
theorem d_M_set_81 : decode b_M_set 81 = .ok (.aload_n 0, 1) := by decide +kernel
theorem d_M_set_82 : decode b_M_set 82 = .ok (.iload_n 1, 1) := by decide +kernel
theorem d_M_set_83 : decode b_M_set 83 = .ok (.iconst 0, 1) := by decide +kernel
theorem d_M_set_84 : decode b_M_set 84 = .ok (.invokevirtual 109, 3) := by decide +kernel
theorem d_M_set_87 : decode b_M_set 87 = .ok (.invokevirtual 119, 3) := by decide +kernel
theorem d_M_set_90 : decode b_M_set 90 = .ok (.aload_n 0, 1) := by decide +kernel
theorem d_M_set_91 : decode b_M_set 91 = .ok (.getfield 106, 3) := by decide +kernel
theorem d_M_set_94 : decode b_M_set 94 = .ok (.iload 6, 2) := by decide +kernel
theorem d_M_set_96 : decode b_M_set 96 = .ok (.isub, 1) := by decide +kernel
theorem d_M_set_97 : decode b_M_set 97 = .ok (.ireturn, 1) := by decide +kernel
theorem d_M_tell_0 : decode b_M_tell 0 = .ok (.iload_n 1, 1) := by decide +kernel
theorem d_M_tell_1 : decode b_M_tell 1 = .ok (.istore_n 2, 1) := by decide +kernel
theorem d_M_tell_2 : decode b_M_tell 2 = .ok (.iload_n 2, 1) := by decide +kernel
theorem d_M_tell_3 : decode b_M_tell 3 = .ok (.ifCond .le 77, 3) := by decide +kernel
theorem d_M_tell_6 : decode b_M_tell 6 = .ok (.iinc 2 (-1), 3) := by decide +kernel
theorem d_M_tell_9 : decode b_M_tell 9 = .ok (.aload_n 0, 1) := by decide +kernel
theorem d_M_tell_10 : decode b_M_tell 10 = .ok (.getfield 57, 3) := by decide +kernel
theorem d_M_tell_13 : decode b_M_tell 13 = .ok (.iload_n 2, 1) := by decide +kernel
theorem d_M_tell_14 : decode b_M_tell 14 = .ok (.iaload, 1) := by decide +kernel
theorem d_M_tell_15 : decode b_M_tell 15 = .ok (.istore_n 3, 1) := by decide +kernel
theorem d_M_tell_16 : decode b_M_tell 16 = .ok (.aload_n 0, 1) := by decide +kernel
theorem d_M_tell_17 : decode b_M_tell 17 = .ok (.getfield 24, 3) := by decide +kernel
theorem d_M_tell_20 : decode b_M_tell 20 = .ok (.iload_n 3, 1) := by decide +kernel
theorem d_M_tell_21 : decode b_M_tell 21 = .ok (.baload, 1) := by decide +kernel
theorem d_M_tell_22 : decode b_M_tell 22 = .ok (.ifCond .eq 13, 3) := by decide +kernel
theorem d_M_tell_25 : decode b_M_tell 25 = .ok (.aload_n 0, 1) := by decide +kernel
theorem d_M_tell_26 : decode b_M_tell 26 = .ok (.getfield 27, 3) := by decide +kernel
theorem d_M_tell_29 : decode b_M_tell 29 = .ok (.iload_n 3, 1) := by decide +kernel
theorem d_M_tell_30 : decode b_M_tell 30 = .ok (.iconst 1, 1) := by decide +kernel
theorem d_M_tell_31 : decode b_M_tell 31 = .ok (.bastore, 1) := by decide +kernel
theorem d_M_tell_32 : decode b_M_tell 32 = .ok (.goto 45, 3) := by decide +kernel
theorem d_M_tell_35 : decode b_M_tell 35 = .ok (.aload_n 0, 1) := by decide +kernel
theorem d_M_tell_36 : decode b_M_tell 36 = .ok (.getfield 7, 3) := by decide +kernel
theorem d_M_tell_39 : decode b_M_tell 39 = .ok (.iload_n 3, 1) := by decide +kernel
theorem d_M_tell_40 : decode b_M_tell 40 = .ok (.iaload, 1) := by decide +kernel
theorem d_M_tell_41 : decode b_M_tell 41 = .ok (.ifCond .le 36, 3) := by decide +kernel
theorem d_M_tell_44 : decode b_M_tell 44 = .ok (.aload_n 0, 1) := by decide +kernel
theorem d_M_tell_45 : decode b_M_tell 45 = .ok (.getfield 20, 3) := by decide +kernel
theorem d_M_tell_48 : decode b_M_tell 48 = .ok (.iload_n 3, 1) := by decide +kernel
theorem d_M_tell_49 : decode b_M_tell 49 = .ok (.baload, 1) := by decide +kernel
theorem d_M_tell_50 : decode b_M_tell 50 = .ok (.ifCond .eq 27, 3) := by decide +kernel
theorem d_M_tell_53 : decode b_M_tell 53 = .ok (.aload_n 0, 1) := by decide +kernel
theorem d_M_tell_54 : decode b_M_tell 54 = .ok (.getfield 20, 3) := by decide +kernel
theorem d_M_tell_57 : decode b_M_tell 57 = .ok (.iload_n 3, 1) := by decide +kernel
theorem d_M_tell_58 : decode b_M_tell 58 = .ok (.iconst 0, 1) := by decide +kernel
theorem d_M_tell_59 : decode b_M_tell 59 = .ok (.bastore, 1) := by decide +kernel
theorem d_M_tell_60 : decode b_M_tell 60 = .ok (.aload_n 0, 1) := by decide +kernel
theorem d_M_tell_61 : decode b_M_tell 61 = .ok (.dup, 1) := by decide +kernel
theorem d_M_tell_62 : decode b_M_tell 62 = .ok (.getfield 106, 3) := by decide +kernel
theorem d_M_tell_65 : decode b_M_tell 65 = .ok (.iconst 1, 1) := by decide +kernel
theorem d_M_tell_66 : decode b_M_tell 66 = .ok (.iadd, 1) := by decide +kernel
theorem d_M_tell_67 : decode b_M_tell 67 = .ok (.putfield 106, 3) := by decide +kernel
theorem d_M_tell_70 : decode b_M_tell 70 = .ok (.aload_n 0, 1) := by decide +kernel
theorem d_M_tell_71 : decode b_M_tell 71 = .ok (.iload_n 3, 1) := by decide +kernel
theorem d_M_tell_72 : decode b_M_tell 72 = .ok (.iload_n 2, 1) := by decide +kernel
theorem d_M_tell_73 : decode b_M_tell 73 = .ok (.invokevirtual 109, 3) := by decide +kernel
theorem d_M_tell_76 : decode b_M_tell 76 = .ok (.istore_n 2, 1) := by decide +kernel
theorem d_M_tell_77 : decode b_M_tell 77 = .ok (.goto (-75), 3) := by decide +kernel
theorem d_M_tell_80 : decode b_M_tell 80 = .ok (.return_, 1) := by decide +kernel
theorem d_M_terms_0 : decode b_M_terms 0 = .ok (.aload_n 0, 1) := by decide +kernel
theorem d_M_terms_1 : decode b_M_terms 1 = .ok (.aload_n 0, 1) := by decide +kernel
theorem d_M_terms_2 : decode b_M_terms 2 = .ok (.iload_n 1, 1) := by decide +kernel
theorem d_M_terms_3 : decode b_M_terms 3 = .ok (.invokevirtual 113, 3) := by decide +kernel
theorem d_M_terms_6 : decode b_M_terms 6 = .ok (.ifCond .ne 33, 3) := by decide +kernel
theorem d_M_terms_9 : decode b_M_terms 9 = .ok (.aload_n 0, 1) := by decide +kernel
theorem d_M_terms_10 : decode b_M_terms 10 = .ok (.iload_n 1, 1) := by decide +kernel
theorem d_M_terms_11 : decode b_M_terms 11 = .ok (.iload_n 2, 1) := by decide +kernel
theorem d_M_terms_12 : decode b_M_terms 12 = .ok (.invokevirtual 116, 3) := by decide +kernel
theorem d_M_terms_15 : decode b_M_terms 15 = .ok (.ifCond .ne 24, 3) := by decide +kernel
theorem d_M_terms_18 : decode b_M_terms 18 = .ok (.iload_n 3, 1) := by decide +kernel
theorem d_M_terms_19 : decode b_M_terms 19 = .ok (.iconst 1, 1) := by decide +kernel
theorem d_M_terms_20 : decode b_M_terms 20 = .ok (.if_icmp .lt 19, 3) := by decide +kernel
theorem d_M_terms_23 : decode b_M_terms 23 = .ok (.iload_n 3, 1) := by decide +kernel
theorem d_M_terms_24 : decode b_M_terms 24 = .ok (.bipush 15, 2) := by decide +kernel
theorem d_M_terms_26 : decode b_M_terms 26 = .ok (.if_icmp .gt 13, 3) := by decide +kernel
theorem d_M_terms_29 : decode b_M_terms 29 = .ok (.aload_n 0, 1) := by decide +kernel
theorem d_M_terms_30 : decode b_M_terms 30 = .ok (.iload_n 1, 1) := by decide +kernel
theorem d_M_terms_31 : decode b_M_terms 31 = .ok (.iload 5, 2) := by decide +kernel
theorem d_M_terms_33 : decode b_M_terms 33 = .ok (.invokevirtual 116, 3) := by decide +kernel
theorem d_M_terms_36 : decode b_M_terms 36 = .ok (.ifCond .eq 7, 3) := by decide +kernel
theorem d_M_terms_39 : decode b_M_terms 39 = .ok (.iconst 1, 1) := by decide +kernel
theorem d_M_terms_40 : decode b_M_terms 40 = .ok (.goto 17, 3) := by decide +kernel
theorem d_M_terms_43 : decode b_M_terms 43 = .ok (.aload_n 0, 1) := by decide +kernel
theorem d_M_terms_44 : decode b_M_terms 44 = .ok (.getfield 24, 3) := by decide +kernel
theorem d_M_terms_47 : decode b_M_terms 47 = .ok (.iload_n 1, 1) := by decide +kernel
theorem d_M_terms_48 : decode b_M_terms 48 = .ok (.baload, 1) := by decide +kernel
theorem d_M_terms_49 : decode b_M_terms 49 = .ok (.ifCond .eq 7, 3) := by decide +kernel
theorem d_M_terms_52 : decode b_M_terms 52 = .ok (.iconst 2, 1) := by decide +kernel
theorem d_M_terms_53 : decode b_M_terms 53 = .ok (.goto 4, 3) := by decide +kernel
theorem d_M_terms_56 : decode b_M_terms 56 = .ok (.iconst 0, 1) := by decide +kernel
theorem d_M_terms_57 : decode b_M_terms 57 = .ok (.putfield 75, 3) := by decide +kernel
theorem d_M_terms_60 : decode b_M_terms 60 = .ok (.aload_n 0, 1) := by decide +kernel
theorem d_M_terms_61 : decode b_M_terms 61 = .ok (.getfield 75, 3) := by decide +kernel
theorem d_M_terms_64 : decode b_M_terms 64 = .ok (.ifCond .eq 4, 3) := by decide +kernel
theorem d_M_terms_67 : decode b_M_terms 67 = .ok (.return_, 1) := by decide +kernel
theorem d_M_terms_68 : decode b_M_terms 68 = .ok (.aload_n 0, 1) := by decide +kernel
theorem d_M_terms_69 : decode b_M_terms 69 = .ok (.getfield 13, 3) := by decide +kernel
theorem d_M_terms_72 : decode b_M_terms 72 = .ok (.iload_n 1, 1) := by decide +kernel
theorem d_M_terms_73 : decode b_M_terms 73 = .ok (.iconst 4, 1) := by decide +kernel
theorem d_M_terms_74 : decode b_M_terms 74 = .ok (.imul, 1) := by decide +kernel
theorem d_M_terms_75 : decode b_M_terms 75 = .ok (.iconst 2, 1) := by decide +kernel
theorem d_M_terms_76 : decode b_M_terms 76 = .ok (.iadd, 1) := by decide +kernel
theorem d_M_terms_77 : decode b_M_terms 77 = .ok (.iload_n 2, 1) := by decide +kernel
theorem d_M_terms_78 : decode b_M_terms 78 = .ok (.iastore, 1) := by decide +kernel
theorem d_M_terms_79 : decode b_M_terms 79 = .ok (.aload_n 0, 1) := by decide +kernel
theorem d_M_terms_80 : decode b_M_terms 80 = .ok (.getfield 13, 3) := by decide +kernel
theorem d_M_terms_83 : decode b_M_terms 83 = .ok (.iload_n 1, 1) := by decide +kernel
theorem d_M_terms_84 : decode b_M_terms 84 = .ok (.iconst 4, 1) := by decide +kernel
theorem d_M_terms_85 : decode b_M_terms 85 = .ok (.imul, 1) := by decide +kernel
theorem d_M_terms_86 : decode b_M_terms 86 = .ok (.iconst 3, 1) := by decide +kernel
theorem d_M_terms_87 : decode b_M_terms 87 = .ok (.iadd, 1) := by decide +kernel
theorem d_M_terms_88 : decode b_M_terms 88 = .ok (.iload 5, 2) := by decide +kernel
theorem d_M_terms_90 : decode b_M_terms 90 = .ok (.iastore, 1) := by decide +kernel
theorem d_M_terms_91 : decode b_M_terms 91 = .ok (.aload_n 0, 1) := by decide +kernel
theorem d_M_terms_92 : decode b_M_terms 92 = .ok (.getfield 45, 3) := by decide +kernel
theorem d_M_terms_95 : decode b_M_terms 95 = .ok (.iload_n 1, 1) := by decide +kernel
theorem d_M_terms_96 : decode b_M_terms 96 = .ok (.iload_n 3, 1) := by decide +kernel
theorem d_M_terms_97 : decode b_M_terms 97 = .ok (.iastore, 1) := by decide +kernel
theorem d_M_terms_98 : decode b_M_terms 98 = .ok (.aload_n 0, 1) := by decide +kernel
theorem d_M_terms_99 : decode b_M_terms 99 = .ok (.getfield 48, 3) := by decide +kernel
theorem d_M_terms_102 : decode b_M_terms 102 = .ok (.iload_n 1, 1) := by decide +kernel
theorem d_M_terms_103 : decode b_M_terms 103 = .ok (.iload 4, 2) := by decide +kernel
theorem d_M_terms_105 : decode b_M_terms 105 = .ok (.bastore, 1) := by decide +kernel
theorem d_M_terms_106 : decode b_M_terms 106 = .ok (.aload_n 0, 1) := by decide +kernel
theorem d_M_terms_107 : decode b_M_terms 107 = .ok (.getfield 57, 3) := by decide +kernel
theorem d_M_terms_110 : decode b_M_terms 110 = .ok (.iconst 0, 1) := by decide +kernel
theorem d_M_terms_111 : decode b_M_terms 111 = .ok (.iload_n 1, 1) := by decide +kernel
theorem d_M_terms_112 : decode b_M_terms 112 = .ok (.iastore, 1) := by decide +kernel
theorem d_M_terms_113 : decode b_M_terms 113 = .ok (.aload_n 0, 1) := by decide +kernel
theorem d_M_terms_114 : decode b_M_terms 114 = .ok (.iconst 1, 1) := by decide +kernel
theorem d_M_terms_115 : decode b_M_terms 115 = .ok (.invokevirtual 119, 3) := by decide +kernel
theorem d_M_terms_118 : decode b_M_terms 118 = .ok (.return_, 1) := by decide +kernel
theorem d_M_thrown_0 : decode b_M_thrown 0 = .ok (.aload_n 0, 1) := by decide +kernel
theorem d_M_thrown_1 : decode b_M_thrown 1 = .ok (.getfield 75, 3) := by decide +kernel
theorem d_M_thrown_4 : decode b_M_thrown 4 = .ok (.ireturn, 1) := by decide +kernel
theorem d_M_users_0 : decode b_M_users 0 = .ok (.iload_n 2, 1) := by decide +kernel
theorem d_M_users_1 : decode b_M_users 1 = .ok (.istore_n 3, 1) := by decide +kernel
theorem d_M_users_2 : decode b_M_users 2 = .ok (.iconst 0, 1) := by decide +kernel
theorem d_M_users_3 : decode b_M_users 3 = .ok (.istore 4, 2) := by decide +kernel
theorem d_M_users_5 : decode b_M_users 5 = .ok (.iload 4, 2) := by decide +kernel
theorem d_M_users_7 : decode b_M_users 7 = .ok (.aload_n 0, 1) := by decide +kernel
theorem d_M_users_8 : decode b_M_users 8 = .ok (.getfield 79, 3) := by decide +kernel
theorem d_M_users_11 : decode b_M_users 11 = .ok (.if_icmp .ge 100, 3) := by decide +kernel
theorem d_M_users_14 : decode b_M_users 14 = .ok (.iconst 0, 1) := by decide +kernel
theorem d_M_users_15 : decode b_M_users 15 = .ok (.istore 5, 2) := by decide +kernel
theorem d_M_users_17 : decode b_M_users 17 = .ok (.iconst 0, 1) := by decide +kernel
theorem d_M_users_18 : decode b_M_users 18 = .ok (.istore 6, 2) := by decide +kernel
theorem d_M_users_20 : decode b_M_users 20 = .ok (.iload 6, 2) := by decide +kernel
theorem d_M_users_22 : decode b_M_users 22 = .ok (.iconst 4, 1) := by decide +kernel
theorem d_M_users_23 : decode b_M_users 23 = .ok (.if_icmp .ge 28, 3) := by decide +kernel
theorem d_M_users_26 : decode b_M_users 26 = .ok (.aload_n 0, 1) := by decide +kernel
theorem d_M_users_27 : decode b_M_users 27 = .ok (.getfield 13, 3) := by decide +kernel
theorem d_M_users_30 : decode b_M_users 30 = .ok (.iload 4, 2) := by decide +kernel
theorem d_M_users_32 : decode b_M_users 32 = .ok (.iconst 4, 1) := by decide +kernel
theorem d_M_users_33 : decode b_M_users 33 = .ok (.imul, 1) := by decide +kernel
theorem d_M_users_34 : decode b_M_users 34 = .ok (.iload 6, 2) := by decide +kernel
theorem d_M_users_36 : decode b_M_users 36 = .ok (.iadd, 1) := by decide +kernel
theorem d_M_users_37 : decode b_M_users 37 = .ok (.iaload, 1) := by decide +kernel
theorem d_M_users_38 : decode b_M_users 38 = .ok (.iload_n 1, 1) := by decide +kernel
theorem d_M_users_39 : decode b_M_users 39 = .ok (.if_icmp .ne 6, 3) := by decide +kernel
theorem d_M_users_42 : decode b_M_users 42 = .ok (.iconst 1, 1) := by decide +kernel
theorem d_M_users_43 : decode b_M_users 43 = .ok (.istore 5, 2) := by decide +kernel
theorem d_M_users_45 : decode b_M_users 45 = .ok (.iinc 6 1, 3) := by decide +kernel
theorem d_M_users_48 : decode b_M_users 48 = .ok (.goto (-28), 3) := by decide +kernel
theorem d_M_users_51 : decode b_M_users 51 = .ok (.iconst 0, 1) := by decide +kernel
theorem d_M_users_52 : decode b_M_users 52 = .ok (.istore 6, 2) := by decide +kernel
theorem d_M_users_54 : decode b_M_users 54 = .ok (.iconst 0, 1) := by decide +kernel
theorem d_M_users_55 : decode b_M_users 55 = .ok (.istore 7, 2) := by decide +kernel
theorem d_M_users_57 : decode b_M_users 57 = .ok (.iload 7, 2) := by decide +kernel
theorem d_M_users_59 : decode b_M_users 59 = .ok (.iload_n 3, 1) := by decide +kernel
theorem d_M_users_60 : decode b_M_users 60 = .ok (.if_icmp .ge 24, 3) := by decide +kernel
theorem d_M_users_63 : decode b_M_users 63 = .ok (.aload_n 0, 1) := by decide +kernel
theorem d_M_users_64 : decode b_M_users 64 = .ok (.getfield 57, 3) := by decide +kernel
theorem d_M_users_67 : decode b_M_users 67 = .ok (.iload 7, 2) := by decide +kernel
theorem d_M_users_69 : decode b_M_users 69 = .ok (.iaload, 1) := by decide +kernel
theorem d_M_users_70 : decode b_M_users 70 = .ok (.iload 4, 2) := by decide +kernel
theorem d_M_users_72 : decode b_M_users 72 = .ok (.if_icmp .ne 6, 3) := by decide +kernel
theorem d_M_users_75 : decode b_M_users 75 = .ok (.iconst 1, 1) := by decide +kernel
theorem d_M_users_76 : decode b_M_users 76 = .ok (.istore 6, 2) := by decide +kernel
theorem d_M_users_78 : decode b_M_users 78 = .ok (.iinc 7 1, 3) := by decide +kernel
theorem d_M_users_81 : decode b_M_users 81 = .ok (.goto (-24), 3) := by decide +kernel
theorem d_M_users_84 : decode b_M_users 84 = .ok (.iload 5, 2) := by decide +kernel
theorem d_M_users_86 : decode b_M_users 86 = .ok (.ifCond .eq 19, 3) := by decide +kernel
theorem d_M_users_89 : decode b_M_users 89 = .ok (.iload 6, 2) := by decide +kernel
theorem d_M_users_91 : decode b_M_users 91 = .ok (.ifCond .ne 14, 3) := by decide +kernel
theorem d_M_users_94 : decode b_M_users 94 = .ok (.aload_n 0, 1) := by decide +kernel
theorem d_M_users_95 : decode b_M_users 95 = .ok (.getfield 57, 3) := by decide +kernel
theorem d_M_users_98 : decode b_M_users 98 = .ok (.iload_n 3, 1) := by decide +kernel
theorem d_M_users_99 : decode b_M_users 99 = .ok (.iload 4, 2) := by decide +kernel
theorem d_M_users_101 : decode b_M_users 101 = .ok (.iastore, 1) := by decide +kernel
theorem d_M_users_102 : decode b_M_users 102 = .ok (.iinc 3 1, 3) := by decide +kernel
theorem d_M_users_105 : decode b_M_users 105 = .ok (.iinc 4 1, 3) := by decide +kernel
theorem d_M_users_108 : decode b_M_users 108 = .ok (.goto (-103), 3) := by decide +kernel
theorem d_M_users_111 : decode b_M_users 111 = .ok (.iload_n 3, 1) := by decide +kernel
theorem d_M_users_112 : decode b_M_users 112 = .ok (.ireturn, 1) := by decide +kernel
theorem d_M_uses_0 : decode b_M_uses 0 = .ok (.aload_n 0, 1) := by decide +kernel
theorem d_M_uses_1 : decode b_M_uses 1 = .ok (.aload_n 0, 1) := by decide +kernel
theorem d_M_uses_2 : decode b_M_uses 2 = .ok (.iload_n 1, 1) := by decide +kernel
theorem d_M_uses_3 : decode b_M_uses 3 = .ok (.invokevirtual 96, 3) := by decide +kernel
theorem d_M_uses_6 : decode b_M_uses 6 = .ok (.ifCond .ne 11, 3) := by decide +kernel
theorem d_M_uses_9 : decode b_M_uses 9 = .ok (.aload_n 0, 1) := by decide +kernel
theorem d_M_uses_10 : decode b_M_uses 10 = .ok (.iload_n 2, 1) := by decide +kernel
theorem d_M_uses_11 : decode b_M_uses 11 = .ok (.invokevirtual 96, 3) := by decide +kernel
theorem d_M_uses_14 : decode b_M_uses 14 = .ok (.ifCond .eq 7, 3) := by decide +kernel
theorem d_M_uses_17 : decode b_M_uses 17 = .ok (.iconst 1, 1) := by decide +kernel
theorem d_M_uses_18 : decode b_M_uses 18 = .ok (.goto 4, 3) := by decide +kernel
theorem d_M_uses_21 : decode b_M_uses 21 = .ok (.iconst 0, 1) := by decide +kernel
theorem d_M_uses_22 : decode b_M_uses 22 = .ok (.putfield 75, 3) := by decide +kernel
theorem d_M_uses_25 : decode b_M_uses 25 = .ok (.aload_n 0, 1) := by decide +kernel
theorem d_M_uses_26 : decode b_M_uses 26 = .ok (.getfield 75, 3) := by decide +kernel
theorem d_M_uses_29 : decode b_M_uses 29 = .ok (.ifCond .ne 16, 3) := by decide +kernel
theorem d_M_uses_32 : decode b_M_uses 32 = .ok (.aload_n 0, 1) := by decide +kernel
theorem d_M_uses_33 : decode b_M_uses 33 = .ok (.iload_n 1, 1) := by decide +kernel
theorem d_M_uses_34 : decode b_M_uses 34 = .ok (.iload_n 2, 1) := by decide +kernel
theorem d_M_uses_35 : decode b_M_uses 35 = .ok (.invokevirtual 102, 3) := by decide +kernel
theorem d_M_uses_38 : decode b_M_uses 38 = .ok (.ifCond .eq 7, 3) := by decide +kernel
theorem d_M_uses_41 : decode b_M_uses 41 = .ok (.iconst 1, 1) := by decide +kernel
theorem d_M_uses_42 : decode b_M_uses 42 = .ok (.goto 4, 3) := by decide +kernel
theorem d_M_uses_45 : decode b_M_uses 45 = .ok (.iconst 0, 1) := by decide +kernel
theorem d_M_uses_46 : decode b_M_uses 46 = .ok (.ireturn, 1) := by decide +kernel
theorem d_M_value_0 : decode b_M_value 0 = .ok (.aload_n 0, 1) := by decide +kernel
theorem d_M_value_1 : decode b_M_value 1 = .ok (.aload_n 0, 1) := by decide +kernel
theorem d_M_value_2 : decode b_M_value 2 = .ok (.iload_n 1, 1) := by decide +kernel
theorem d_M_value_3 : decode b_M_value 3 = .ok (.invokevirtual 96, 3) := by decide +kernel
theorem d_M_value_6 : decode b_M_value 6 = .ok (.ifCond .eq 7, 3) := by decide +kernel
theorem d_M_value_9 : decode b_M_value 9 = .ok (.iconst 1, 1) := by decide +kernel
theorem d_M_value_10 : decode b_M_value 10 = .ok (.goto 4, 3) := by decide +kernel
theorem d_M_value_13 : decode b_M_value 13 = .ok (.iconst 0, 1) := by decide +kernel
theorem d_M_value_14 : decode b_M_value 14 = .ok (.putfield 75, 3) := by decide +kernel
theorem d_M_value_17 : decode b_M_value 17 = .ok (.aload_n 0, 1) := by decide +kernel
theorem d_M_value_18 : decode b_M_value 18 = .ok (.getfield 75, 3) := by decide +kernel
theorem d_M_value_21 : decode b_M_value 21 = .ok (.ifCond .eq 5, 3) := by decide +kernel
theorem d_M_value_24 : decode b_M_value 24 = .ok (.dconst 0, 1) := by decide +kernel
theorem d_M_value_25 : decode b_M_value 25 = .ok (.dreturn, 1) := by decide +kernel
theorem d_M_value_26 : decode b_M_value 26 = .ok (.aload_n 0, 1) := by decide +kernel
theorem d_M_value_27 : decode b_M_value 27 = .ok (.iload_n 1, 1) := by decide +kernel
theorem d_M_value_28 : decode b_M_value 28 = .ok (.invokevirtual 206, 3) := by decide +kernel
theorem d_M_value_31 : decode b_M_value 31 = .ok (.ifCond .eq 15, 3) := by decide +kernel
theorem d_M_value_34 : decode b_M_value 34 = .ok (.aload_n 0, 1) := by decide +kernel
theorem d_M_value_35 : decode b_M_value 35 = .ok (.getfield 16, 3) := by decide +kernel
theorem d_M_value_38 : decode b_M_value 38 = .ok (.iload_n 1, 1) := by decide +kernel
theorem d_M_value_39 : decode b_M_value 39 = .ok (.laload, 1) := by decide +kernel
theorem d_M_value_40 : decode b_M_value 40 = .ok (.l2d, 1) := by decide +kernel
theorem d_M_value_41 : decode b_M_value 41 = .ok (.ldc2_w 94, 3) := by decide +kernel
theorem d_M_value_44 : decode b_M_value 44 = .ok (.ddiv, 1) := by decide +kernel
theorem d_M_value_45 : decode b_M_value 45 = .ok (.dreturn, 1) := by decide +kernel
theorem d_M_value_46 : decode b_M_value 46 = .ok (.aload_n 0, 1) := by decide +kernel
theorem d_M_value_47 : decode b_M_value 47 = .ok (.aload_n 0, 1) := by decide +kernel
theorem d_M_value_48 : decode b_M_value 48 = .ok (.getfield 127, 3) := by decide +kernel
theorem d_M_value_51 : decode b_M_value 51 = .ok (.putfield 75, 3) := by decide +kernel
theorem d_M_value_54 : decode b_M_value 54 = .ok (.aload_n 0, 1) := by decide +kernel
theorem d_M_value_55 : decode b_M_value 55 = .ok (.dup, 1) := by decide +kernel
theorem d_M_value_56 : decode b_M_value 56 = .ok (.getfield 209, 3) := by decide +kernel
theorem d_M_value_59 : decode b_M_value 59 = .ok (.iconst 1, 1) := by decide +kernel
theorem d_M_value_60 : decode b_M_value 60 = .ok (.iadd, 1) := by decide +kernel
theorem d_M_value_61 : decode b_M_value 61 = .ok (.putfield 209, 3) := by decide +kernel
theorem d_M_value_64 : decode b_M_value 64 = .ok (.dconst 0, 1) := by decide +kernel
theorem d_M_value_65 : decode b_M_value 65 = .ok (.dreturn, 1) := by decide +kernel
theorem d_M_valueOfOption_0 : decode b_M_valueOfOption 0 = .ok (.aload_n 0, 1) := by decide +kernel
theorem d_M_valueOfOption_1 : decode b_M_valueOfOption 1 = .ok (.iload_n 1, 1) := by decide +kernel
theorem d_M_valueOfOption_2 : decode b_M_valueOfOption 2 = .ok (.putfield 130, 3) := by decide +kernel
theorem d_M_valueOfOption_5 : decode b_M_valueOfOption 5 = .ok (.aload_n 0, 1) := by decide +kernel
theorem d_M_valueOfOption_6 : decode b_M_valueOfOption 6 = .ok (.getfield 51, 3) := by decide +kernel
theorem d_M_valueOfOption_9 : decode b_M_valueOfOption 9 = .ok (.iload_n 1, 1) := by decide +kernel
theorem d_M_valueOfOption_10 : decode b_M_valueOfOption 10 = .ok (.iaload, 1) := by decide +kernel
theorem d_M_valueOfOption_11 : decode b_M_valueOfOption 11 = .ok (.iconst 1, 1) := by decide +kernel
theorem d_M_valueOfOption_12 : decode b_M_valueOfOption 12 = .ok (.if_icmp .ne 19, 3) := by decide +kernel
theorem d_M_valueOfOption_15 : decode b_M_valueOfOption 15 = .ok (.aload_n 0, 1) := by decide +kernel
theorem d_M_valueOfOption_16 : decode b_M_valueOfOption 16 = .ok (.getfield 48, 3) := by decide +kernel
theorem d_M_valueOfOption_19 : decode b_M_valueOfOption 19 = .ok (.iload_n 1, 1) := by decide +kernel
theorem d_M_valueOfOption_20 : decode b_M_valueOfOption 20 = .ok (.baload, 1) := by decide +kernel
theorem d_M_valueOfOption_21 : decode b_M_valueOfOption 21 = .ok (.ifCond .eq 10, 3) := by decide +kernel
theorem d_M_valueOfOption_24 : decode b_M_valueOfOption 24 = .ok (.aload_n 0, 1) := by decide +kernel
theorem d_M_valueOfOption_25 : decode b_M_valueOfOption 25 = .ok (.iconst 3, 1) := by decide +kernel
theorem d_M_valueOfOption_26 : decode b_M_valueOfOption 26 = .ok (.putfield 127, 3) := by decide +kernel
theorem d_M_valueOfOption_29 : decode b_M_valueOfOption 29 = .ok (.lconst 0, 1) := by decide +kernel
theorem d_M_valueOfOption_30 : decode b_M_valueOfOption 30 = .ok (.lreturn, 1) := by decide +kernel
theorem d_M_valueOfOption_31 : decode b_M_valueOfOption 31 = .ok (.aload_n 0, 1) := by decide +kernel
theorem d_M_valueOfOption_32 : decode b_M_valueOfOption 32 = .ok (.aload_n 0, 1) := by decide +kernel
theorem d_M_valueOfOption_33 : decode b_M_valueOfOption 33 = .ok (.getfield 16, 3) := by decide +kernel
theorem d_M_valueOfOption_36 : decode b_M_valueOfOption 36 = .ok (.aload_n 0, 1) := by decide +kernel
theorem d_M_valueOfOption_37 : decode b_M_valueOfOption 37 = .ok (.getfield 13, 3) := by decide +kernel
theorem d_M_valueOfOption_40 : decode b_M_valueOfOption 40 = .ok (.iload_n 1, 1) := by decide +kernel
theorem d_M_valueOfOption_41 : decode b_M_valueOfOption 41 = .ok (.iconst 4, 1) := by decide +kernel
theorem d_M_valueOfOption_42 : decode b_M_valueOfOption 42 = .ok (.imul, 1) := by decide +kernel
theorem d_M_valueOfOption_43 : decode b_M_valueOfOption 43 = .ok (.iaload, 1) := by decide +kernel
theorem d_M_valueOfOption_44 : decode b_M_valueOfOption 44 = .ok (.laload, 1) := by decide +kernel
theorem d_M_valueOfOption_45 : decode b_M_valueOfOption 45 = .ok (.putfield 157, 3) := by decide +kernel
theorem d_M_valueOfOption_48 : decode b_M_valueOfOption 48 = .ok (.aload_n 0, 1) := by decide +kernel
theorem d_M_valueOfOption_49 : decode b_M_valueOfOption 49 = .ok (.aload_n 0, 1) := by decide +kernel
theorem d_M_valueOfOption_50 : decode b_M_valueOfOption 50 = .ok (.getfield 16, 3) := by decide +kernel
theorem d_M_valueOfOption_53 : decode b_M_valueOfOption 53 = .ok (.aload_n 0, 1) := by decide +kernel
theorem d_M_valueOfOption_54 : decode b_M_valueOfOption 54 = .ok (.getfield 13, 3) := by decide +kernel
theorem d_M_valueOfOption_57 : decode b_M_valueOfOption 57 = .ok (.iload_n 1, 1) := by decide +kernel
theorem d_M_valueOfOption_58 : decode b_M_valueOfOption 58 = .ok (.iconst 4, 1) := by decide +kernel
theorem d_M_valueOfOption_59 : decode b_M_valueOfOption 59 = .ok (.imul, 1) := by decide +kernel
theorem d_M_valueOfOption_60 : decode b_M_valueOfOption 60 = .ok (.iconst 1, 1) := by decide +kernel
theorem d_M_valueOfOption_61 : decode b_M_valueOfOption 61 = .ok (.iadd, 1) := by decide +kernel
theorem d_M_valueOfOption_62 : decode b_M_valueOfOption 62 = .ok (.iaload, 1) := by decide +kernel
theorem d_M_valueOfOption_63 : decode b_M_valueOfOption 63 = .ok (.laload, 1) := by decide +kernel
theorem d_M_valueOfOption_64 : decode b_M_valueOfOption 64 = .ok (.putfield 160, 3) := by decide +kernel
theorem d_M_valueOfOption_67 : decode b_M_valueOfOption 67 = .ok (.aload_n 0, 1) := by decide +kernel
theorem d_M_valueOfOption_68 : decode b_M_valueOfOption 68 = .ok (.getfield 13, 3) := by decide +kernel
theorem d_M_valueOfOption_71 : decode b_M_valueOfOption 71 = .ok (.iload_n 1, 1) := by decide +kernel
theorem d_M_valueOfOption_72 : decode b_M_valueOfOption 72 = .ok (.iconst 4, 1) := by decide +kernel
theorem d_M_valueOfOption_73 : decode b_M_valueOfOption 73 = .ok (.imul, 1) := by decide +kernel
theorem d_M_valueOfOption_74 : decode b_M_valueOfOption 74 = .ok (.iconst 2, 1) := by decide +kernel
theorem d_M_valueOfOption_75 : decode b_M_valueOfOption 75 = .ok (.iadd, 1) := by decide +kernel
theorem d_M_valueOfOption_76 : decode b_M_valueOfOption 76 = .ok (.iaload, 1) := by decide +kernel
theorem d_M_valueOfOption_77 : decode b_M_valueOfOption 77 = .ok (.ifCond .ge 7, 3) := by decide +kernel
theorem d_M_valueOfOption_80 : decode b_M_valueOfOption 80 = .ok (.lconst 0, 1) := by decide +kernel
theorem d_M_valueOfOption_81 : decode b_M_valueOfOption 81 = .ok (.goto 25, 3) := by decide +kernel
theorem d_M_valueOfOption_84 : decode b_M_valueOfOption 84 = .ok (.aload_n 0, 1) := by decide +kernel
theorem d_M_valueOfOption_85 : decode b_M_valueOfOption 85 = .ok (.aload_n 0, 1) := by decide +kernel
theorem d_M_valueOfOption_86 : decode b_M_valueOfOption 86 = .ok (.getfield 16, 3) := by decide +kernel
theorem d_M_valueOfOption_89 : decode b_M_valueOfOption 89 = .ok (.aload_n 0, 1) := by decide +kernel
theorem d_M_valueOfOption_90 : decode b_M_valueOfOption 90 = .ok (.getfield 13, 3) := by decide +kernel
theorem d_M_valueOfOption_93 : decode b_M_valueOfOption 93 = .ok (.iload_n 1, 1) := by decide +kernel
theorem d_M_valueOfOption_94 : decode b_M_valueOfOption 94 = .ok (.iconst 4, 1) := by decide +kernel
theorem d_M_valueOfOption_95 : decode b_M_valueOfOption 95 = .ok (.imul, 1) := by decide +kernel
theorem d_M_valueOfOption_96 : decode b_M_valueOfOption 96 = .ok (.iconst 2, 1) := by decide +kernel
theorem d_M_valueOfOption_97 : decode b_M_valueOfOption 97 = .ok (.iadd, 1) := by decide +kernel
theorem d_M_valueOfOption_98 : decode b_M_valueOfOption 98 = .ok (.iaload, 1) := by decide +kernel
theorem d_M_valueOfOption_99 : decode b_M_valueOfOption 99 = .ok (.laload, 1) := by decide +kernel
theorem d_M_valueOfOption_100 : decode b_M_valueOfOption 100 = .ok (.ldc2_w 180, 3) := by decide +kernel
theorem d_M_valueOfOption_103 : decode b_M_valueOfOption 103 = .ok (.invokevirtual 146, 3) := by decide +kernel
theorem d_M_valueOfOption_106 : decode b_M_valueOfOption 106 = .ok (.lstore_n 2, 1) := by decide +kernel
theorem d_M_valueOfOption_107 : decode b_M_valueOfOption 107 = .ok (.aload_n 0, 1) := by decide +kernel
theorem d_M_valueOfOption_108 : decode b_M_valueOfOption 108 = .ok (.getfield 13, 3) := by decide +kernel
theorem d_M_valueOfOption_111 : decode b_M_valueOfOption 111 = .ok (.iload_n 1, 1) := by decide +kernel
theorem d_M_valueOfOption_112 : decode b_M_valueOfOption 112 = .ok (.iconst 4, 1) := by decide +kernel
theorem d_M_valueOfOption_113 : decode b_M_valueOfOption 113 = .ok (.imul, 1) := by decide +kernel
theorem d_M_valueOfOption_114 : decode b_M_valueOfOption 114 = .ok (.iconst 3, 1) := by decide +kernel
theorem d_M_valueOfOption_115 : decode b_M_valueOfOption 115 = .ok (.iadd, 1) := by decide +kernel
theorem d_M_valueOfOption_116 : decode b_M_valueOfOption 116 = .ok (.iaload, 1) := by decide +kernel
theorem d_M_valueOfOption_117 : decode b_M_valueOfOption 117 = .ok (.ifCond .lt 22, 3) := by decide +kernel
theorem d_M_valueOfOption_120 : decode b_M_valueOfOption 120 = .ok (.aload_n 0, 1) := by decide +kernel
theorem d_M_valueOfOption_121 : decode b_M_valueOfOption 121 = .ok (.aload_n 0, 1) := by decide +kernel
theorem d_M_valueOfOption_122 : decode b_M_valueOfOption 122 = .ok (.getfield 16, 3) := by decide +kernel
theorem d_M_valueOfOption_125 : decode b_M_valueOfOption 125 = .ok (.aload_n 0, 1) := by decide +kernel
theorem d_M_valueOfOption_126 : decode b_M_valueOfOption 126 = .ok (.getfield 13, 3) := by decide +kernel
theorem d_M_valueOfOption_129 : decode b_M_valueOfOption 129 = .ok (.iload_n 1, 1) := by decide +kernel
theorem d_M_valueOfOption_130 : decode b_M_valueOfOption 130 = .ok (.iconst 4, 1) := by decide +kernel
theorem d_M_valueOfOption_131 : decode b_M_valueOfOption 131 = .ok (.imul, 1) := by decide +kernel
theorem d_M_valueOfOption_132 : decode b_M_valueOfOption 132 = .ok (.iconst 3, 1) := by decide +kernel
theorem d_M_valueOfOption_133 : decode b_M_valueOfOption 133 = .ok (.iadd, 1) := by decide +kernel
theorem d_M_valueOfOption_134 : decode b_M_valueOfOption 134 = .ok (.iaload, 1) := by decide +kernel
theorem d_M_valueOfOption_135 : decode b_M_valueOfOption 135 = .ok (.laload, 1) := by decide +kernel
theorem d_M_valueOfOption_136 : decode b_M_valueOfOption 136 = .ok (.putfield 133, 3) := by decide +kernel
theorem d_M_valueOfOption_139 : decode b_M_valueOfOption 139 = .ok (.aload_n 0, 1) := by decide +kernel
theorem d_M_valueOfOption_140 : decode b_M_valueOfOption 140 = .ok (.ldc2_w 180, 3) := by decide +kernel
theorem d_M_valueOfOption_143 : decode b_M_valueOfOption 143 = .ok (.lload_n 2, 1) := by decide +kernel
theorem d_M_valueOfOption_144 : decode b_M_valueOfOption 144 = .ok (.lsub, 1) := by decide +kernel
theorem d_M_valueOfOption_145 : decode b_M_valueOfOption 145 = .ok (.putfield 139, 3) := by decide +kernel
theorem d_M_valueOfOption_148 : decode b_M_valueOfOption 148 = .ok (.aload_n 0, 1) := by decide +kernel
theorem d_M_valueOfOption_149 : decode b_M_valueOfOption 149 = .ok (.getfield 160, 3) := by decide +kernel
theorem d_M_valueOfOption_152 : decode b_M_valueOfOption 152 = .ok (.lconst 0, 1) := by decide +kernel
theorem d_M_valueOfOption_153 : decode b_M_valueOfOption 153 = .ok (.lcmp, 1) := by decide +kernel
theorem d_M_valueOfOption_154 : decode b_M_valueOfOption 154 = .ok (.ifCond .le 17, 3) := by decide +kernel
theorem d_M_valueOfOption_157 : decode b_M_valueOfOption 157 = .ok (.lload_n 2, 1) := by decide +kernel
theorem d_M_valueOfOption_158 : decode b_M_valueOfOption 158 = .ok (.lconst 0, 1) := by decide +kernel
theorem d_M_valueOfOption_159 : decode b_M_valueOfOption 159 = .ok (.lcmp, 1) := by decide +kernel
theorem d_M_valueOfOption_160 : decode b_M_valueOfOption 160 = .ok (.ifCond .lt 11, 3) := by decide +kernel
theorem d_M_valueOfOption_163 : decode b_M_valueOfOption 163 = .ok (.lload_n 2, 1) := by decide +kernel
theorem d_M_valueOfOption_164 : decode b_M_valueOfOption 164 = .ok (.ldc2_w 180, 3) := by decide +kernel
theorem d_M_valueOfOption_167 : decode b_M_valueOfOption 167 = .ok (.lcmp, 1) := by decide +kernel
theorem d_M_valueOfOption_168 : decode b_M_valueOfOption 168 = .ok (.ifCond .le 10, 3) := by decide +kernel
theorem d_M_valueOfOption_171 : decode b_M_valueOfOption 171 = .ok (.aload_n 0, 1) := by decide +kernel
theorem d_M_valueOfOption_172 : decode b_M_valueOfOption 172 = .ok (.iconst 2, 1) := by decide +kernel
theorem d_M_valueOfOption_173 : decode b_M_valueOfOption 173 = .ok (.putfield 127, 3) := by decide +kernel
theorem d_M_valueOfOption_176 : decode b_M_valueOfOption 176 = .ok (.lconst 0, 1) := by decide +kernel
theorem d_M_valueOfOption_177 : decode b_M_valueOfOption 177 = .ok (.lreturn, 1) := by decide +kernel
theorem d_M_valueOfOption_178 : decode b_M_valueOfOption 178 = .ok (.aload_n 0, 1) := by decide +kernel
theorem d_M_valueOfOption_179 : decode b_M_valueOfOption 179 = .ok (.getfield 51, 3) := by decide +kernel
theorem d_M_valueOfOption_182 : decode b_M_valueOfOption 182 = .ok (.iload_n 1, 1) := by decide +kernel
theorem d_M_valueOfOption_183 : decode b_M_valueOfOption 183 = .ok (.iaload, 1) := by decide +kernel
theorem d_M_valueOfOption_184 : decode b_M_valueOfOption 184 = .ok (.ifCond .ne 10, 3) := by decide +kernel
theorem d_M_valueOfOption_187 : decode b_M_valueOfOption 187 = .ok (.aload_n 0, 1) := by decide +kernel
theorem d_M_valueOfOption_188 : decode b_M_valueOfOption 188 = .ok (.invokevirtual 184, 3) := by decide +kernel
theorem d_M_valueOfOption_191 : decode b_M_valueOfOption 191 = .ok (.goto 24, 3) := by decide +kernel
theorem d_M_valueOfOption_194 : decode b_M_valueOfOption 194 = .ok (.aload_n 0, 1) := by decide +kernel
theorem d_M_valueOfOption_195 : decode b_M_valueOfOption 195 = .ok (.getfield 51, 3) := by decide +kernel
theorem d_M_valueOfOption_198 : decode b_M_valueOfOption 198 = .ok (.iload_n 1, 1) := by decide +kernel
theorem d_M_valueOfOption_199 : decode b_M_valueOfOption 199 = .ok (.iaload, 1) := by decide +kernel
theorem d_M_valueOfOption_200 : decode b_M_valueOfOption 200 = .ok (.iconst 1, 1) := by decide +kernel
theorem d_M_valueOfOption_201 : decode b_M_valueOfOption 201 = .ok (.if_icmp .ne 10, 3) := by decide +kernel
theorem d_M_valueOfOption_204 : decode b_M_valueOfOption 204 = .ok (.aload_n 0, 1) := by decide +kernel
theorem d_M_valueOfOption_205 : decode b_M_valueOfOption 205 = .ok (.invokevirtual 188, 3) := by decide +kernel
theorem d_M_valueOfOption_208 : decode b_M_valueOfOption 208 = .ok (.goto 7, 3) := by decide +kernel
theorem d_M_valueOfOption_211 : decode b_M_valueOfOption 211 = .ok (.aload_n 0, 1) := by decide +kernel
theorem d_M_valueOfOption_212 : decode b_M_valueOfOption 212 = .ok (.invokevirtual 191, 3) := by decide +kernel
theorem d_M_valueOfOption_215 : decode b_M_valueOfOption 215 = .ok (.lreturn, 1) := by decide +kernel
theorem d_Nd_bit_0 : decode b_Nd_bit 0 = .ok (.iconst 1, 1) := by decide +kernel
theorem d_Nd_bit_1 : decode b_Nd_bit 1 = .ok (.aload_n 0, 1) := by decide +kernel
theorem d_Nd_bit_2 : decode b_Nd_bit 2 = .ok (.getfield 7, 3) := by decide +kernel
theorem d_Nd_bit_5 : decode b_Nd_bit 5 = .ok (.ishl, 1) := by decide +kernel
theorem d_Nd_bit_6 : decode b_Nd_bit 6 = .ok (.ireturn, 1) := by decide +kernel
theorem d_Nd_init_0 : decode b_Nd_init 0 = .ok (.aload_n 0, 1) := by decide +kernel
theorem d_Nd_init_1 : decode b_Nd_init 1 = .ok (.invokespecial 1, 3) := by decide +kernel
theorem d_Nd_init_4 : decode b_Nd_init 4 = .ok (.aload_n 0, 1) := by decide +kernel
theorem d_Nd_init_5 : decode b_Nd_init 5 = .ok (.iload_n 1, 1) := by decide +kernel
theorem d_Nd_init_6 : decode b_Nd_init 6 = .ok (.putfield 7, 3) := by decide +kernel
theorem d_Nd_init_9 : decode b_Nd_init 9 = .ok (.aload_n 0, 1) := by decide +kernel
theorem d_Nd_init_10 : decode b_Nd_init 10 = .ok (.aload_n 2, 1) := by decide +kernel
theorem d_Nd_init_11 : decode b_Nd_init 11 = .ok (.putfield 13, 3) := by decide +kernel
theorem d_Nd_init_14 : decode b_Nd_init 14 = .ok (.aload_n 0, 1) := by decide +kernel
theorem d_Nd_init_15 : decode b_Nd_init 15 = .ok (.iload_n 3, 1) := by decide +kernel
theorem d_Nd_init_16 : decode b_Nd_init 16 = .ok (.putfield 17, 3) := by decide +kernel
theorem d_Nd_init_19 : decode b_Nd_init 19 = .ok (.return_, 1) := by decide +kernel
theorem d_Nd_partBits_0 : decode b_Nd_partBits 0 = .ok (.iconst 0, 1) := by decide +kernel
theorem d_Nd_partBits_1 : decode b_Nd_partBits 1 = .ok (.istore_n 1, 1) := by decide +kernel
theorem d_Nd_partBits_2 : decode b_Nd_partBits 2 = .ok (.iconst 0, 1) := by decide +kernel
theorem d_Nd_partBits_3 : decode b_Nd_partBits 3 = .ok (.istore_n 2, 1) := by decide +kernel
theorem d_Nd_partBits_4 : decode b_Nd_partBits 4 = .ok (.iload_n 2, 1) := by decide +kernel
theorem d_Nd_partBits_5 : decode b_Nd_partBits 5 = .ok (.aload_n 0, 1) := by decide +kernel
theorem d_Nd_partBits_6 : decode b_Nd_partBits 6 = .ok (.getfield 17, 3) := by decide +kernel
theorem d_Nd_partBits_9 : decode b_Nd_partBits 9 = .ok (.if_icmp .ge 21, 3) := by decide +kernel
theorem d_Nd_partBits_12 : decode b_Nd_partBits 12 = .ok (.iload_n 1, 1) := by decide +kernel
theorem d_Nd_partBits_13 : decode b_Nd_partBits 13 = .ok (.aload_n 0, 1) := by decide +kernel
theorem d_Nd_partBits_14 : decode b_Nd_partBits 14 = .ok (.getfield 13, 3) := by decide +kernel
theorem d_Nd_partBits_17 : decode b_Nd_partBits 17 = .ok (.iload_n 2, 1) := by decide +kernel
theorem d_Nd_partBits_18 : decode b_Nd_partBits 18 = .ok (.aaload, 1) := by decide +kernel
theorem d_Nd_partBits_19 : decode b_Nd_partBits 19 = .ok (.invokevirtual 20, 3) := by decide +kernel
theorem d_Nd_partBits_22 : decode b_Nd_partBits 22 = .ok (.ior, 1) := by decide +kernel
theorem d_Nd_partBits_23 : decode b_Nd_partBits 23 = .ok (.istore_n 1, 1) := by decide +kernel
theorem d_Nd_partBits_24 : decode b_Nd_partBits 24 = .ok (.iinc 2 1, 3) := by decide +kernel
theorem d_Nd_partBits_27 : decode b_Nd_partBits 27 = .ok (.goto (-23), 3) := by decide +kernel
theorem d_Nd_partBits_30 : decode b_Nd_partBits 30 = .ok (.iload_n 1, 1) := by decide +kernel
theorem d_Nd_partBits_31 : decode b_Nd_partBits 31 = .ok (.ireturn, 1) := by decide +kernel
theorem d_Nd_remember_0 : decode b_Nd_remember 0 = .ok (.aload_n 0, 1) := by decide +kernel
theorem d_Nd_remember_1 : decode b_Nd_remember 1 = .ok (.aload_n 0, 1) := by decide +kernel
theorem d_Nd_remember_2 : decode b_Nd_remember 2 = .ok (.getfield 24, 3) := by decide +kernel
theorem d_Nd_remember_5 : decode b_Nd_remember 5 = .ok (.putfield 28, 3) := by decide +kernel
theorem d_Nd_remember_8 : decode b_Nd_remember 8 = .ok (.aload_n 0, 1) := by decide +kernel
theorem d_Nd_remember_9 : decode b_Nd_remember 9 = .ok (.aload_n 0, 1) := by decide +kernel
theorem d_Nd_remember_10 : decode b_Nd_remember 10 = .ok (.getfield 31, 3) := by decide +kernel
theorem d_Nd_remember_13 : decode b_Nd_remember 13 = .ok (.putfield 35, 3) := by decide +kernel
theorem d_Nd_remember_16 : decode b_Nd_remember 16 = .ok (.return_, 1) := by decide +kernel
theorem d_Nd_restore_0 : decode b_Nd_restore 0 = .ok (.aload_n 0, 1) := by decide +kernel
theorem d_Nd_restore_1 : decode b_Nd_restore 1 = .ok (.aload_n 0, 1) := by decide +kernel
theorem d_Nd_restore_2 : decode b_Nd_restore 2 = .ok (.getfield 28, 3) := by decide +kernel
theorem d_Nd_restore_5 : decode b_Nd_restore 5 = .ok (.putfield 24, 3) := by decide +kernel
theorem d_Nd_restore_8 : decode b_Nd_restore 8 = .ok (.aload_n 0, 1) := by decide +kernel
theorem d_Nd_restore_9 : decode b_Nd_restore 9 = .ok (.aload_n 0, 1) := by decide +kernel
theorem d_Nd_restore_10 : decode b_Nd_restore 10 = .ok (.getfield 35, 3) := by decide +kernel
theorem d_Nd_restore_13 : decode b_Nd_restore 13 = .ok (.putfield 31, 3) := by decide +kernel
theorem d_Nd_restore_16 : decode b_Nd_restore 16 = .ok (.return_, 1) := by decide +kernel
theorem d_Ne_checkSuits_0 : decode b_Ne_checkSuits 0 = .ok (.aload_n 1, 1) := by decide +kernel
theorem d_Ne_checkSuits_1 : decode b_Ne_checkSuits 1 = .ok (.getfield 15, 3) := by decide +kernel
theorem d_Ne_checkSuits_4 : decode b_Ne_checkSuits 4 = .ok (.bipush 8, 2) := by decide +kernel
theorem d_Ne_checkSuits_6 : decode b_Ne_checkSuits 6 = .ok (.if_icmp .le 13, 3) := by decide +kernel
theorem d_Ne_checkSuits_9 : decode b_Ne_checkSuits 9 = .ok (.new 21, 3) := by decide +kernel
theorem d_Ne_checkSuits_12 : decode b_Ne_checkSuits 12 = .ok (.dup, 1) := by decide +kernel
theorem d_Ne_checkSuits_13 : decode b_Ne_checkSuits 13 = .ok (.ldc 23, 2) := by decide +kernel
theorem d_Ne_checkSuits_15 : decode b_Ne_checkSuits 15 = .ok (.invokespecial 25, 3) := by decide +kernel
theorem d_Ne_checkSuits_18 : decode b_Ne_checkSuits 18 = .ok (.athrow, 1) := by decide +kernel
theorem d_Ne_checkSuits_19 : decode b_Ne_checkSuits 19 = .ok (.return_, 1) := by decide +kernel
theorem d_Ne_init_0 : decode b_Ne_init 0 = .ok (.aload_n 0, 1) := by decide +kernel
theorem d_Ne_init_1 : decode b_Ne_init 1 = .ok (.iconst 1, 1) := by decide +kernel
theorem d_Ne_init_2 : decode b_Ne_init 2 = .ok (.bipush 20, 2) := by decide +kernel
theorem d_Ne_init_4 : decode b_Ne_init 4 = .ok (.invokespecial 3, 3) := by decide +kernel
theorem d_Ne_init_7 : decode b_Ne_init 7 = .ok (.aload_n 0, 1) := by decide +kernel
theorem d_Ne_init_8 : decode b_Ne_init 8 = .ok (.bipush 41, 2) := by decide +kernel
theorem d_Ne_init_10 : decode b_Ne_init 10 = .ok (.newarray .long, 2) := by decide +kernel
theorem d_Ne_init_12 : decode b_Ne_init 12 = .ok (.putfield 9, 3) := by decide +kernel
theorem d_Ne_init_15 : decode b_Ne_init 15 = .ok (.return_, 1) := by decide +kernel
theorem d_Ne_price_0 : decode b_Ne_price 0 = .ok (.aload_n 1, 1) := by decide +kernel
theorem d_Ne_price_1 : decode b_Ne_price 1 = .ok (.getfield 28, 3) := by decide +kernel
theorem d_Ne_price_4 : decode b_Ne_price 4 = .ok (.istore 4, 2) := by decide +kernel
theorem d_Ne_price_6 : decode b_Ne_price 6 = .ok (.iconst 0, 1) := by decide +kernel
theorem d_Ne_price_7 : decode b_Ne_price 7 = .ok (.istore 5, 2) := by decide +kernel
theorem d_Ne_price_9 : decode b_Ne_price 9 = .ok (.iload 5, 2) := by decide +kernel
theorem d_Ne_price_11 : decode b_Ne_price 11 = .ok (.iconst 2, 1) := by decide +kernel
theorem d_Ne_price_12 : decode b_Ne_price 12 = .ok (.iload 4, 2) := by decide +kernel
theorem d_Ne_price_14 : decode b_Ne_price 14 = .ok (.imul, 1) := by decide +kernel
theorem d_Ne_price_15 : decode b_Ne_price 15 = .ok (.if_icmp .gt 29, 3) := by decide +kernel
theorem d_Ne_price_18 : decode b_Ne_price 18 = .ok (.aload_n 0, 1) := by decide +kernel
theorem d_Ne_price_19 : decode b_Ne_price 19 = .ok (.getfield 9, 3) := by decide +kernel
theorem d_Ne_price_22 : decode b_Ne_price 22 = .ok (.iload 5, 2) := by decide +kernel
theorem d_Ne_price_24 : decode b_Ne_price 24 = .ok (.aload_n 1, 1) := by decide +kernel
theorem d_Ne_price_25 : decode b_Ne_price 25 = .ok (.aload_n 1, 1) := by decide +kernel
theorem d_Ne_price_26 : decode b_Ne_price 26 = .ok (.iload 5, 2) := by decide +kernel
theorem d_Ne_price_28 : decode b_Ne_price 28 = .ok (.iload 4, 2) := by decide +kernel
theorem d_Ne_price_30 : decode b_Ne_price 30 = .ok (.isub, 1) := by decide +kernel
theorem d_Ne_price_31 : decode b_Ne_price 31 = .ok (.invokevirtual 31, 3) := by decide +kernel
theorem d_Ne_price_34 : decode b_Ne_price 34 = .ok (.invokevirtual 35, 3) := by decide +kernel
theorem d_Ne_price_37 : decode b_Ne_price 37 = .ok (.lastore, 1) := by decide +kernel
theorem d_Ne_price_38 : decode b_Ne_price 38 = .ok (.iinc 5 1, 3) := by decide +kernel
theorem d_Ne_price_41 : decode b_Ne_price 41 = .ok (.goto (-32), 3) := by decide +kernel
theorem d_Ne_price_44 : decode b_Ne_price 44 = .ok (.iconst 0, 1) := by decide +kernel
theorem d_Ne_price_45 : decode b_Ne_price 45 = .ok (.istore 5, 2) := by decide +kernel
theorem d_Ne_price_47 : decode b_Ne_price 47 = .ok (.iload 5, 2) := by decide +kernel
theorem d_Ne_price_49 : decode b_Ne_price 49 = .ok (.aload_n 1, 1) := by decide +kernel
theorem d_Ne_price_50 : decode b_Ne_price 50 = .ok (.getfield 39, 3) := by decide +kernel
theorem d_Ne_price_53 : decode b_Ne_price 53 = .ok (.if_icmp .ge 17, 3) := by decide +kernel
theorem d_Ne_price_56 : decode b_Ne_price 56 = .ok (.aload_n 0, 1) := by decide +kernel
theorem d_Ne_price_57 : decode b_Ne_price 57 = .ok (.aload_n 1, 1) := by decide +kernel
theorem d_Ne_price_58 : decode b_Ne_price 58 = .ok (.lload_n 2, 1) := by decide +kernel
theorem d_Ne_price_59 : decode b_Ne_price 59 = .ok (.iload 4, 2) := by decide +kernel
theorem d_Ne_price_61 : decode b_Ne_price 61 = .ok (.invokevirtual 42, 3) := by decide +kernel
theorem d_Ne_price_64 : decode b_Ne_price 64 = .ok (.iinc 5 1, 3) := by decide +kernel
theorem d_Ne_price_67 : decode b_Ne_price 67 = .ok (.goto (-20), 3) := by decide +kernel
theorem d_Ne_price_70 : decode b_Ne_price 70 = .ok (.aload_n 0, 1) := by decide +kernel
theorem d_Ne_price_71 : decode b_Ne_price 71 = .ok (.getfield 9, 3) := by decide +kernel
theorem d_Ne_price_74 : decode b_Ne_price 74 = .ok (.iload 4, 2) := by decide +kernel
theorem d_Ne_price_76 : decode b_Ne_price 76 = .ok (.laload, 1) := by decide +kernel
theorem d_Ne_price_77 : decode b_Ne_price 77 = .ok (.lreturn, 1) := by decide +kernel
theorem d_Ne_stepBack_0 : decode b_Ne_stepBack 0 = .ok (.aload_n 0, 1) := by decide +kernel
theorem d_Ne_stepBack_1 : decode b_Ne_stepBack 1 = .ok (.getfield 9, 3) := by decide +kernel
theorem d_Ne_stepBack_4 : decode b_Ne_stepBack 4 = .ok (.iconst 0, 1) := by decide +kernel
theorem d_Ne_stepBack_5 : decode b_Ne_stepBack 5 = .ok (.laload, 1) := by decide +kernel
theorem d_Ne_stepBack_6 : decode b_Ne_stepBack 6 = .ok (.lstore 5, 2) := by decide +kernel
theorem d_Ne_stepBack_8 : decode b_Ne_stepBack 8 = .ok (.iconst 1, 1) := by decide +kernel
theorem d_Ne_stepBack_9 : decode b_Ne_stepBack 9 = .ok (.istore 7, 2) := by decide +kernel
theorem d_Ne_stepBack_11 : decode b_Ne_stepBack 11 = .ok (.iload 7, 2) := by decide +kernel
theorem d_Ne_stepBack_13 : decode b_Ne_stepBack 13 = .ok (.iconst 2, 1) := by decide +kernel
theorem d_Ne_stepBack_14 : decode b_Ne_stepBack 14 = .ok (.iload 4, 2) := by decide +kernel
theorem d_Ne_stepBack_16 : decode b_Ne_stepBack 16 = .ok (.imul, 1) := by decide +kernel
theorem d_Ne_stepBack_17 : decode b_Ne_stepBack 17 = .ok (.if_icmp .ge 93, 3) := by decide +kernel
theorem d_Ne_stepBack_20 : decode b_Ne_stepBack 20 = .ok (.aload_n 0, 1) := by decide +kernel
theorem d_Ne_stepBack_21 : decode b_Ne_stepBack 21 = .ok (.getfield 9, 3) := by decide +kernel
theorem d_Ne_stepBack_24 : decode b_Ne_stepBack 24 = .ok (.iload 7, 2) := by decide +kernel
theorem d_Ne_stepBack_26 : decode b_Ne_stepBack 26 = .ok (.laload, 1) := by decide +kernel
theorem d_Ne_stepBack_27 : decode b_Ne_stepBack 27 = .ok (.lstore 8, 2) := by decide +kernel
theorem d_Ne_stepBack_29 : decode b_Ne_stepBack 29 = .ok (.aload_n 0, 1) := by decide +kernel
theorem d_Ne_stepBack_30 : decode b_Ne_stepBack 30 = .ok (.getfield 9, 3) := by decide +kernel
theorem d_Ne_stepBack_33 : decode b_Ne_stepBack 33 = .ok (.iload 7, 2) := by decide +kernel
theorem d_Ne_stepBack_35 : decode b_Ne_stepBack 35 = .ok (.iconst 1, 1) := by decide +kernel
theorem d_Ne_stepBack_36 : decode b_Ne_stepBack 36 = .ok (.iadd, 1) := by decide +kernel
theorem d_Ne_stepBack_37 : decode b_Ne_stepBack 37 = .ok (.laload, 1) := by decide +kernel
theorem d_Ne_stepBack_38 : decode b_Ne_stepBack 38 = .ok (.ldc2_w 46, 3) := by decide +kernel
theorem d_Ne_stepBack_41 : decode b_Ne_stepBack 41 = .ok (.lload 8, 2) := by decide +kernel
theorem d_Ne_stepBack_43 : decode b_Ne_stepBack 43 = .ok (.lmul, 1) := by decide +kernel
theorem d_Ne_stepBack_44 : decode b_Ne_stepBack 44 = .ok (.lsub, 1) := by decide +kernel
theorem d_Ne_stepBack_45 : decode b_Ne_stepBack 45 = .ok (.lload 5, 2) := by decide +kernel
theorem d_Ne_stepBack_47 : decode b_Ne_stepBack 47 = .ok (.ladd, 1) := by decide +kernel
theorem d_Ne_stepBack_48 : decode b_Ne_stepBack 48 = .ok (.lstore 10, 2) := by decide +kernel
theorem d_Ne_stepBack_50 : decode b_Ne_stepBack 50 = .ok (.ldc2_w 48, 3) := by decide +kernel
theorem d_Ne_stepBack_53 : decode b_Ne_stepBack 53 = .ok (.lload 8, 2) := by decide +kernel
theorem d_Ne_stepBack_55 : decode b_Ne_stepBack 55 = .ok (.lmul, 1) := by decide +kernel
theorem d_Ne_stepBack_56 : decode b_Ne_stepBack 56 = .ok (.aload_n 1, 1) := by decide +kernel
theorem d_Ne_stepBack_57 : decode b_Ne_stepBack 57 = .ok (.getfield 15, 3) := by decide +kernel
theorem d_Ne_stepBack_60 : decode b_Ne_stepBack 60 = .ok (.i2l, 1) := by decide +kernel
theorem d_Ne_stepBack_61 : decode b_Ne_stepBack 61 = .ok (.lload 10, 2) := by decide +kernel
theorem d_Ne_stepBack_63 : decode b_Ne_stepBack 63 = .ok (.lmul, 1) := by decide +kernel
theorem d_Ne_stepBack_64 : decode b_Ne_stepBack 64 = .ok (.ladd, 1) := by decide +kernel
theorem d_Ne_stepBack_65 : decode b_Ne_stepBack 65 = .ok (.lstore 12, 2) := by decide +kernel
theorem d_Ne_stepBack_67 : decode b_Ne_stepBack 67 = .ok (.lload_n 2, 1) := by decide +kernel
theorem d_Ne_stepBack_68 : decode b_Ne_stepBack 68 = .ok (.lload 12, 2) := by decide +kernel
theorem d_Ne_stepBack_70 : decode b_Ne_stepBack 70 = .ok (.lmul, 1) := by decide +kernel
theorem d_Ne_stepBack_71 : decode b_Ne_stepBack 71 = .ok (.bipush 14, 2) := by decide +kernel
theorem d_Ne_stepBack_73 : decode b_Ne_stepBack 73 = .ok (.invokestatic 50, 3) := by decide +kernel
theorem d_Ne_stepBack_76 : decode b_Ne_stepBack 76 = .ok (.lstore 14, 2) := by decide +kernel
theorem d_Ne_stepBack_78 : decode b_Ne_stepBack 78 = .ok (.aload_n 0, 1) := by decide +kernel
theorem d_Ne_stepBack_79 : decode b_Ne_stepBack 79 = .ok (.getfield 9, 3) := by decide +kernel
theorem d_Ne_stepBack_82 : decode b_Ne_stepBack 82 = .ok (.iload 7, 2) := by decide +kernel
theorem d_Ne_stepBack_84 : decode b_Ne_stepBack 84 = .ok (.aload_n 1, 1) := by decide +kernel
theorem d_Ne_stepBack_85 : decode b_Ne_stepBack 85 = .ok (.aload_n 1, 1) := by decide +kernel
theorem d_Ne_stepBack_86 : decode b_Ne_stepBack 86 = .ok (.iload 7, 2) := by decide +kernel
theorem d_Ne_stepBack_88 : decode b_Ne_stepBack 88 = .ok (.iload 4, 2) := by decide +kernel
theorem d_Ne_stepBack_90 : decode b_Ne_stepBack 90 = .ok (.isub, 1) := by decide +kernel
theorem d_Ne_stepBack_91 : decode b_Ne_stepBack 91 = .ok (.invokevirtual 31, 3) := by decide +kernel
theorem d_Ne_stepBack_94 : decode b_Ne_stepBack 94 = .ok (.lload 14, 2) := by decide +kernel
theorem d_Ne_stepBack_96 : decode b_Ne_stepBack 96 = .ok (.invokevirtual 54, 3) := by decide +kernel
theorem d_Ne_stepBack_99 : decode b_Ne_stepBack 99 = .ok (.lastore, 1) := by decide +kernel
theorem d_Ne_stepBack_100 : decode b_Ne_stepBack 100 = .ok (.lload 8, 2) := by decide +kernel
theorem d_Ne_stepBack_102 : decode b_Ne_stepBack 102 = .ok (.lstore 5, 2) := by decide +kernel
theorem d_Ne_stepBack_104 : decode b_Ne_stepBack 104 = .ok (.iinc 7 1, 3) := by decide +kernel
theorem d_Ne_stepBack_107 : decode b_Ne_stepBack 107 = .ok (.goto (-96), 3) := by decide +kernel
theorem d_Ne_stepBack_110 : decode b_Ne_stepBack 110 = .ok (.return_, 1) := by decide +kernel
theorem d_Op_discount_0 : decode b_Op_discount 0 = .ok (.aload_n 0, 1) := by decide +kernel
theorem d_Op_discount_1 : decode b_Op_discount 1 = .ok (.getfield 32, 3) := by decide +kernel
theorem d_Op_discount_4 : decode b_Op_discount 4 = .ok (.ifnonnull 7, 3) := by decide +kernel
theorem d_Op_discount_7 : decode b_Op_discount 7 = .ok (.lconst 0, 1) := by decide +kernel
theorem d_Op_discount_8 : decode b_Op_discount 8 = .ok (.goto 13, 3) := by decide +kernel
theorem d_Op_discount_11 : decode b_Op_discount 11 = .ok (.aload_n 0, 1) := by decide +kernel
theorem d_Op_discount_12 : decode b_Op_discount 12 = .ok (.getfield 32, 3) := by decide +kernel
theorem d_Op_discount_15 : decode b_Op_discount 15 = .ok (.getfield 55, 3) := by decide +kernel
theorem d_Op_discount_18 : decode b_Op_discount 18 = .ok (.bipush 10, 2) := by decide +kernel
theorem d_Op_discount_20 : decode b_Op_discount 20 = .ok (.lshr, 1) := by decide +kernel
theorem d_Op_discount_21 : decode b_Op_discount 21 = .ok (.lstore_n 1, 1) := by decide +kernel
theorem d_Op_discount_22 : decode b_Op_discount 22 = .ok (.lload_n 1, 1) := by decide +kernel
theorem d_Op_discount_23 : decode b_Op_discount 23 = .ok (.lconst 0, 1) := by decide +kernel
theorem d_Op_discount_24 : decode b_Op_discount 24 = .ok (.lcmp, 1) := by decide +kernel
theorem d_Op_discount_25 : decode b_Op_discount 25 = .ok (.ifCond .lt 11, 3) := by decide +kernel
theorem d_Op_discount_28 : decode b_Op_discount 28 = .ok (.lload_n 1, 1) := by decide +kernel
theorem d_Op_discount_29 : decode b_Op_discount 29 = .ok (.ldc2_w 73, 3) := by decide +kernel
theorem d_Op_discount_32 : decode b_Op_discount 32 = .ok (.lcmp, 1) := by decide +kernel
theorem d_Op_discount_33 : decode b_Op_discount 33 = .ok (.ifCond .le 13, 3) := by decide +kernel
theorem d_Op_discount_36 : decode b_Op_discount 36 = .ok (.new 58, 3) := by decide +kernel
theorem d_Op_discount_39 : decode b_Op_discount 39 = .ok (.dup, 1) := by decide +kernel
theorem d_Op_discount_40 : decode b_Op_discount 40 = .ok (.ldc 75, 2) := by decide +kernel
theorem d_Op_discount_42 : decode b_Op_discount 42 = .ok (.invokespecial 62, 3) := by decide +kernel
theorem d_Op_discount_45 : decode b_Op_discount 45 = .ok (.athrow, 1) := by decide +kernel
theorem d_Op_discount_46 : decode b_Op_discount 46 = .ok (.ldc2_w 73, 3) := by decide +kernel
theorem d_Op_discount_49 : decode b_Op_discount 49 = .ok (.lload_n 1, 1) := by decide +kernel
theorem d_Op_discount_50 : decode b_Op_discount 50 = .ok (.lsub, 1) := by decide +kernel
theorem d_Op_discount_51 : decode b_Op_discount 51 = .ok (.lreturn, 1) := by decide +kernel
theorem d_Op_heldAt_0 : decode b_Op_heldAt 0 = .ok (.aload_n 0, 1) := by decide +kernel
theorem d_Op_heldAt_1 : decode b_Op_heldAt 1 = .ok (.lload_n 1, 1) := by decide +kernel
theorem d_Op_heldAt_2 : decode b_Op_heldAt 2 = .ok (.invokevirtual 77, 3) := by decide +kernel
theorem d_Op_heldAt_5 : decode b_Op_heldAt 5 = .ok (.ifCond .eq 5, 3) := by decide +kernel
theorem d_Op_heldAt_8 : decode b_Op_heldAt 8 = .ok (.lconst 0, 1) := by decide +kernel
theorem d_Op_heldAt_9 : decode b_Op_heldAt 9 = .ok (.lreturn, 1) := by decide +kernel
theorem d_Op_heldAt_10 : decode b_Op_heldAt 10 = .ok (.aload_n 0, 1) := by decide +kernel
theorem d_Op_heldAt_11 : decode b_Op_heldAt 11 = .ok (.getfield 93, 3) := by decide +kernel
theorem d_Op_heldAt_14 : decode b_Op_heldAt 14 = .ok (.ifCond .eq 15, 3) := by decide +kernel
theorem d_Op_heldAt_17 : decode b_Op_heldAt 17 = .ok (.lload_n 3, 1) := by decide +kernel
theorem d_Op_heldAt_18 : decode b_Op_heldAt 18 = .ok (.aload_n 0, 1) := by decide +kernel
theorem d_Op_heldAt_19 : decode b_Op_heldAt 19 = .ok (.lload_n 1, 1) := by decide +kernel
theorem d_Op_heldAt_20 : decode b_Op_heldAt 20 = .ok (.invokevirtual 81, 3) := by decide +kernel
theorem d_Op_heldAt_23 : decode b_Op_heldAt 23 = .ok (.invokestatic 85, 3) := by decide +kernel
theorem d_Op_heldAt_26 : decode b_Op_heldAt 26 = .ok (.goto 4, 3) := by decide +kernel
theorem d_Op_heldAt_29 : decode b_Op_heldAt 29 = .ok (.lload_n 3, 1) := by decide +kernel
theorem d_Op_heldAt_30 : decode b_Op_heldAt 30 = .ok (.lreturn, 1) := by decide +kernel
theorem d_Op_init_0 : decode b_Op_init 0 = .ok (.aload_n 0, 1) := by decide +kernel
theorem d_Op_init_1 : decode b_Op_init 1 = .ok (.iload_n 1, 1) := by decide +kernel
theorem d_Op_init_2 : decode b_Op_init 2 = .ok (.iconst 4, 1) := by decide +kernel
theorem d_Op_init_3 : decode b_Op_init 3 = .ok (.anewarray 3, 3) := by decide +kernel
theorem d_Op_init_6 : decode b_Op_init 6 = .ok (.dup, 1) := by decide +kernel
theorem d_Op_init_7 : decode b_Op_init 7 = .ok (.iconst 0, 1) := by decide +kernel
theorem d_Op_init_8 : decode b_Op_init 8 = .ok (.aload_n 2, 1) := by decide +kernel
theorem d_Op_init_9 : decode b_Op_init 9 = .ok (.aastore, 1) := by decide +kernel
theorem d_Op_init_10 : decode b_Op_init 10 = .ok (.dup, 1) := by decide +kernel
theorem d_Op_init_11 : decode b_Op_init 11 = .ok (.iconst 1, 1) := by decide +kernel
theorem d_Op_init_12 : decode b_Op_init 12 = .ok (.aload_n 3, 1) := by decide +kernel
theorem d_Op_init_13 : decode b_Op_init 13 = .ok (.aastore, 1) := by decide +kernel
theorem d_Op_init_14 : decode b_Op_init 14 = .ok (.dup, 1) := by decide +kernel
theorem d_Op_init_15 : decode b_Op_init 15 = .ok (.iconst 2, 1) := by decide +kernel
theorem d_Op_init_16 : decode b_Op_init 16 = .ok (.aconst_null, 1) := by decide +kernel
theorem d_Op_init_17 : decode b_Op_init 17 = .ok (.aastore, 1) := by decide +kernel
theorem d_Op_init_18 : decode b_Op_init 18 = .ok (.dup, 1) := by decide +kernel
theorem d_Op_init_19 : decode b_Op_init 19 = .ok (.iconst 3, 1) := by decide +kernel
theorem d_Op_init_20 : decode b_Op_init 20 = .ok (.aconst_null, 1) := by decide +kernel
theorem d_Op_init_21 : decode b_Op_init 21 = .ok (.aastore, 1) := by decide +kernel
theorem d_Op_init_22 : decode b_Op_init 22 = .ok (.iconst 2, 1) := by decide +kernel
theorem d_Op_init_23 : decode b_Op_init 23 = .ok (.invokespecial 5, 3) := by decide +kernel
theorem d_Op_init_26 : decode b_Op_init 26 = .ok (.aload_n 0, 1) := by decide +kernel
theorem d_Op_init_27 : decode b_Op_init 27 = .ok (.aload_n 2, 1) := by decide +kernel
theorem d_Op_init_28 : decode b_Op_init 28 = .ok (.putfield 9, 3) := by decide +kernel
theorem d_Op_init_31 : decode b_Op_init 31 = .ok (.aload_n 0, 1) := by decide +kernel
theorem d_Op_init_32 : decode b_Op_init 32 = .ok (.aload_n 3, 1) := by decide +kernel
theorem d_Op_init_33 : decode b_Op_init 33 = .ok (.putfield 15, 3) := by decide +kernel
theorem d_Op_init_36 : decode b_Op_init 36 = .ok (.aload_n 0, 1) := by decide +kernel
theorem d_Op_init_37 : decode b_Op_init 37 = .ok (.iload 4, 2) := by decide +kernel
theorem d_Op_init_39 : decode b_Op_init 39 = .ok (.putfield 18, 3) := by decide +kernel
theorem d_Op_init_42 : decode b_Op_init 42 = .ok (.aload_n 0, 1) := by decide +kernel
theorem d_Op_init_43 : decode b_Op_init 43 = .ok (.lload 5, 2) := by decide +kernel
theorem d_Op_init_45 : decode b_Op_init 45 = .ok (.putfield 22, 3) := by decide +kernel
theorem d_Op_init_48 : decode b_Op_init 48 = .ok (.aload_n 0, 1) := by decide +kernel
theorem d_Op_init_49 : decode b_Op_init 49 = .ok (.iload 7, 2) := by decide +kernel
theorem d_Op_init_51 : decode b_Op_init 51 = .ok (.putfield 26, 3) := by decide +kernel
theorem d_Op_init_54 : decode b_Op_init 54 = .ok (.aload_n 0, 1) := by decide +kernel
theorem d_Op_init_55 : decode b_Op_init 55 = .ok (.bipush 8, 2) := by decide +kernel
theorem d_Op_init_57 : decode b_Op_init 57 = .ok (.putfield 29, 3) := by decide +kernel
theorem d_Op_init_60 : decode b_Op_init 60 = .ok (.return_, 1) := by decide +kernel
theorem d_Op_isOut_0 : decode b_Op_isOut 0 = .ok (.aload_n 0, 1) := by decide +kernel
theorem d_Op_isOut_1 : decode b_Op_isOut 1 = .ok (.getfield 35, 3) := by decide +kernel
theorem d_Op_isOut_4 : decode b_Op_isOut 4 = .ok (.ifnull 19, 3) := by decide +kernel
theorem d_Op_isOut_7 : decode b_Op_isOut 7 = .ok (.lload_n 1, 1) := by decide +kernel
theorem d_Op_isOut_8 : decode b_Op_isOut 8 = .ok (.aload_n 0, 1) := by decide +kernel
theorem d_Op_isOut_9 : decode b_Op_isOut 9 = .ok (.getfield 35, 3) := by decide +kernel
theorem d_Op_isOut_12 : decode b_Op_isOut 12 = .ok (.getfield 55, 3) := by decide +kernel
theorem d_Op_isOut_15 : decode b_Op_isOut 15 = .ok (.lcmp, 1) := by decide +kernel
theorem d_Op_isOut_16 : decode b_Op_isOut 16 = .ok (.ifCond .lt 7, 3) := by decide +kernel
theorem d_Op_isOut_19 : decode b_Op_isOut 19 = .ok (.iconst 1, 1) := by decide +kernel
theorem d_Op_isOut_20 : decode b_Op_isOut 20 = .ok (.goto 4, 3) := by decide +kernel
theorem d_Op_isOut_23 : decode b_Op_isOut 23 = .ok (.iconst 0, 1) := by decide +kernel
theorem d_Op_isOut_24 : decode b_Op_isOut 24 = .ok (.ireturn, 1) := by decide +kernel
theorem d_Op_payoff_0 : decode b_Op_payoff 0 = .ok (.aload_n 0, 1) := by decide +kernel
theorem d_Op_payoff_1 : decode b_Op_payoff 1 = .ok (.lload_n 1, 1) := by decide +kernel
theorem d_Op_payoff_2 : decode b_Op_payoff 2 = .ok (.invokevirtual 77, 3) := by decide +kernel
theorem d_Op_payoff_5 : decode b_Op_payoff 5 = .ok (.ifCond .eq 7, 3) := by decide +kernel
theorem d_Op_payoff_8 : decode b_Op_payoff 8 = .ok (.lconst 0, 1) := by decide +kernel
theorem d_Op_payoff_9 : decode b_Op_payoff 9 = .ok (.goto 8, 3) := by decide +kernel
theorem d_Op_payoff_12 : decode b_Op_payoff 12 = .ok (.aload_n 0, 1) := by decide +kernel
theorem d_Op_payoff_13 : decode b_Op_payoff 13 = .ok (.lload_n 1, 1) := by decide +kernel
theorem d_Op_payoff_14 : decode b_Op_payoff 14 = .ok (.invokevirtual 81, 3) := by decide +kernel
theorem d_Op_payoff_17 : decode b_Op_payoff 17 = .ok (.lreturn, 1) := by decide +kernel
theorem d_Op_payoffInside_0 : decode b_Op_payoffInside 0 = .ok (.aload_n 0, 1) := by decide +kernel
theorem d_Op_payoffInside_1 : decode b_Op_payoffInside 1 = .ok (.getfield 18, 3) := by decide +kernel
theorem d_Op_payoffInside_4 : decode b_Op_payoffInside 4 = .ok (.tableswitch 67 0 2 #[28, 39, 50], 28) := by decide +kernel
theorem d_Op_payoffInside_32 : decode b_Op_payoffInside 32 = .ok (.lload_n 1, 1) := by decide +kernel
theorem d_Op_payoffInside_33 : decode b_Op_payoffInside 33 = .ok (.aload_n 0, 1) := by decide +kernel
theorem d_Op_payoffInside_34 : decode b_Op_payoffInside 34 = .ok (.getfield 22, 3) := by decide +kernel
theorem d_Op_payoffInside_37 : decode b_Op_payoffInside 37 = .ok (.lsub, 1) := by decide +kernel
theorem d_Op_payoffInside_38 : decode b_Op_payoffInside 38 = .ok (.lconst 0, 1) := by decide +kernel
theorem d_Op_payoffInside_39 : decode b_Op_payoffInside 39 = .ok (.invokestatic 85, 3) := by decide +kernel
theorem d_Op_payoffInside_42 : decode b_Op_payoffInside 42 = .ok (.lreturn, 1) := by decide +kernel
theorem d_Op_payoffInside_43 : decode b_Op_payoffInside 43 = .ok (.aload_n 0, 1) := by decide +kernel
theorem d_Op_payoffInside_44 : decode b_Op_payoffInside 44 = .ok (.getfield 22, 3) := by decide +kernel
theorem d_Op_payoffInside_47 : decode b_Op_payoffInside 47 = .ok (.lload_n 1, 1) := by decide +kernel
theorem d_Op_payoffInside_48 : decode b_Op_payoffInside 48 = .ok (.lsub, 1) := by decide +kernel
theorem d_Op_payoffInside_49 : decode b_Op_payoffInside 49 = .ok (.lconst 0, 1) := by decide +kernel
theorem d_Op_payoffInside_50 : decode b_Op_payoffInside 50 = .ok (.invokestatic 85, 3) := by decide +kernel
theorem d_Op_payoffInside_53 : decode b_Op_payoffInside 53 = .ok (.lreturn, 1) := by decide +kernel
theorem d_Op_payoffInside_54 : decode b_Op_payoffInside 54 = .ok (.lload_n 1, 1) := by decide +kernel
theorem d_Op_payoffInside_55 : decode b_Op_payoffInside 55 = .ok (.aload_n 0, 1) := by decide +kernel
theorem d_Op_payoffInside_56 : decode b_Op_payoffInside 56 = .ok (.getfield 22, 3) := by decide +kernel
theorem d_Op_payoffInside_59 : decode b_Op_payoffInside 59 = .ok (.lcmp, 1) := by decide +kernel
theorem d_Op_payoffInside_60 : decode b_Op_payoffInside 60 = .ok (.ifCond .lt 9, 3) := by decide +kernel
theorem d_Op_payoffInside_63 : decode b_Op_payoffInside 63 = .ok (.ldc2_w 91, 3) := by decide +kernel
theorem d_Op_payoffInside_66 : decode b_Op_payoffInside 66 = .ok (.goto 4, 3) := by decide +kernel
theorem d_Op_payoffInside_69 : decode b_Op_payoffInside 69 = .ok (.lconst 0, 1) := by decide +kernel
theorem d_Op_payoffInside_70 : decode b_Op_payoffInside 70 = .ok (.lreturn, 1) := by decide +kernel
theorem d_Op_payoffInside_71 : decode b_Op_payoffInside 71 = .ok (.lload_n 1, 1) := by decide +kernel
theorem d_Op_payoffInside_72 : decode b_Op_payoffInside 72 = .ok (.aload_n 0, 1) := by decide +kernel
theorem d_Op_payoffInside_73 : decode b_Op_payoffInside 73 = .ok (.getfield 22, 3) := by decide +kernel
theorem d_Op_payoffInside_76 : decode b_Op_payoffInside 76 = .ok (.lsub, 1) := by decide +kernel
theorem d_Op_payoffInside_77 : decode b_Op_payoffInside 77 = .ok (.lreturn, 1) := by decide +kernel
theorem d_Op_priceAt_0 : decode b_Op_priceAt 0 = .ok (.aload_n 0, 1) := by decide +kernel
theorem d_Op_priceAt_1 : decode b_Op_priceAt 1 = .ok (.getfield 9, 3) := by decide +kernel
theorem d_Op_priceAt_4 : decode b_Op_priceAt 4 = .ok (.getfield 55, 3) := by decide +kernel
theorem d_Op_priceAt_7 : decode b_Op_priceAt 7 = .ok (.iload_n 1, 1) := by decide +kernel
theorem d_Op_priceAt_8 : decode b_Op_priceAt 8 = .ok (.i2l, 1) := by decide +kernel
theorem d_Op_priceAt_9 : decode b_Op_priceAt 9 = .ok (.aload_n 0, 1) := by decide +kernel
theorem d_Op_priceAt_10 : decode b_Op_priceAt 10 = .ok (.getfield 15, 3) := by decide +kernel
theorem d_Op_priceAt_13 : decode b_Op_priceAt 13 = .ok (.getfield 55, 3) := by decide +kernel
theorem d_Op_priceAt_16 : decode b_Op_priceAt 16 = .ok (.lmul, 1) := by decide +kernel
theorem d_Op_priceAt_17 : decode b_Op_priceAt 17 = .ok (.ladd, 1) := by decide +kernel
theorem d_Op_priceAt_18 : decode b_Op_priceAt 18 = .ok (.lreturn, 1) := by decide +kernel
theorem d_Op_sort_0 : decode b_Op_sort 0 = .ok (.iconst 3, 1) := by decide +kernel
theorem d_Op_sort_1 : decode b_Op_sort 1 = .ok (.ireturn, 1) := by decide +kernel
theorem d_Op_takeParts_0 : decode b_Op_takeParts 0 = .ok (.aload_n 0, 1) := by decide +kernel
theorem d_Op_takeParts_1 : decode b_Op_takeParts 1 = .ok (.aload_n 1, 1) := by decide +kernel
theorem d_Op_takeParts_2 : decode b_Op_takeParts 2 = .ok (.putfield 32, 3) := by decide +kernel
theorem d_Op_takeParts_5 : decode b_Op_takeParts 5 = .ok (.aload_n 0, 1) := by decide +kernel
theorem d_Op_takeParts_6 : decode b_Op_takeParts 6 = .ok (.aload_n 2, 1) := by decide +kernel
theorem d_Op_takeParts_7 : decode b_Op_takeParts 7 = .ok (.putfield 35, 3) := by decide +kernel
theorem d_Op_takeParts_10 : decode b_Op_takeParts 10 = .ok (.aload_n 0, 1) := by decide +kernel
theorem d_Op_takeParts_11 : decode b_Op_takeParts 11 = .ok (.iconst 2, 1) := by decide +kernel
theorem d_Op_takeParts_12 : decode b_Op_takeParts 12 = .ok (.putfield 38, 3) := by decide +kernel
theorem d_Op_takeParts_15 : decode b_Op_takeParts 15 = .ok (.aload_n 0, 1) := by decide +kernel
theorem d_Op_takeParts_16 : decode b_Op_takeParts 16 = .ok (.getfield 32, 3) := by decide +kernel
theorem d_Op_takeParts_19 : decode b_Op_takeParts 19 = .ok (.ifnull 26, 3) := by decide +kernel
theorem d_Op_takeParts_22 : decode b_Op_takeParts 22 = .ok (.aload_n 0, 1) := by decide +kernel
theorem d_Op_takeParts_23 : decode b_Op_takeParts 23 = .ok (.getfield 41, 3) := by decide +kernel
theorem d_Op_takeParts_26 : decode b_Op_takeParts 26 = .ok (.aload_n 0, 1) := by decide +kernel
theorem d_Op_takeParts_27 : decode b_Op_takeParts 27 = .ok (.getfield 38, 3) := by decide +kernel
theorem d_Op_takeParts_30 : decode b_Op_takeParts 30 = .ok (.aload_n 0, 1) := by decide +kernel
theorem d_Op_takeParts_31 : decode b_Op_takeParts 31 = .ok (.getfield 32, 3) := by decide +kernel
theorem d_Op_takeParts_34 : decode b_Op_takeParts 34 = .ok (.aastore, 1) := by decide +kernel
theorem d_Op_takeParts_35 : decode b_Op_takeParts 35 = .ok (.aload_n 0, 1) := by decide +kernel
theorem d_Op_takeParts_36 : decode b_Op_takeParts 36 = .ok (.dup, 1) := by decide +kernel
theorem d_Op_takeParts_37 : decode b_Op_takeParts 37 = .ok (.getfield 38, 3) := by decide +kernel
theorem d_Op_takeParts_40 : decode b_Op_takeParts 40 = .ok (.iconst 1, 1) := by decide +kernel
theorem d_Op_takeParts_41 : decode b_Op_takeParts 41 = .ok (.iadd, 1) := by decide +kernel
theorem d_Op_takeParts_42 : decode b_Op_takeParts 42 = .ok (.putfield 38, 3) := by decide +kernel
theorem d_Op_takeParts_45 : decode b_Op_takeParts 45 = .ok (.aload_n 0, 1) := by decide +kernel
theorem d_Op_takeParts_46 : decode b_Op_takeParts 46 = .ok (.getfield 35, 3) := by decide +kernel
theorem d_Op_takeParts_49 : decode b_Op_takeParts 49 = .ok (.ifnull 26, 3) := by decide +kernel
theorem d_Op_takeParts_52 : decode b_Op_takeParts 52 = .ok (.aload_n 0, 1) := by decide +kernel
theorem d_Op_takeParts_53 : decode b_Op_takeParts 53 = .ok (.getfield 41, 3) := by decide +kernel
theorem d_Op_takeParts_56 : decode b_Op_takeParts 56 = .ok (.aload_n 0, 1) := by decide +kernel
theorem d_Op_takeParts_57 : decode b_Op_takeParts 57 = .ok (.getfield 38, 3) := by decide +kernel
theorem d_Op_takeParts_60 : decode b_Op_takeParts 60 = .ok (.aload_n 0, 1) := by decide +kernel
theorem d_Op_takeParts_61 : decode b_Op_takeParts 61 = .ok (.getfield 35, 3) := by decide +kernel
theorem d_Op_takeParts_64 : decode b_Op_takeParts 64 = .ok (.aastore, 1) := by decide +kernel
theorem d_Op_takeParts_65 : decode b_Op_takeParts 65 = .ok (.aload_n 0, 1) := by decide +kernel
theorem d_Op_takeParts_66 : decode b_Op_takeParts 66 = .ok (.dup, 1) := by decide +kernel
theorem d_Op_takeParts_67 : decode b_Op_takeParts 67 = .ok (.getfield 38, 3) := by decide +kernel
theorem d_Op_takeParts_70 : decode b_Op_takeParts 70 = .ok (.iconst 1, 1) := by decide +kernel
theorem d_Op_takeParts_71 : decode b_Op_takeParts 71 = .ok (.iadd, 1) := by decide +kernel
theorem d_Op_takeParts_72 : decode b_Op_takeParts 72 = .ok (.putfield 38, 3) := by decide +kernel
theorem d_Op_takeParts_75 : decode b_Op_takeParts 75 = .ok (.return_, 1) := by decide +kernel
theorem d_Op_workOut_0 : decode b_Op_workOut 0 = .ok (.aload_n 0, 1) := by decide +kernel
theorem d_Op_workOut_1 : decode b_Op_workOut 1 = .ok (.getfield 45, 3) := by decide +kernel
theorem d_Op_workOut_4 : decode b_Op_workOut 4 = .ok (.aload_n 0, 1) := by decide +kernel
theorem d_Op_workOut_5 : decode b_Op_workOut 5 = .ok (.invokevirtual 49, 3) := by decide +kernel
theorem d_Op_workOut_8 : decode b_Op_workOut 8 = .ok (.aload_n 0, 1) := by decide +kernel
theorem d_Op_workOut_9 : decode b_Op_workOut 9 = .ok (.getfield 15, 3) := by decide +kernel
theorem d_Op_workOut_12 : decode b_Op_workOut 12 = .ok (.getfield 55, 3) := by decide +kernel
theorem d_Op_workOut_15 : decode b_Op_workOut 15 = .ok (.lconst 0, 1) := by decide +kernel
theorem d_Op_workOut_16 : decode b_Op_workOut 16 = .ok (.lcmp, 1) := by decide +kernel
theorem d_Op_workOut_17 : decode b_Op_workOut 17 = .ok (.ifCond .gt 13, 3) := by decide +kernel
theorem d_Op_workOut_20 : decode b_Op_workOut 20 = .ok (.new 58, 3) := by decide +kernel
theorem d_Op_workOut_23 : decode b_Op_workOut 23 = .ok (.dup, 1) := by decide +kernel
theorem d_Op_workOut_24 : decode b_Op_workOut 24 = .ok (.ldc 60, 2) := by decide +kernel
theorem d_Op_workOut_26 : decode b_Op_workOut 26 = .ok (.invokespecial 62, 3) := by decide +kernel
theorem d_Op_workOut_29 : decode b_Op_workOut 29 = .ok (.athrow, 1) := by decide +kernel
theorem d_Op_workOut_30 : decode b_Op_workOut 30 = .ok (.aload_n 0, 1) := by decide +kernel
theorem d_Op_workOut_31 : decode b_Op_workOut 31 = .ok (.getfield 45, 3) := by decide +kernel
theorem d_Op_workOut_34 : decode b_Op_workOut 34 = .ok (.aload_n 0, 1) := by decide +kernel
theorem d_Op_workOut_35 : decode b_Op_workOut 35 = .ok (.aload_n 0, 1) := by decide +kernel
theorem d_Op_workOut_36 : decode b_Op_workOut 36 = .ok (.invokevirtual 65, 3) := by decide +kernel
theorem d_Op_workOut_39 : decode b_Op_workOut 39 = .ok (.invokevirtual 69, 3) := by decide +kernel
theorem d_Op_workOut_42 : decode b_Op_workOut 42 = .ok (.lreturn, 1) := by decide +kernel
theorem d_Pa_checkSuits_0 : decode b_Pa_checkSuits 0 = .ok (.aload_n 1, 1) := by decide +kernel
theorem d_Pa_checkSuits_1 : decode b_Pa_checkSuits 1 = .ok (.getfield 9, 3) := by decide +kernel
theorem d_Pa_checkSuits_4 : decode b_Pa_checkSuits 4 = .ok (.ifCond .eq 13, 3) := by decide +kernel
theorem d_Pa_checkSuits_7 : decode b_Pa_checkSuits 7 = .ok (.new 15, 3) := by decide +kernel
theorem d_Pa_checkSuits_10 : decode b_Pa_checkSuits 10 = .ok (.dup, 1) := by decide +kernel
theorem d_Pa_checkSuits_11 : decode b_Pa_checkSuits 11 = .ok (.ldc 17, 2) := by decide +kernel
theorem d_Pa_checkSuits_13 : decode b_Pa_checkSuits 13 = .ok (.invokespecial 19, 3) := by decide +kernel
theorem d_Pa_checkSuits_16 : decode b_Pa_checkSuits 16 = .ok (.athrow, 1) := by decide +kernel
theorem d_Pa_checkSuits_17 : decode b_Pa_checkSuits 17 = .ok (.return_, 1) := by decide +kernel
theorem d_Pa_drawsUp_0 : decode b_Pa_drawsUp 0 = .ok (.aload_n 0, 1) := by decide +kernel
theorem d_Pa_drawsUp_1 : decode b_Pa_drawsUp 1 = .ok (.aload_n 0, 1) := by decide +kernel
theorem d_Pa_drawsUp_2 : decode b_Pa_drawsUp 2 = .ok (.getfield 26, 3) := by decide +kernel
theorem d_Pa_drawsUp_5 : decode b_Pa_drawsUp 5 = .ok (.ldc2_w 72, 3) := by decide +kernel
theorem d_Pa_drawsUp_8 : decode b_Pa_drawsUp 8 = .ok (.lmul, 1) := by decide +kernel
theorem d_Pa_drawsUp_9 : decode b_Pa_drawsUp 9 = .ok (.ldc2_w 24, 3) := by decide +kernel
theorem d_Pa_drawsUp_12 : decode b_Pa_drawsUp 12 = .ok (.ladd, 1) := by decide +kernel
theorem d_Pa_drawsUp_13 : decode b_Pa_drawsUp 13 = .ok (.ldc2_w 74, 3) := by decide +kernel
theorem d_Pa_drawsUp_16 : decode b_Pa_drawsUp 16 = .ok (.land, 1) := by decide +kernel
theorem d_Pa_drawsUp_17 : decode b_Pa_drawsUp 17 = .ok (.putfield 26, 3) := by decide +kernel
theorem d_Pa_drawsUp_20 : decode b_Pa_drawsUp 20 = .ok (.aload_n 0, 1) := by decide +kernel
theorem d_Pa_drawsUp_21 : decode b_Pa_drawsUp 21 = .ok (.getfield 26, 3) := by decide +kernel
theorem d_Pa_drawsUp_24 : decode b_Pa_drawsUp 24 = .ok (.bipush 16, 2) := by decide +kernel
theorem d_Pa_drawsUp_26 : decode b_Pa_drawsUp 26 = .ok (.lshr, 1) := by decide +kernel
theorem d_Pa_drawsUp_27 : decode b_Pa_drawsUp 27 = .ok (.ldc2_w 76, 3) := by decide +kernel
theorem d_Pa_drawsUp_30 : decode b_Pa_drawsUp 30 = .ok (.land, 1) := by decide +kernel
theorem d_Pa_drawsUp_31 : decode b_Pa_drawsUp 31 = .ok (.iload_n 1, 1) := by decide +kernel
theorem d_Pa_drawsUp_32 : decode b_Pa_drawsUp 32 = .ok (.i2l, 1) := by decide +kernel
theorem d_Pa_drawsUp_33 : decode b_Pa_drawsUp 33 = .ok (.lcmp, 1) := by decide +kernel
theorem d_Pa_drawsUp_34 : decode b_Pa_drawsUp 34 = .ok (.ifCond .ge 7, 3) := by decide +kernel
theorem d_Pa_drawsUp_37 : decode b_Pa_drawsUp 37 = .ok (.iconst 1, 1) := by decide +kernel
theorem d_Pa_drawsUp_38 : decode b_Pa_drawsUp 38 = .ok (.goto 4, 3) := by decide +kernel
theorem d_Pa_drawsUp_41 : decode b_Pa_drawsUp 41 = .ok (.iconst 0, 1) := by decide +kernel
theorem d_Pa_drawsUp_42 : decode b_Pa_drawsUp 42 = .ok (.ireturn, 1) := by decide +kernel
theorem d_Pa_endOfPath_0 : decode b_Pa_endOfPath 0 = .ok (.aload_n 1, 1) := by decide +kernel
theorem d_Pa_endOfPath_1 : decode b_Pa_endOfPath 1 = .ok (.getfield 45, 3) := by decide +kernel
theorem d_Pa_endOfPath_4 : decode b_Pa_endOfPath 4 = .ok (.getfield 49, 3) := by decide +kernel
theorem d_Pa_endOfPath_7 : decode b_Pa_endOfPath 7 = .ok (.lstore_n 2, 1) := by decide +kernel
theorem d_Pa_endOfPath_8 : decode b_Pa_endOfPath 8 = .ok (.aload_n 1, 1) := by decide +kernel
theorem d_Pa_endOfPath_9 : decode b_Pa_endOfPath 9 = .ok (.lload_n 2, 1) := by decide +kernel
theorem d_Pa_endOfPath_10 : decode b_Pa_endOfPath 10 = .ok (.invokevirtual 54, 3) := by decide +kernel
theorem d_Pa_endOfPath_13 : decode b_Pa_endOfPath 13 = .ok (.istore 4, 2) := by decide +kernel
theorem d_Pa_endOfPath_15 : decode b_Pa_endOfPath 15 = .ok (.iconst 0, 1) := by decide +kernel
theorem d_Pa_endOfPath_16 : decode b_Pa_endOfPath 16 = .ok (.istore 5, 2) := by decide +kernel
theorem d_Pa_endOfPath_18 : decode b_Pa_endOfPath 18 = .ok (.iload 5, 2) := by decide +kernel
theorem d_Pa_endOfPath_20 : decode b_Pa_endOfPath 20 = .ok (.aload_n 1, 1) := by decide +kernel
theorem d_Pa_endOfPath_21 : decode b_Pa_endOfPath 21 = .ok (.getfield 42, 3) := by decide +kernel
theorem d_Pa_endOfPath_24 : decode b_Pa_endOfPath 24 = .ok (.if_icmp .ge 61, 3) := by decide +kernel
theorem d_Pa_endOfPath_27 : decode b_Pa_endOfPath 27 = .ok (.lload_n 2, 1) := by decide +kernel
theorem d_Pa_endOfPath_28 : decode b_Pa_endOfPath 28 = .ok (.aload_n 0, 1) := by decide +kernel
theorem d_Pa_endOfPath_29 : decode b_Pa_endOfPath 29 = .ok (.aload_n 1, 1) := by decide +kernel
theorem d_Pa_endOfPath_30 : decode b_Pa_endOfPath 30 = .ok (.getfield 58, 3) := by decide +kernel
theorem d_Pa_endOfPath_33 : decode b_Pa_endOfPath 33 = .ok (.invokevirtual 61, 3) := by decide +kernel
theorem d_Pa_endOfPath_36 : decode b_Pa_endOfPath 36 = .ok (.ifCond .eq 13, 3) := by decide +kernel
theorem d_Pa_endOfPath_39 : decode b_Pa_endOfPath 39 = .ok (.aload_n 1, 1) := by decide +kernel
theorem d_Pa_endOfPath_40 : decode b_Pa_endOfPath 40 = .ok (.getfield 65, 3) := by decide +kernel
theorem d_Pa_endOfPath_43 : decode b_Pa_endOfPath 43 = .ok (.getfield 49, 3) := by decide +kernel
theorem d_Pa_endOfPath_46 : decode b_Pa_endOfPath 46 = .ok (.goto 11, 3) := by decide +kernel
theorem d_Pa_endOfPath_49 : decode b_Pa_endOfPath 49 = .ok (.aload_n 1, 1) := by decide +kernel
theorem d_Pa_endOfPath_50 : decode b_Pa_endOfPath 50 = .ok (.getfield 65, 3) := by decide +kernel
theorem d_Pa_endOfPath_53 : decode b_Pa_endOfPath 53 = .ok (.getfield 49, 3) := by decide +kernel
theorem d_Pa_endOfPath_56 : decode b_Pa_endOfPath 56 = .ok (.lneg, 1) := by decide +kernel
theorem d_Pa_endOfPath_57 : decode b_Pa_endOfPath 57 = .ok (.ladd, 1) := by decide +kernel
theorem d_Pa_endOfPath_58 : decode b_Pa_endOfPath 58 = .ok (.lstore_n 2, 1) := by decide +kernel
theorem d_Pa_endOfPath_59 : decode b_Pa_endOfPath 59 = .ok (.iload 4, 2) := by decide +kernel
theorem d_Pa_endOfPath_61 : decode b_Pa_endOfPath 61 = .ok (.ifCond .ne 11, 3) := by decide +kernel
theorem d_Pa_endOfPath_64 : decode b_Pa_endOfPath 64 = .ok (.aload_n 1, 1) := by decide +kernel
theorem d_Pa_endOfPath_65 : decode b_Pa_endOfPath 65 = .ok (.lload_n 2, 1) := by decide +kernel
theorem d_Pa_endOfPath_66 : decode b_Pa_endOfPath 66 = .ok (.invokevirtual 54, 3) := by decide +kernel
theorem d_Pa_endOfPath_69 : decode b_Pa_endOfPath 69 = .ok (.ifCond .eq 7, 3) := by decide +kernel
theorem d_Pa_endOfPath_72 : decode b_Pa_endOfPath 72 = .ok (.iconst 1, 1) := by decide +kernel
theorem d_Pa_endOfPath_73 : decode b_Pa_endOfPath 73 = .ok (.goto 4, 3) := by decide +kernel
theorem d_Pa_endOfPath_76 : decode b_Pa_endOfPath 76 = .ok (.iconst 0, 1) := by decide +kernel
end
section
theorem d_Pa_endOfPath_77 : decode b_Pa_endOfPath 77 = .ok (.istore 4, 2) := by decide +kernel
theorem d_Pa_endOfPath_79 : decode b_Pa_endOfPath 79 = .ok (.iinc 5 1, 3) := by decide +kernel
theorem d_Pa_endOfPath_82 : decode b_Pa_endOfPath 82 = .ok (.goto (-64), 3) := by decide +kernel
theorem d_Pa_endOfPath_85 : decode b_Pa_endOfPath 85 = .ok (.iload 4, 2) := by decide +kernel
theorem d_Pa_endOfPath_87 : decode b_Pa_endOfPath 87 = .ok (.ifCond .eq 7, 3) := by decide +kernel
theorem d_Pa_endOfPath_90 : decode b_Pa_endOfPath 90 = .ok (.lconst 0, 1) := by decide +kernel
theorem d_Pa_endOfPath_91 : decode b_Pa_endOfPath 91 = .ok (.goto 8, 3) := by decide +kernel
theorem d_Pa_endOfPath_94 : decode b_Pa_endOfPath 94 = .ok (.aload_n 1, 1) := by decide +kernel
theorem d_Pa_endOfPath_95 : decode b_Pa_endOfPath 95 = .ok (.lload_n 2, 1) := by decide +kernel
theorem d_Pa_endOfPath_96 : decode b_Pa_endOfPath 96 = .ok (.invokevirtual 68, 3) := by decide +kernel
theorem d_Pa_endOfPath_99 : decode b_Pa_endOfPath 99 = .ok (.lreturn, 1) := by decide +kernel
theorem d_Pa_init_0 : decode b_Pa_init 0 = .ok (.aload_n 0, 1) := by decide +kernel
theorem d_Pa_init_1 : decode b_Pa_init 1 = .ok (.iconst 0, 1) := by decide +kernel
theorem d_Pa_init_2 : decode b_Pa_init 2 = .ok (.bipush 6, 2) := by decide +kernel
theorem d_Pa_init_4 : decode b_Pa_init 4 = .ok (.invokespecial 3, 3) := by decide +kernel
theorem d_Pa_init_7 : decode b_Pa_init 7 = .ok (.return_, 1) := by decide +kernel
theorem d_Pa_price_0 : decode b_Pa_price 0 = .ok (.aload_n 0, 1) := by decide +kernel
theorem d_Pa_price_1 : decode b_Pa_price 1 = .ok (.ldc2_w 24, 3) := by decide +kernel
theorem d_Pa_price_4 : decode b_Pa_price 4 = .ok (.putfield 26, 3) := by decide +kernel
theorem d_Pa_price_7 : decode b_Pa_price 7 = .ok (.iconst 1, 1) := by decide +kernel
theorem d_Pa_price_8 : decode b_Pa_price 8 = .ok (.aload_n 1, 1) := by decide +kernel
theorem d_Pa_price_9 : decode b_Pa_price 9 = .ok (.getfield 30, 3) := by decide +kernel
theorem d_Pa_price_12 : decode b_Pa_price 12 = .ok (.ishl, 1) := by decide +kernel
theorem d_Pa_price_13 : decode b_Pa_price 13 = .ok (.istore 4, 2) := by decide +kernel
theorem d_Pa_price_15 : decode b_Pa_price 15 = .ok (.lconst 0, 1) := by decide +kernel
theorem d_Pa_price_16 : decode b_Pa_price 16 = .ok (.lstore 5, 2) := by decide +kernel
theorem d_Pa_price_18 : decode b_Pa_price 18 = .ok (.iconst 0, 1) := by decide +kernel
theorem d_Pa_price_19 : decode b_Pa_price 19 = .ok (.istore 7, 2) := by decide +kernel
theorem d_Pa_price_21 : decode b_Pa_price 21 = .ok (.iload 7, 2) := by decide +kernel
theorem d_Pa_price_23 : decode b_Pa_price 23 = .ok (.iload 4, 2) := by decide +kernel
theorem d_Pa_price_25 : decode b_Pa_price 25 = .ok (.if_icmp .ge 19, 3) := by decide +kernel
theorem d_Pa_price_28 : decode b_Pa_price 28 = .ok (.lload 5, 2) := by decide +kernel
theorem d_Pa_price_30 : decode b_Pa_price 30 = .ok (.aload_n 0, 1) := by decide +kernel
theorem d_Pa_price_31 : decode b_Pa_price 31 = .ok (.aload_n 1, 1) := by decide +kernel
theorem d_Pa_price_32 : decode b_Pa_price 32 = .ok (.invokevirtual 34, 3) := by decide +kernel
theorem d_Pa_price_35 : decode b_Pa_price 35 = .ok (.ladd, 1) := by decide +kernel
theorem d_Pa_price_36 : decode b_Pa_price 36 = .ok (.lstore 5, 2) := by decide +kernel
theorem d_Pa_price_38 : decode b_Pa_price 38 = .ok (.iinc 7 1, 3) := by decide +kernel
theorem d_Pa_price_41 : decode b_Pa_price 41 = .ok (.goto (-20), 3) := by decide +kernel
theorem d_Pa_price_44 : decode b_Pa_price 44 = .ok (.lload 5, 2) := by decide +kernel
theorem d_Pa_price_46 : decode b_Pa_price 46 = .ok (.aload_n 1, 1) := by decide +kernel
theorem d_Pa_price_47 : decode b_Pa_price 47 = .ok (.getfield 30, 3) := by decide +kernel
theorem d_Pa_price_50 : decode b_Pa_price 50 = .ok (.invokestatic 38, 3) := by decide +kernel
theorem d_Pa_price_53 : decode b_Pa_price 53 = .ok (.lstore 7, 2) := by decide +kernel
theorem d_Pa_price_55 : decode b_Pa_price 55 = .ok (.iconst 0, 1) := by decide +kernel
theorem d_Pa_price_56 : decode b_Pa_price 56 = .ok (.istore 9, 2) := by decide +kernel
theorem d_Pa_price_58 : decode b_Pa_price 58 = .ok (.iload 9, 2) := by decide +kernel
theorem d_Pa_price_60 : decode b_Pa_price 60 = .ok (.aload_n 1, 1) := by decide +kernel
theorem d_Pa_price_61 : decode b_Pa_price 61 = .ok (.getfield 42, 3) := by decide +kernel
theorem d_Pa_price_64 : decode b_Pa_price 64 = .ok (.if_icmp .ge 20, 3) := by decide +kernel
theorem d_Pa_price_67 : decode b_Pa_price 67 = .ok (.lload_n 2, 1) := by decide +kernel
theorem d_Pa_price_68 : decode b_Pa_price 68 = .ok (.lload 7, 2) := by decide +kernel
theorem d_Pa_price_70 : decode b_Pa_price 70 = .ok (.lmul, 1) := by decide +kernel
theorem d_Pa_price_71 : decode b_Pa_price 71 = .ok (.bipush 10, 2) := by decide +kernel
theorem d_Pa_price_73 : decode b_Pa_price 73 = .ok (.invokestatic 38, 3) := by decide +kernel
theorem d_Pa_price_76 : decode b_Pa_price 76 = .ok (.lstore 7, 2) := by decide +kernel
theorem d_Pa_price_78 : decode b_Pa_price 78 = .ok (.iinc 9 1, 3) := by decide +kernel
theorem d_Pa_price_81 : decode b_Pa_price 81 = .ok (.goto (-23), 3) := by decide +kernel
theorem d_Pa_price_84 : decode b_Pa_price 84 = .ok (.lload 7, 2) := by decide +kernel
theorem d_Pa_price_86 : decode b_Pa_price 86 = .ok (.lreturn, 1) := by decide +kernel
theorem d_Q_add_0 : decode b_Q_add 0 = .ok (.aload_n 0, 1) := by decide +kernel
theorem d_Q_add_1 : decode b_Q_add 1 = .ok (.getfield 11, 3) := by decide +kernel
theorem d_Q_add_4 : decode b_Q_add 4 = .ok (.aload_n 1, 1) := by decide +kernel
theorem d_Q_add_5 : decode b_Q_add 5 = .ok (.getfield 195, 3) := by decide +kernel
theorem d_Q_add_8 : decode b_Q_add 8 = .ok (.aload_n 1, 1) := by decide +kernel
theorem d_Q_add_9 : decode b_Q_add 9 = .ok (.aastore, 1) := by decide +kernel
theorem d_Q_add_10 : decode b_Q_add 10 = .ok (.aload_n 0, 1) := by decide +kernel
theorem d_Q_add_11 : decode b_Q_add 11 = .ok (.dup, 1) := by decide +kernel
theorem d_Q_add_12 : decode b_Q_add 12 = .ok (.getfield 42, 3) := by decide +kernel
theorem d_Q_add_15 : decode b_Q_add 15 = .ok (.iconst 1, 1) := by decide +kernel
theorem d_Q_add_16 : decode b_Q_add 16 = .ok (.iadd, 1) := by decide +kernel
theorem d_Q_add_17 : decode b_Q_add 17 = .ok (.putfield 42, 3) := by decide +kernel
theorem d_Q_add_20 : decode b_Q_add 20 = .ok (.aload_n 1, 1) := by decide +kernel
theorem d_Q_add_21 : decode b_Q_add 21 = .ok (.getfield 195, 3) := by decide +kernel
theorem d_Q_add_24 : decode b_Q_add 24 = .ok (.ireturn, 1) := by decide +kernel
theorem d_Q_ask_0 : decode b_Q_ask 0 = .ok (.aload_n 1, 1) := by decide +kernel
theorem d_Q_ask_1 : decode b_Q_ask 1 = .ok (.getfield 150, 3) := by decide +kernel
theorem d_Q_ask_4 : decode b_Q_ask 4 = .ok (.ifCond .eq 4, 3) := by decide +kernel
theorem d_Q_ask_7 : decode b_Q_ask 7 = .ok (.return_, 1) := by decide +kernel
theorem d_Q_ask_8 : decode b_Q_ask 8 = .ok (.iconst 0, 1) := by decide +kernel
theorem d_Q_ask_9 : decode b_Q_ask 9 = .ok (.istore_n 2, 1) := by decide +kernel
theorem d_Q_ask_10 : decode b_Q_ask 10 = .ok (.iload_n 2, 1) := by decide +kernel
theorem d_Q_ask_11 : decode b_Q_ask 11 = .ok (.aload_n 1, 1) := by decide +kernel
theorem d_Q_ask_12 : decode b_Q_ask 12 = .ok (.getfield 181, 3) := by decide +kernel
theorem d_Q_ask_15 : decode b_Q_ask 15 = .ok (.if_icmp .ge 19, 3) := by decide +kernel
theorem d_Q_ask_18 : decode b_Q_ask 18 = .ok (.aload_n 0, 1) := by decide +kernel
theorem d_Q_ask_19 : decode b_Q_ask 19 = .ok (.aload_n 1, 1) := by decide +kernel
theorem d_Q_ask_20 : decode b_Q_ask 20 = .ok (.getfield 232, 3) := by decide +kernel
theorem d_Q_ask_23 : decode b_Q_ask 23 = .ok (.iload_n 2, 1) := by decide +kernel
theorem d_Q_ask_24 : decode b_Q_ask 24 = .ok (.aaload, 1) := by decide +kernel
theorem d_Q_ask_25 : decode b_Q_ask 25 = .ok (.invokevirtual 235, 3) := by decide +kernel
theorem d_Q_ask_28 : decode b_Q_ask 28 = .ok (.iinc 2 1, 3) := by decide +kernel
theorem d_Q_ask_31 : decode b_Q_ask 31 = .ok (.goto (-21), 3) := by decide +kernel
theorem d_Q_ask_34 : decode b_Q_ask 34 = .ok (.aload_n 1, 1) := by decide +kernel
theorem d_Q_ask_35 : decode b_Q_ask 35 = .ok (.aload_n 1, 1) := by decide +kernel
theorem d_Q_ask_36 : decode b_Q_ask 36 = .ok (.invokevirtual 238, 3) := by decide +kernel
theorem d_Q_ask_39 : decode b_Q_ask 39 = .ok (.invokestatic 242, 3) := by decide +kernel
theorem d_Q_ask_42 : decode b_Q_ask 42 = .ok (.putfield 138, 3) := by decide +kernel
theorem d_Q_ask_45 : decode b_Q_ask 45 = .ok (.aload_n 1, 1) := by decide +kernel
theorem d_Q_ask_46 : decode b_Q_ask 46 = .ok (.iconst 1, 1) := by decide +kernel
theorem d_Q_ask_47 : decode b_Q_ask 47 = .ok (.putfield 150, 3) := by decide +kernel
theorem d_Q_ask_50 : decode b_Q_ask 50 = .ok (.aload_n 1, 1) := by decide +kernel
theorem d_Q_ask_51 : decode b_Q_ask 51 = .ok (.dup, 1) := by decide +kernel
theorem d_Q_ask_52 : decode b_Q_ask 52 = .ok (.getfield 184, 3) := by decide +kernel
theorem d_Q_ask_55 : decode b_Q_ask 55 = .ok (.iconst 1, 1) := by decide +kernel
theorem d_Q_ask_56 : decode b_Q_ask 56 = .ok (.iadd, 1) := by decide +kernel
theorem d_Q_ask_57 : decode b_Q_ask 57 = .ok (.putfield 184, 3) := by decide +kernel
theorem d_Q_ask_60 : decode b_Q_ask 60 = .ok (.aload_n 0, 1) := by decide +kernel
theorem d_Q_ask_61 : decode b_Q_ask 61 = .ok (.dup, 1) := by decide +kernel
theorem d_Q_ask_62 : decode b_Q_ask 62 = .ok (.getfield 189, 3) := by decide +kernel
theorem d_Q_ask_65 : decode b_Q_ask 65 = .ok (.iconst 1, 1) := by decide +kernel
theorem d_Q_ask_66 : decode b_Q_ask 66 = .ok (.iadd, 1) := by decide +kernel
theorem d_Q_ask_67 : decode b_Q_ask 67 = .ok (.putfield 189, 3) := by decide +kernel
theorem d_Q_ask_70 : decode b_Q_ask 70 = .ok (.return_, 1) := by decide +kernel
theorem d_Q_bitsUsedBy_0 : decode b_Q_bitsUsedBy 0 = .ok (.aload_n 1, 1) := by decide +kernel
theorem d_Q_bitsUsedBy_1 : decode b_Q_bitsUsedBy 1 = .ok (.invokevirtual 229, 3) := by decide +kernel
theorem d_Q_bitsUsedBy_4 : decode b_Q_bitsUsedBy 4 = .ok (.istore_n 2, 1) := by decide +kernel
theorem d_Q_bitsUsedBy_5 : decode b_Q_bitsUsedBy 5 = .ok (.iconst 0, 1) := by decide +kernel
theorem d_Q_bitsUsedBy_6 : decode b_Q_bitsUsedBy 6 = .ok (.istore_n 3, 1) := by decide +kernel
theorem d_Q_bitsUsedBy_7 : decode b_Q_bitsUsedBy 7 = .ok (.iload_n 3, 1) := by decide +kernel
theorem d_Q_bitsUsedBy_8 : decode b_Q_bitsUsedBy 8 = .ok (.aload_n 0, 1) := by decide +kernel
theorem d_Q_bitsUsedBy_9 : decode b_Q_bitsUsedBy 9 = .ok (.getfield 42, 3) := by decide +kernel
theorem d_Q_bitsUsedBy_12 : decode b_Q_bitsUsedBy 12 = .ok (.if_icmp .ge 55, 3) := by decide +kernel
theorem d_Q_bitsUsedBy_15 : decode b_Q_bitsUsedBy 15 = .ok (.iconst 0, 1) := by decide +kernel
theorem d_Q_bitsUsedBy_16 : decode b_Q_bitsUsedBy 16 = .ok (.istore 4, 2) := by decide +kernel
theorem d_Q_bitsUsedBy_18 : decode b_Q_bitsUsedBy 18 = .ok (.iload 4, 2) := by decide +kernel
theorem d_Q_bitsUsedBy_20 : decode b_Q_bitsUsedBy 20 = .ok (.aload_n 0, 1) := by decide +kernel
theorem d_Q_bitsUsedBy_21 : decode b_Q_bitsUsedBy 21 = .ok (.getfield 42, 3) := by decide +kernel
theorem d_Q_bitsUsedBy_24 : decode b_Q_bitsUsedBy 24 = .ok (.if_icmp .ge 37, 3) := by decide +kernel
theorem d_Q_bitsUsedBy_27 : decode b_Q_bitsUsedBy 27 = .ok (.iload_n 2, 1) := by decide +kernel
theorem d_Q_bitsUsedBy_28 : decode b_Q_bitsUsedBy 28 = .ok (.aload_n 0, 1) := by decide +kernel
theorem d_Q_bitsUsedBy_29 : decode b_Q_bitsUsedBy 29 = .ok (.getfield 11, 3) := by decide +kernel
theorem d_Q_bitsUsedBy_32 : decode b_Q_bitsUsedBy 32 = .ok (.iload 4, 2) := by decide +kernel
theorem d_Q_bitsUsedBy_34 : decode b_Q_bitsUsedBy 34 = .ok (.aaload, 1) := by decide +kernel
theorem d_Q_bitsUsedBy_35 : decode b_Q_bitsUsedBy 35 = .ok (.invokevirtual 226, 3) := by decide +kernel
theorem d_Q_bitsUsedBy_38 : decode b_Q_bitsUsedBy 38 = .ok (.iand, 1) := by decide +kernel
theorem d_Q_bitsUsedBy_39 : decode b_Q_bitsUsedBy 39 = .ok (.ifCond .eq 16, 3) := by decide +kernel
theorem d_Q_bitsUsedBy_42 : decode b_Q_bitsUsedBy 42 = .ok (.iload_n 2, 1) := by decide +kernel
theorem d_Q_bitsUsedBy_43 : decode b_Q_bitsUsedBy 43 = .ok (.aload_n 0, 1) := by decide +kernel
theorem d_Q_bitsUsedBy_44 : decode b_Q_bitsUsedBy 44 = .ok (.getfield 11, 3) := by decide +kernel
theorem d_Q_bitsUsedBy_47 : decode b_Q_bitsUsedBy 47 = .ok (.iload 4, 2) := by decide +kernel
theorem d_Q_bitsUsedBy_49 : decode b_Q_bitsUsedBy 49 = .ok (.aaload, 1) := by decide +kernel
theorem d_Q_bitsUsedBy_50 : decode b_Q_bitsUsedBy 50 = .ok (.invokevirtual 229, 3) := by decide +kernel
theorem d_Q_bitsUsedBy_53 : decode b_Q_bitsUsedBy 53 = .ok (.ior, 1) := by decide +kernel
theorem d_Q_bitsUsedBy_54 : decode b_Q_bitsUsedBy 54 = .ok (.istore_n 2, 1) := by decide +kernel
theorem d_Q_bitsUsedBy_55 : decode b_Q_bitsUsedBy 55 = .ok (.iinc 4 1, 3) := by decide +kernel
theorem d_Q_bitsUsedBy_58 : decode b_Q_bitsUsedBy 58 = .ok (.goto (-40), 3) := by decide +kernel
theorem d_Q_bitsUsedBy_61 : decode b_Q_bitsUsedBy 61 = .ok (.iinc 3 1, 3) := by decide +kernel
theorem d_Q_bitsUsedBy_64 : decode b_Q_bitsUsedBy 64 = .ok (.goto (-57), 3) := by decide +kernel
theorem d_Q_bitsUsedBy_67 : decode b_Q_bitsUsedBy 67 = .ok (.iload_n 2, 1) := by decide +kernel
theorem d_Q_bitsUsedBy_68 : decode b_Q_bitsUsedBy 68 = .ok (.ireturn, 1) := by decide +kernel
theorem d_Q_blend_0 : decode b_Q_blend 0 = .ok (.aload_n 0, 1) := by decide +kernel
theorem d_Q_blend_1 : decode b_Q_blend 1 = .ok (.iload_n 1, 1) := by decide +kernel
theorem d_Q_blend_2 : decode b_Q_blend 2 = .ok (.invokevirtual 53, 3) := by decide +kernel
theorem d_Q_blend_5 : decode b_Q_blend 5 = .ok (.astore 7, 2) := by decide +kernel
theorem d_Q_blend_7 : decode b_Q_blend 7 = .ok (.aload_n 0, 1) := by decide +kernel
theorem d_Q_blend_8 : decode b_Q_blend 8 = .ok (.iload_n 2, 1) := by decide +kernel
theorem d_Q_blend_9 : decode b_Q_blend 9 = .ok (.invokevirtual 53, 3) := by decide +kernel
theorem d_Q_blend_12 : decode b_Q_blend 12 = .ok (.astore 8, 2) := by decide +kernel
theorem d_Q_blend_14 : decode b_Q_blend 14 = .ok (.dload_n 3, 1) := by decide +kernel
theorem d_Q_blend_15 : decode b_Q_blend 15 = .ok (.bipush 16, 2) := by decide +kernel
theorem d_Q_blend_17 : decode b_Q_blend 17 = .ok (.invokestatic 33, 3) := by decide +kernel
theorem d_Q_blend_20 : decode b_Q_blend 20 = .ok (.lstore 9, 2) := by decide +kernel
theorem d_Q_blend_22 : decode b_Q_blend 22 = .ok (.dload 5, 2) := by decide +kernel
theorem d_Q_blend_24 : decode b_Q_blend 24 = .ok (.bipush 16, 2) := by decide +kernel
theorem d_Q_blend_26 : decode b_Q_blend 26 = .ok (.invokestatic 33, 3) := by decide +kernel
theorem d_Q_blend_29 : decode b_Q_blend 29 = .ok (.lstore 11, 2) := by decide +kernel
theorem d_Q_blend_31 : decode b_Q_blend 31 = .ok (.aload_n 0, 1) := by decide +kernel
theorem d_Q_blend_32 : decode b_Q_blend 32 = .ok (.invokevirtual 37, 3) := by decide +kernel
theorem d_Q_blend_35 : decode b_Q_blend 35 = .ok (.aload_n 0, 1) := by decide +kernel
theorem d_Q_blend_36 : decode b_Q_blend 36 = .ok (.new 57, 3) := by decide +kernel
theorem d_Q_blend_39 : decode b_Q_blend 39 = .ok (.dup, 1) := by decide +kernel
theorem d_Q_blend_40 : decode b_Q_blend 40 = .ok (.aload_n 0, 1) := by decide +kernel
theorem d_Q_blend_41 : decode b_Q_blend 41 = .ok (.getfield 42, 3) := by decide +kernel
theorem d_Q_blend_44 : decode b_Q_blend 44 = .ok (.aload 7, 2) := by decide +kernel
theorem d_Q_blend_46 : decode b_Q_blend 46 = .ok (.aload 8, 2) := by decide +kernel
theorem d_Q_blend_48 : decode b_Q_blend 48 = .ok (.lload 9, 2) := by decide +kernel
theorem d_Q_blend_50 : decode b_Q_blend 50 = .ok (.lload 11, 2) := by decide +kernel
theorem d_Q_blend_52 : decode b_Q_blend 52 = .ok (.invokespecial 59, 3) := by decide +kernel
theorem d_Q_blend_55 : decode b_Q_blend 55 = .ok (.invokevirtual 49, 3) := by decide +kernel
theorem d_Q_blend_58 : decode b_Q_blend 58 = .ok (.ireturn, 1) := by decide +kernel
theorem d_Q_bump_0 : decode b_Q_bump 0 = .ok (.aload_n 0, 1) := by decide +kernel
theorem d_Q_bump_1 : decode b_Q_bump 1 = .ok (.iload_n 1, 1) := by decide +kernel
theorem d_Q_bump_2 : decode b_Q_bump 2 = .ok (.invokevirtual 53, 3) := by decide +kernel
theorem d_Q_bump_5 : decode b_Q_bump 5 = .ok (.astore 5, 2) := by decide +kernel
theorem d_Q_bump_7 : decode b_Q_bump 7 = .ok (.aload_n 0, 1) := by decide +kernel
theorem d_Q_bump_8 : decode b_Q_bump 8 = .ok (.iload_n 2, 1) := by decide +kernel
theorem d_Q_bump_9 : decode b_Q_bump 9 = .ok (.invokevirtual 116, 3) := by decide +kernel
theorem d_Q_bump_12 : decode b_Q_bump 12 = .ok (.astore 6, 2) := by decide +kernel
theorem d_Q_bump_14 : decode b_Q_bump 14 = .ok (.ldc2_w 30, 3) := by decide +kernel
theorem d_Q_bump_17 : decode b_Q_bump 17 = .ok (.dload_n 3, 1) := by decide +kernel
theorem d_Q_bump_18 : decode b_Q_bump 18 = .ok (.sipush 1000, 3) := by decide +kernel
theorem d_Q_bump_21 : decode b_Q_bump 21 = .ok (.invokestatic 33, 3) := by decide +kernel
theorem d_Q_bump_24 : decode b_Q_bump 24 = .ok (.lmul, 1) := by decide +kernel
theorem d_Q_bump_25 : decode b_Q_bump 25 = .ok (.lstore 7, 2) := by decide +kernel
theorem d_Q_bump_27 : decode b_Q_bump 27 = .ok (.aload_n 0, 1) := by decide +kernel
theorem d_Q_bump_28 : decode b_Q_bump 28 = .ok (.aload_n 0, 1) := by decide +kernel
theorem d_Q_bump_29 : decode b_Q_bump 29 = .ok (.aload 5, 2) := by decide +kernel
theorem d_Q_bump_31 : decode b_Q_bump 31 = .ok (.invokevirtual 130, 3) := by decide +kernel
theorem d_Q_bump_34 : decode b_Q_bump 34 = .ok (.invokevirtual 134, 3) := by decide +kernel
theorem d_Q_bump_37 : decode b_Q_bump 37 = .ok (.aload 5, 2) := by decide +kernel
theorem d_Q_bump_39 : decode b_Q_bump 39 = .ok (.getfield 138, 3) := by decide +kernel
theorem d_Q_bump_42 : decode b_Q_bump 42 = .ok (.lstore 9, 2) := by decide +kernel
theorem d_Q_bump_44 : decode b_Q_bump 44 = .ok (.aload_n 0, 1) := by decide +kernel
theorem d_Q_bump_45 : decode b_Q_bump 45 = .ok (.invokevirtual 164, 3) := by decide +kernel
theorem d_Q_bump_48 : decode b_Q_bump 48 = .ok (.aload 6, 2) := by decide +kernel
theorem d_Q_bump_50 : decode b_Q_bump 50 = .ok (.dup, 1) := by decide +kernel
theorem d_Q_bump_51 : decode b_Q_bump 51 = .ok (.getfield 123, 3) := by decide +kernel
theorem d_Q_bump_54 : decode b_Q_bump 54 = .ok (.lload 7, 2) := by decide +kernel
theorem d_Q_bump_56 : decode b_Q_bump 56 = .ok (.ladd, 1) := by decide +kernel
theorem d_Q_bump_57 : decode b_Q_bump 57 = .ok (.putfield 123, 3) := by decide +kernel
theorem d_Q_bump_60 : decode b_Q_bump 60 = .ok (.aload_n 0, 1) := by decide +kernel
theorem d_Q_bump_61 : decode b_Q_bump 61 = .ok (.aload 6, 2) := by decide +kernel
theorem d_Q_bump_63 : decode b_Q_bump 63 = .ok (.invokevirtual 167, 3) := by decide +kernel
theorem d_Q_bump_66 : decode b_Q_bump 66 = .ok (.aload_n 0, 1) := by decide +kernel
theorem d_Q_bump_67 : decode b_Q_bump 67 = .ok (.aload 5, 2) := by decide +kernel
theorem d_Q_bump_69 : decode b_Q_bump 69 = .ok (.invokevirtual 130, 3) := by decide +kernel
theorem d_Q_bump_72 : decode b_Q_bump 72 = .ok (.astore 11, 2) := by decide +kernel
theorem d_Q_bump_74 : decode b_Q_bump 74 = .ok (.aload 5, 2) := by decide +kernel
theorem d_Q_bump_76 : decode b_Q_bump 76 = .ok (.getfield 138, 3) := by decide +kernel
theorem d_Q_bump_79 : decode b_Q_bump 79 = .ok (.lstore 12, 2) := by decide +kernel
theorem d_Q_bump_81 : decode b_Q_bump 81 = .ok (.aload_n 0, 1) := by decide +kernel
theorem d_Q_bump_82 : decode b_Q_bump 82 = .ok (.invokevirtual 170, 3) := by decide +kernel
theorem d_Q_bump_85 : decode b_Q_bump 85 = .ok (.aload_n 0, 1) := by decide +kernel
theorem d_Q_bump_86 : decode b_Q_bump 86 = .ok (.aload 11, 2) := by decide +kernel
theorem d_Q_bump_88 : decode b_Q_bump 88 = .ok (.invokevirtual 134, 3) := by decide +kernel
theorem d_Q_bump_91 : decode b_Q_bump 91 = .ok (.lload 12, 2) := by decide +kernel
theorem d_Q_bump_93 : decode b_Q_bump 93 = .ok (.lload 9, 2) := by decide +kernel
theorem d_Q_bump_95 : decode b_Q_bump 95 = .ok (.lsub, 1) := by decide +kernel
theorem d_Q_bump_96 : decode b_Q_bump 96 = .ok (.invokestatic 139, 3) := by decide +kernel
theorem d_Q_bump_99 : decode b_Q_bump 99 = .ok (.dreturn, 1) := by decide +kernel
theorem d_Q_checkNotFrozen_0 : decode b_Q_checkNotFrozen 0 = .ok (.aload_n 0, 1) := by decide +kernel
theorem d_Q_checkNotFrozen_1 : decode b_Q_checkNotFrozen 1 = .ok (.getfield 200, 3) := by decide +kernel
theorem d_Q_checkNotFrozen_4 : decode b_Q_checkNotFrozen 4 = .ok (.ifCond .eq 13, 3) := by decide +kernel
theorem d_Q_checkNotFrozen_7 : decode b_Q_checkNotFrozen 7 = .ok (.new 153, 3) := by decide +kernel
theorem d_Q_checkNotFrozen_10 : decode b_Q_checkNotFrozen 10 = .ok (.dup, 1) := by decide +kernel
theorem d_Q_checkNotFrozen_11 : decode b_Q_checkNotFrozen 11 = .ok (.ldc 201, 2) := by decide +kernel
theorem d_Q_checkNotFrozen_13 : decode b_Q_checkNotFrozen 13 = .ok (.invokespecial 157, 3) := by decide +kernel
theorem d_Q_checkNotFrozen_16 : decode b_Q_checkNotFrozen 16 = .ok (.athrow, 1) := by decide +kernel
theorem d_Q_checkNotFrozen_17 : decode b_Q_checkNotFrozen 17 = .ok (.return_, 1) := by decide +kernel
theorem d_Q_checkRange_0 : decode b_Q_checkRange 0 = .ok (.iload_n 0, 1) := by decide +kernel
theorem d_Q_checkRange_1 : decode b_Q_checkRange 1 = .ok (.iload_n 1, 1) := by decide +kernel
theorem d_Q_checkRange_2 : decode b_Q_checkRange 2 = .ok (.if_icmp .lt 8, 3) := by decide +kernel
theorem d_Q_checkRange_5 : decode b_Q_checkRange 5 = .ok (.iload_n 0, 1) := by decide +kernel
theorem d_Q_checkRange_6 : decode b_Q_checkRange 6 = .ok (.iload_n 2, 1) := by decide +kernel
theorem d_Q_checkRange_7 : decode b_Q_checkRange 7 = .ok (.if_icmp .le 13, 3) := by decide +kernel
theorem d_Q_checkRange_10 : decode b_Q_checkRange 10 = .ok (.new 143, 3) := by decide +kernel
theorem d_Q_checkRange_13 : decode b_Q_checkRange 13 = .ok (.dup, 1) := by decide +kernel
theorem d_Q_checkRange_14 : decode b_Q_checkRange 14 = .ok (.ldc 203, 2) := by decide +kernel
theorem d_Q_checkRange_16 : decode b_Q_checkRange 16 = .ok (.invokespecial 147, 3) := by decide +kernel
theorem d_Q_checkRange_19 : decode b_Q_checkRange 19 = .ok (.athrow, 1) := by decide +kernel
theorem d_Q_checkRange_20 : decode b_Q_checkRange 20 = .ok (.return_, 1) := by decide +kernel
theorem d_Q_checkRoom_0 : decode b_Q_checkRoom 0 = .ok (.aload_n 0, 1) := by decide +kernel
theorem d_Q_checkRoom_1 : decode b_Q_checkRoom 1 = .ok (.getfield 42, 3) := by decide +kernel
theorem d_Q_checkRoom_4 : decode b_Q_checkRoom 4 = .ok (.bipush 16, 2) := by decide +kernel
theorem d_Q_checkRoom_6 : decode b_Q_checkRoom 6 = .ok (.if_icmp .lt 13, 3) := by decide +kernel
theorem d_Q_checkRoom_9 : decode b_Q_checkRoom 9 = .ok (.new 153, 3) := by decide +kernel
theorem d_Q_checkRoom_12 : decode b_Q_checkRoom 12 = .ok (.dup, 1) := by decide +kernel
theorem d_Q_checkRoom_13 : decode b_Q_checkRoom 13 = .ok (.ldc 198, 2) := by decide +kernel
theorem d_Q_checkRoom_15 : decode b_Q_checkRoom 15 = .ok (.invokespecial 157, 3) := by decide +kernel
theorem d_Q_checkRoom_18 : decode b_Q_checkRoom 18 = .ok (.athrow, 1) := by decide +kernel
theorem d_Q_checkRoom_19 : decode b_Q_checkRoom 19 = .ok (.return_, 1) := by decide +kernel
theorem d_Q_count_0 : decode b_Q_count 0 = .ok (.iload_n 1, 1) := by decide +kernel
theorem d_Q_count_1 : decode b_Q_count 1 = .ok (.tableswitch 51 0 3 #[31, 36, 41, 46], 31) := by decide +kernel
theorem d_Q_count_32 : decode b_Q_count 32 = .ok (.aload_n 0, 1) := by decide +kernel
theorem d_Q_count_33 : decode b_Q_count 33 = .ok (.getfield 42, 3) := by decide +kernel
theorem d_Q_count_36 : decode b_Q_count 36 = .ok (.ireturn, 1) := by decide +kernel
theorem d_Q_count_37 : decode b_Q_count 37 = .ok (.aload_n 0, 1) := by decide +kernel
theorem d_Q_count_38 : decode b_Q_count 38 = .ok (.getfield 120, 3) := by decide +kernel
theorem d_Q_count_41 : decode b_Q_count 41 = .ok (.ireturn, 1) := by decide +kernel
theorem d_Q_count_42 : decode b_Q_count 42 = .ok (.aload_n 0, 1) := by decide +kernel
theorem d_Q_count_43 : decode b_Q_count 43 = .ok (.getfield 189, 3) := by decide +kernel
theorem d_Q_count_46 : decode b_Q_count 46 = .ok (.ireturn, 1) := by decide +kernel
theorem d_Q_count_47 : decode b_Q_count 47 = .ok (.aload_n 0, 1) := by decide +kernel
theorem d_Q_count_48 : decode b_Q_count 48 = .ok (.getfield 192, 3) := by decide +kernel
theorem d_Q_count_51 : decode b_Q_count 51 = .ok (.ireturn, 1) := by decide +kernel
theorem d_Q_count_52 : decode b_Q_count 52 = .ok (.iconst (-1), 1) := by decide +kernel
theorem d_Q_count_53 : decode b_Q_count 53 = .ok (.ireturn, 1) := by decide +kernel
theorem d_Q_eighthsOf_0 : decode b_Q_eighthsOf 0 = .ok (.dload_n 0, 1) := by decide +kernel
theorem d_Q_eighthsOf_1 : decode b_Q_eighthsOf 1 = .ok (.iload_n 2, 1) := by decide +kernel
theorem d_Q_eighthsOf_2 : decode b_Q_eighthsOf 2 = .ok (.ineg, 1) := by decide +kernel
theorem d_Q_eighthsOf_3 : decode b_Q_eighthsOf 3 = .ok (.i2d, 1) := by decide +kernel
theorem d_Q_eighthsOf_4 : decode b_Q_eighthsOf 4 = .ok (.dcmp .l, 1) := by decide +kernel
theorem d_Q_eighthsOf_5 : decode b_Q_eighthsOf 5 = .ok (.ifCond .lt 30, 3) := by decide +kernel
theorem d_Q_eighthsOf_8 : decode b_Q_eighthsOf 8 = .ok (.dload_n 0, 1) := by decide +kernel
theorem d_Q_eighthsOf_9 : decode b_Q_eighthsOf 9 = .ok (.iload_n 2, 1) := by decide +kernel
theorem d_Q_eighthsOf_10 : decode b_Q_eighthsOf 10 = .ok (.i2d, 1) := by decide +kernel
theorem d_Q_eighthsOf_11 : decode b_Q_eighthsOf 11 = .ok (.dcmp .g, 1) := by decide +kernel
theorem d_Q_eighthsOf_12 : decode b_Q_eighthsOf 12 = .ok (.ifCond .gt 23, 3) := by decide +kernel
theorem d_Q_eighthsOf_15 : decode b_Q_eighthsOf 15 = .ok (.dload_n 0, 1) := by decide +kernel
theorem d_Q_eighthsOf_16 : decode b_Q_eighthsOf 16 = .ok (.ldc2_w 205, 3) := by decide +kernel
theorem d_Q_eighthsOf_19 : decode b_Q_eighthsOf 19 = .ok (.dmul, 1) := by decide +kernel
theorem d_Q_eighthsOf_20 : decode b_Q_eighthsOf 20 = .ok (.d2l, 1) := by decide +kernel
theorem d_Q_eighthsOf_21 : decode b_Q_eighthsOf 21 = .ok (.lstore_n 3, 1) := by decide +kernel
theorem d_Q_eighthsOf_22 : decode b_Q_eighthsOf 22 = .ok (.lload_n 3, 1) := by decide +kernel
theorem d_Q_eighthsOf_23 : decode b_Q_eighthsOf 23 = .ok (.l2d, 1) := by decide +kernel
theorem d_Q_eighthsOf_24 : decode b_Q_eighthsOf 24 = .ok (.dload_n 0, 1) := by decide +kernel
theorem d_Q_eighthsOf_25 : decode b_Q_eighthsOf 25 = .ok (.ldc2_w 205, 3) := by decide +kernel
theorem d_Q_eighthsOf_28 : decode b_Q_eighthsOf 28 = .ok (.dmul, 1) := by decide +kernel
theorem d_Q_eighthsOf_29 : decode b_Q_eighthsOf 29 = .ok (.dcmp .l, 1) := by decide +kernel
theorem d_Q_eighthsOf_30 : decode b_Q_eighthsOf 30 = .ok (.ifCond .ne 5, 3) := by decide +kernel
theorem d_Q_eighthsOf_33 : decode b_Q_eighthsOf 33 = .ok (.lload_n 3, 1) := by decide +kernel
theorem d_Q_eighthsOf_34 : decode b_Q_eighthsOf 34 = .ok (.lreturn, 1) := by decide +kernel
theorem d_Q_eighthsOf_35 : decode b_Q_eighthsOf 35 = .ok (.new 143, 3) := by decide +kernel
theorem d_Q_eighthsOf_38 : decode b_Q_eighthsOf 38 = .ok (.dup, 1) := by decide +kernel
theorem d_Q_eighthsOf_39 : decode b_Q_eighthsOf 39 = .ok (.ldc 207, 2) := by decide +kernel
theorem d_Q_eighthsOf_41 : decode b_Q_eighthsOf 41 = .ok (.invokespecial 147, 3) := by decide +kernel
theorem d_Q_eighthsOf_44 : decode b_Q_eighthsOf 44 = .ok (.athrow, 1) := by decide +kernel
theorem d_Q_engine_0 : decode b_Q_engine 0 = .ok (.aload_n 0, 1) := by decide +kernel
theorem d_Q_engine_1 : decode b_Q_engine 1 = .ok (.iload_n 1, 1) := by decide +kernel
theorem d_Q_engine_2 : decode b_Q_engine 2 = .ok (.invokevirtual 80, 3) := by decide +kernel
theorem d_Q_engine_5 : decode b_Q_engine 5 = .ok (.astore 4, 2) := by decide +kernel
theorem d_Q_engine_7 : decode b_Q_engine 7 = .ok (.iload_n 2, 1) := by decide +kernel
theorem d_Q_engine_8 : decode b_Q_engine 8 = .ok (.iconst 0, 1) := by decide +kernel
theorem d_Q_engine_9 : decode b_Q_engine 9 = .ok (.aload_n 0, 1) := by decide +kernel
theorem d_Q_engine_10 : decode b_Q_engine 10 = .ok (.getfield 26, 3) := by decide +kernel
theorem d_Q_engine_13 : decode b_Q_engine 13 = .ok (.arraylength, 1) := by decide +kernel
theorem d_Q_engine_14 : decode b_Q_engine 14 = .ok (.iconst 1, 1) := by decide +kernel
theorem d_Q_engine_15 : decode b_Q_engine 15 = .ok (.isub, 1) := by decide +kernel
theorem d_Q_engine_16 : decode b_Q_engine 16 = .ok (.invokestatic 67, 3) := by decide +kernel
theorem d_Q_engine_19 : decode b_Q_engine 19 = .ok (.aload_n 0, 1) := by decide +kernel
theorem d_Q_engine_20 : decode b_Q_engine 20 = .ok (.getfield 26, 3) := by decide +kernel
theorem d_Q_engine_23 : decode b_Q_engine 23 = .ok (.iload_n 2, 1) := by decide +kernel
theorem d_Q_engine_24 : decode b_Q_engine 24 = .ok (.aaload, 1) := by decide +kernel
theorem d_Q_engine_25 : decode b_Q_engine 25 = .ok (.astore 5, 2) := by decide +kernel
theorem d_Q_engine_27 : decode b_Q_engine 27 = .ok (.iload_n 3, 1) := by decide +kernel
theorem d_Q_engine_28 : decode b_Q_engine 28 = .ok (.aload 5, 2) := by decide +kernel
theorem d_Q_engine_30 : decode b_Q_engine 30 = .ok (.getfield 107, 3) := by decide +kernel
theorem d_Q_engine_33 : decode b_Q_engine 33 = .ok (.aload 5, 2) := by decide +kernel
theorem d_Q_engine_35 : decode b_Q_engine 35 = .ok (.getfield 110, 3) := by decide +kernel
theorem d_Q_engine_38 : decode b_Q_engine 38 = .ok (.invokestatic 67, 3) := by decide +kernel
theorem d_Q_engine_41 : decode b_Q_engine 41 = .ok (.aload 4, 2) := by decide +kernel
theorem d_Q_engine_43 : decode b_Q_engine 43 = .ok (.invokestatic 88, 3) := by decide +kernel
theorem d_Q_engine_46 : decode b_Q_engine 46 = .ok (.aload 4, 2) := by decide +kernel
theorem d_Q_engine_48 : decode b_Q_engine 48 = .ok (.aload 5, 2) := by decide +kernel
theorem d_Q_engine_50 : decode b_Q_engine 50 = .ok (.putfield 76, 3) := by decide +kernel
theorem d_Q_engine_53 : decode b_Q_engine 53 = .ok (.aload 4, 2) := by decide +kernel
theorem d_Q_engine_55 : decode b_Q_engine 55 = .ok (.iload_n 3, 1) := by decide +kernel
theorem d_Q_engine_56 : decode b_Q_engine 56 = .ok (.putfield 113, 3) := by decide +kernel
theorem d_Q_engine_59 : decode b_Q_engine 59 = .ok (.aload_n 0, 1) := by decide +kernel
theorem d_Q_engine_60 : decode b_Q_engine 60 = .ok (.aload 4, 2) := by decide +kernel
theorem d_Q_engine_62 : decode b_Q_engine 62 = .ok (.invokevirtual 103, 3) := by decide +kernel
theorem d_Q_engine_65 : decode b_Q_engine 65 = .ok (.return_, 1) := by decide +kernel
theorem d_Q_extraPartAt_0 : decode b_Q_extraPartAt 0 = .ok (.iload_n 1, 1) := by decide +kernel
theorem d_Q_extraPartAt_1 : decode b_Q_extraPartAt 1 = .ok (.iconst (-1), 1) := by decide +kernel
theorem d_Q_extraPartAt_2 : decode b_Q_extraPartAt 2 = .ok (.if_icmp .ne 5, 3) := by decide +kernel
theorem d_Q_extraPartAt_5 : decode b_Q_extraPartAt 5 = .ok (.aconst_null, 1) := by decide +kernel
theorem d_Q_extraPartAt_6 : decode b_Q_extraPartAt 6 = .ok (.areturn, 1) := by decide +kernel
theorem d_Q_extraPartAt_7 : decode b_Q_extraPartAt 7 = .ok (.aload_n 0, 1) := by decide +kernel
theorem d_Q_extraPartAt_8 : decode b_Q_extraPartAt 8 = .ok (.iload_n 1, 1) := by decide +kernel
theorem d_Q_extraPartAt_9 : decode b_Q_extraPartAt 9 = .ok (.invokevirtual 53, 3) := by decide +kernel
theorem d_Q_extraPartAt_12 : decode b_Q_extraPartAt 12 = .ok (.astore_n 3, 1) := by decide +kernel
theorem d_Q_extraPartAt_13 : decode b_Q_extraPartAt 13 = .ok (.aload_n 3, 1) := by decide +kernel
theorem d_Q_extraPartAt_14 : decode b_Q_extraPartAt 14 = .ok (.aload_n 2, 1) := by decide +kernel
theorem d_Q_extraPartAt_15 : decode b_Q_extraPartAt 15 = .ok (.if_acmp .eq 12, 3) := by decide +kernel
theorem d_Q_extraPartAt_18 : decode b_Q_extraPartAt 18 = .ok (.aload_n 0, 1) := by decide +kernel
theorem d_Q_extraPartAt_19 : decode b_Q_extraPartAt 19 = .ok (.aload_n 3, 1) := by decide +kernel
theorem d_Q_extraPartAt_20 : decode b_Q_extraPartAt 20 = .ok (.aload_n 2, 1) := by decide +kernel
theorem d_Q_extraPartAt_21 : decode b_Q_extraPartAt 21 = .ok (.invokevirtual 173, 3) := by decide +kernel
theorem d_Q_extraPartAt_24 : decode b_Q_extraPartAt 24 = .ok (.ifCond .eq 13, 3) := by decide +kernel
theorem d_Q_extraPartAt_27 : decode b_Q_extraPartAt 27 = .ok (.new 143, 3) := by decide +kernel
theorem d_Q_extraPartAt_30 : decode b_Q_extraPartAt 30 = .ok (.dup, 1) := by decide +kernel
theorem d_Q_extraPartAt_31 : decode b_Q_extraPartAt 31 = .ok (.ldc 221, 2) := by decide +kernel
theorem d_Q_extraPartAt_33 : decode b_Q_extraPartAt 33 = .ok (.invokespecial 147, 3) := by decide +kernel
theorem d_Q_extraPartAt_36 : decode b_Q_extraPartAt 36 = .ok (.athrow, 1) := by decide +kernel
theorem d_Q_extraPartAt_37 : decode b_Q_extraPartAt 37 = .ok (.aload_n 3, 1) := by decide +kernel
theorem d_Q_extraPartAt_38 : decode b_Q_extraPartAt 38 = .ok (.areturn, 1) := by decide +kernel
theorem d_Q_freeze_0 : decode b_Q_freeze 0 = .ok (.aload_n 0, 1) := by decide +kernel
theorem d_Q_freeze_1 : decode b_Q_freeze 1 = .ok (.iload_n 1, 1) := by decide +kernel
theorem d_Q_freeze_2 : decode b_Q_freeze 2 = .ok (.invokevirtual 53, 3) := by decide +kernel
theorem d_Q_freeze_5 : decode b_Q_freeze 5 = .ok (.astore_n 3, 1) := by decide +kernel
theorem d_Q_freeze_6 : decode b_Q_freeze 6 = .ok (.aload_n 3, 1) := by decide +kernel
theorem d_Q_freeze_7 : decode b_Q_freeze 7 = .ok (.instanceof 40, 3) := by decide +kernel
theorem d_Q_freeze_10 : decode b_Q_freeze 10 = .ok (.ifCond .eq 13, 3) := by decide +kernel
theorem d_Q_freeze_13 : decode b_Q_freeze 13 = .ok (.new 143, 3) := by decide +kernel
theorem d_Q_freeze_16 : decode b_Q_freeze 16 = .ok (.dup, 1) := by decide +kernel
theorem d_Q_freeze_17 : decode b_Q_freeze 17 = .ok (.ldc 145, 2) := by decide +kernel
theorem d_Q_freeze_19 : decode b_Q_freeze 19 = .ok (.invokespecial 147, 3) := by decide +kernel
theorem d_Q_freeze_22 : decode b_Q_freeze 22 = .ok (.athrow, 1) := by decide +kernel
theorem d_Q_freeze_23 : decode b_Q_freeze 23 = .ok (.iload_n 2, 1) := by decide +kernel
theorem d_Q_freeze_24 : decode b_Q_freeze 24 = .ok (.ifCond .eq 20, 3) := by decide +kernel
theorem d_Q_freeze_27 : decode b_Q_freeze 27 = .ok (.aload_n 3, 1) := by decide +kernel
theorem d_Q_freeze_28 : decode b_Q_freeze 28 = .ok (.getfield 150, 3) := by decide +kernel
theorem d_Q_freeze_31 : decode b_Q_freeze 31 = .ok (.ifCond .ne 13, 3) := by decide +kernel
theorem d_Q_freeze_34 : decode b_Q_freeze 34 = .ok (.new 153, 3) := by decide +kernel
theorem d_Q_freeze_37 : decode b_Q_freeze 37 = .ok (.dup, 1) := by decide +kernel
theorem d_Q_freeze_38 : decode b_Q_freeze 38 = .ok (.ldc 155, 2) := by decide +kernel
theorem d_Q_freeze_40 : decode b_Q_freeze 40 = .ok (.invokespecial 157, 3) := by decide +kernel
theorem d_Q_freeze_43 : decode b_Q_freeze 43 = .ok (.athrow, 1) := by decide +kernel
theorem d_Q_freeze_44 : decode b_Q_freeze 44 = .ok (.aload_n 3, 1) := by decide +kernel
theorem d_Q_freeze_45 : decode b_Q_freeze 45 = .ok (.iload_n 2, 1) := by decide +kernel
theorem d_Q_freeze_46 : decode b_Q_freeze 46 = .ok (.putfield 158, 3) := by decide +kernel
theorem d_Q_freeze_49 : decode b_Q_freeze 49 = .ok (.iload_n 2, 1) := by decide +kernel
theorem d_Q_freeze_50 : decode b_Q_freeze 50 = .ok (.ifCond .ne 20, 3) := by decide +kernel
theorem d_Q_freeze_53 : decode b_Q_freeze 53 = .ok (.aload_n 3, 1) := by decide +kernel
theorem d_Q_freeze_54 : decode b_Q_freeze 54 = .ok (.getfield 161, 3) := by decide +kernel
theorem d_Q_freeze_57 : decode b_Q_freeze 57 = .ok (.ifCond .eq 13, 3) := by decide +kernel
theorem d_Q_freeze_60 : decode b_Q_freeze 60 = .ok (.aload_n 3, 1) := by decide +kernel
theorem d_Q_freeze_61 : decode b_Q_freeze 61 = .ok (.iconst 0, 1) := by decide +kernel
theorem d_Q_freeze_62 : decode b_Q_freeze 62 = .ok (.putfield 161, 3) := by decide +kernel
theorem d_Q_freeze_65 : decode b_Q_freeze 65 = .ok (.aload_n 0, 1) := by decide +kernel
theorem d_Q_freeze_66 : decode b_Q_freeze 66 = .ok (.aload_n 3, 1) := by decide +kernel
theorem d_Q_freeze_67 : decode b_Q_freeze 67 = .ok (.invokevirtual 103, 3) := by decide +kernel
theorem d_Q_freeze_70 : decode b_Q_freeze 70 = .ok (.return_, 1) := by decide +kernel
theorem d_Q_greater_0 : decode b_Q_greater 0 = .ok (.aload_n 0, 1) := by decide +kernel
theorem d_Q_greater_1 : decode b_Q_greater 1 = .ok (.iload_n 1, 1) := by decide +kernel
theorem d_Q_greater_2 : decode b_Q_greater 2 = .ok (.invokevirtual 53, 3) := by decide +kernel
theorem d_Q_greater_5 : decode b_Q_greater 5 = .ok (.astore_n 3, 1) := by decide +kernel
theorem d_Q_greater_6 : decode b_Q_greater 6 = .ok (.aload_n 0, 1) := by decide +kernel
theorem d_Q_greater_7 : decode b_Q_greater 7 = .ok (.iload_n 2, 1) := by decide +kernel
theorem d_Q_greater_8 : decode b_Q_greater 8 = .ok (.invokevirtual 53, 3) := by decide +kernel
theorem d_Q_greater_11 : decode b_Q_greater 11 = .ok (.astore 4, 2) := by decide +kernel
theorem d_Q_greater_13 : decode b_Q_greater 13 = .ok (.aload_n 0, 1) := by decide +kernel
theorem d_Q_greater_14 : decode b_Q_greater 14 = .ok (.invokevirtual 37, 3) := by decide +kernel
theorem d_Q_greater_17 : decode b_Q_greater 17 = .ok (.aload_n 0, 1) := by decide +kernel
theorem d_Q_greater_18 : decode b_Q_greater 18 = .ok (.new 62, 3) := by decide +kernel
theorem d_Q_greater_21 : decode b_Q_greater 21 = .ok (.dup, 1) := by decide +kernel
theorem d_Q_greater_22 : decode b_Q_greater 22 = .ok (.aload_n 0, 1) := by decide +kernel
theorem d_Q_greater_23 : decode b_Q_greater 23 = .ok (.getfield 42, 3) := by decide +kernel
theorem d_Q_greater_26 : decode b_Q_greater 26 = .ok (.aload_n 3, 1) := by decide +kernel
theorem d_Q_greater_27 : decode b_Q_greater 27 = .ok (.aload 4, 2) := by decide +kernel
theorem d_Q_greater_29 : decode b_Q_greater 29 = .ok (.invokespecial 64, 3) := by decide +kernel
theorem d_Q_greater_32 : decode b_Q_greater 32 = .ok (.invokevirtual 49, 3) := by decide +kernel
theorem d_Q_greater_35 : decode b_Q_greater 35 = .ok (.ireturn, 1) := by decide +kernel
theorem d_Q_hangsOn_0 : decode b_Q_hangsOn 0 = .ok (.aload_n 0, 1) := by decide +kernel
theorem d_Q_hangsOn_1 : decode b_Q_hangsOn 1 = .ok (.aload_n 1, 1) := by decide +kernel
theorem d_Q_hangsOn_2 : decode b_Q_hangsOn 2 = .ok (.invokevirtual 223, 3) := by decide +kernel
theorem d_Q_hangsOn_5 : decode b_Q_hangsOn 5 = .ok (.aload_n 2, 1) := by decide +kernel
theorem d_Q_hangsOn_6 : decode b_Q_hangsOn 6 = .ok (.invokevirtual 226, 3) := by decide +kernel
theorem d_Q_hangsOn_9 : decode b_Q_hangsOn 9 = .ok (.iand, 1) := by decide +kernel
theorem d_Q_hangsOn_10 : decode b_Q_hangsOn 10 = .ok (.ifCond .eq 7, 3) := by decide +kernel
theorem d_Q_hangsOn_13 : decode b_Q_hangsOn 13 = .ok (.iconst 1, 1) := by decide +kernel
theorem d_Q_hangsOn_14 : decode b_Q_hangsOn 14 = .ok (.goto 4, 3) := by decide +kernel
theorem d_Q_hangsOn_17 : decode b_Q_hangsOn 17 = .ok (.iconst 0, 1) := by decide +kernel
theorem d_Q_hangsOn_18 : decode b_Q_hangsOn 18 = .ok (.ireturn, 1) := by decide +kernel
theorem d_Q_init_0 : decode b_Q_init 0 = .ok (.aload_n 0, 1) := by decide +kernel
theorem d_Q_init_1 : decode b_Q_init 1 = .ok (.invokespecial 3, 3) := by decide +kernel
theorem d_Q_init_4 : decode b_Q_init 4 = .ok (.aload_n 0, 1) := by decide +kernel
theorem d_Q_init_5 : decode b_Q_init 5 = .ok (.bipush 16, 2) := by decide +kernel
theorem d_Q_init_7 : decode b_Q_init 7 = .ok (.anewarray 9, 3) := by decide +kernel
theorem d_Q_init_10 : decode b_Q_init 10 = .ok (.putfield 11, 3) := by decide +kernel
theorem d_Q_init_13 : decode b_Q_init 13 = .ok (.aload_n 0, 1) := by decide +kernel
theorem d_Q_init_14 : decode b_Q_init 14 = .ok (.iconst 3, 1) := by decide +kernel
theorem d_Q_init_15 : decode b_Q_init 15 = .ok (.anewarray 15, 3) := by decide +kernel
theorem d_Q_init_18 : decode b_Q_init 18 = .ok (.dup, 1) := by decide +kernel
theorem d_Q_init_19 : decode b_Q_init 19 = .ok (.iconst 0, 1) := by decide +kernel
theorem d_Q_init_20 : decode b_Q_init 20 = .ok (.new 17, 3) := by decide +kernel
theorem d_Q_init_23 : decode b_Q_init 23 = .ok (.dup, 1) := by decide +kernel
theorem d_Q_init_24 : decode b_Q_init 24 = .ok (.invokespecial 19, 3) := by decide +kernel
theorem d_Q_init_27 : decode b_Q_init 27 = .ok (.aastore, 1) := by decide +kernel
theorem d_Q_init_28 : decode b_Q_init 28 = .ok (.dup, 1) := by decide +kernel
theorem d_Q_init_29 : decode b_Q_init 29 = .ok (.iconst 1, 1) := by decide +kernel
theorem d_Q_init_30 : decode b_Q_init 30 = .ok (.new 20, 3) := by decide +kernel
theorem d_Q_init_33 : decode b_Q_init 33 = .ok (.dup, 1) := by decide +kernel
theorem d_Q_init_34 : decode b_Q_init 34 = .ok (.invokespecial 22, 3) := by decide +kernel
theorem d_Q_init_37 : decode b_Q_init 37 = .ok (.aastore, 1) := by decide +kernel
theorem d_Q_init_38 : decode b_Q_init 38 = .ok (.dup, 1) := by decide +kernel
theorem d_Q_init_39 : decode b_Q_init 39 = .ok (.iconst 2, 1) := by decide +kernel
theorem d_Q_init_40 : decode b_Q_init 40 = .ok (.new 23, 3) := by decide +kernel
theorem d_Q_init_43 : decode b_Q_init 43 = .ok (.dup, 1) := by decide +kernel
theorem d_Q_init_44 : decode b_Q_init 44 = .ok (.invokespecial 25, 3) := by decide +kernel
theorem d_Q_init_47 : decode b_Q_init 47 = .ok (.aastore, 1) := by decide +kernel
theorem d_Q_init_48 : decode b_Q_init 48 = .ok (.putfield 26, 3) := by decide +kernel
theorem d_Q_init_51 : decode b_Q_init 51 = .ok (.return_, 1) := by decide +kernel
theorem d_Q_isThere_0 : decode b_Q_isThere 0 = .ok (.iload_n 1, 1) := by decide +kernel
theorem d_Q_isThere_1 : decode b_Q_isThere 1 = .ok (.ifCond .lt 15, 3) := by decide +kernel
theorem d_Q_isThere_4 : decode b_Q_isThere 4 = .ok (.iload_n 1, 1) := by decide +kernel
theorem d_Q_isThere_5 : decode b_Q_isThere 5 = .ok (.aload_n 0, 1) := by decide +kernel
theorem d_Q_isThere_6 : decode b_Q_isThere 6 = .ok (.getfield 42, 3) := by decide +kernel
theorem d_Q_isThere_9 : decode b_Q_isThere 9 = .ok (.if_icmp .ge 7, 3) := by decide +kernel
theorem d_Q_isThere_12 : decode b_Q_isThere 12 = .ok (.iconst 1, 1) := by decide +kernel
theorem d_Q_isThere_13 : decode b_Q_isThere 13 = .ok (.goto 4, 3) := by decide +kernel
theorem d_Q_isThere_16 : decode b_Q_isThere 16 = .ok (.iconst 0, 1) := by decide +kernel
theorem d_Q_isThere_17 : decode b_Q_isThere 17 = .ok (.ireturn, 1) := by decide +kernel
theorem d_Q_makeUsersStale_0 : decode b_Q_makeUsersStale 0 = .ok (.iconst 0, 1) := by decide +kernel
theorem d_Q_makeUsersStale_1 : decode b_Q_makeUsersStale 1 = .ok (.istore_n 2, 1) := by decide +kernel
theorem d_Q_makeUsersStale_2 : decode b_Q_makeUsersStale 2 = .ok (.iload_n 2, 1) := by decide +kernel
theorem d_Q_makeUsersStale_3 : decode b_Q_makeUsersStale 3 = .ok (.aload_n 0, 1) := by decide +kernel
theorem d_Q_makeUsersStale_4 : decode b_Q_makeUsersStale 4 = .ok (.getfield 42, 3) := by decide +kernel
theorem d_Q_makeUsersStale_7 : decode b_Q_makeUsersStale 7 = .ok (.if_icmp .ge 45, 3) := by decide +kernel
theorem d_Q_makeUsersStale_10 : decode b_Q_makeUsersStale 10 = .ok (.aload_n 0, 1) := by decide +kernel
theorem d_Q_makeUsersStale_11 : decode b_Q_makeUsersStale 11 = .ok (.getfield 11, 3) := by decide +kernel
theorem d_Q_makeUsersStale_14 : decode b_Q_makeUsersStale 14 = .ok (.iload_n 2, 1) := by decide +kernel
theorem d_Q_makeUsersStale_15 : decode b_Q_makeUsersStale 15 = .ok (.aaload, 1) := by decide +kernel
theorem d_Q_makeUsersStale_16 : decode b_Q_makeUsersStale 16 = .ok (.getfield 158, 3) := by decide +kernel
theorem d_Q_makeUsersStale_19 : decode b_Q_makeUsersStale 19 = .ok (.ifCond .ne 27, 3) := by decide +kernel
theorem d_Q_makeUsersStale_22 : decode b_Q_makeUsersStale 22 = .ok (.aload_n 0, 1) := by decide +kernel
theorem d_Q_makeUsersStale_23 : decode b_Q_makeUsersStale 23 = .ok (.aload_n 0, 1) := by decide +kernel
theorem d_Q_makeUsersStale_24 : decode b_Q_makeUsersStale 24 = .ok (.getfield 11, 3) := by decide +kernel
theorem d_Q_makeUsersStale_27 : decode b_Q_makeUsersStale 27 = .ok (.iload_n 2, 1) := by decide +kernel
theorem d_Q_makeUsersStale_28 : decode b_Q_makeUsersStale 28 = .ok (.aaload, 1) := by decide +kernel
theorem d_Q_makeUsersStale_29 : decode b_Q_makeUsersStale 29 = .ok (.aload_n 1, 1) := by decide +kernel
theorem d_Q_makeUsersStale_30 : decode b_Q_makeUsersStale 30 = .ok (.invokevirtual 173, 3) := by decide +kernel
theorem d_Q_makeUsersStale_33 : decode b_Q_makeUsersStale 33 = .ok (.ifCond .eq 13, 3) := by decide +kernel
theorem d_Q_makeUsersStale_36 : decode b_Q_makeUsersStale 36 = .ok (.aload_n 0, 1) := by decide +kernel
theorem d_Q_makeUsersStale_37 : decode b_Q_makeUsersStale 37 = .ok (.getfield 11, 3) := by decide +kernel
theorem d_Q_makeUsersStale_40 : decode b_Q_makeUsersStale 40 = .ok (.iload_n 2, 1) := by decide +kernel
theorem d_Q_makeUsersStale_41 : decode b_Q_makeUsersStale 41 = .ok (.aaload, 1) := by decide +kernel
theorem d_Q_makeUsersStale_42 : decode b_Q_makeUsersStale 42 = .ok (.iconst 0, 1) := by decide +kernel
theorem d_Q_makeUsersStale_43 : decode b_Q_makeUsersStale 43 = .ok (.putfield 150, 3) := by decide +kernel
theorem d_Q_makeUsersStale_46 : decode b_Q_makeUsersStale 46 = .ok (.iinc 2 1, 3) := by decide +kernel
theorem d_Q_makeUsersStale_49 : decode b_Q_makeUsersStale 49 = .ok (.goto (-47), 3) := by decide +kernel
theorem d_Q_makeUsersStale_52 : decode b_Q_makeUsersStale 52 = .ok (.return_, 1) := by decide +kernel
theorem d_Q_node_0 : decode b_Q_node 0 = .ok (.aload_n 0, 1) := by decide +kernel
theorem d_Q_node_1 : decode b_Q_node 1 = .ok (.iload_n 1, 1) := by decide +kernel
theorem d_Q_node_2 : decode b_Q_node 2 = .ok (.invokevirtual 53, 3) := by decide +kernel
theorem d_Q_node_5 : decode b_Q_node 5 = .ok (.astore_n 3, 1) := by decide +kernel
theorem d_Q_node_6 : decode b_Q_node 6 = .ok (.iload_n 2, 1) := by decide +kernel
theorem d_Q_node_7 : decode b_Q_node 7 = .ok (.tableswitch 91 0 5 #[37, 42, 55, 68, 81, 86], 37) := by decide +kernel
theorem d_Q_node_44 : decode b_Q_node 44 = .ok (.aload_n 3, 1) := by decide +kernel
theorem d_Q_node_45 : decode b_Q_node 45 = .ok (.invokevirtual 177, 3) := by decide +kernel
theorem d_Q_node_48 : decode b_Q_node 48 = .ok (.ireturn, 1) := by decide +kernel
theorem d_Q_node_49 : decode b_Q_node 49 = .ok (.aload_n 3, 1) := by decide +kernel
theorem d_Q_node_50 : decode b_Q_node 50 = .ok (.getfield 150, 3) := by decide +kernel
theorem d_Q_node_53 : decode b_Q_node 53 = .ok (.ifCond .eq 7, 3) := by decide +kernel
theorem d_Q_node_56 : decode b_Q_node 56 = .ok (.iconst 1, 1) := by decide +kernel
theorem d_Q_node_57 : decode b_Q_node 57 = .ok (.goto 4, 3) := by decide +kernel
theorem d_Q_node_60 : decode b_Q_node 60 = .ok (.iconst 0, 1) := by decide +kernel
theorem d_Q_node_61 : decode b_Q_node 61 = .ok (.ireturn, 1) := by decide +kernel
theorem d_Q_node_62 : decode b_Q_node 62 = .ok (.aload_n 3, 1) := by decide +kernel
theorem d_Q_node_63 : decode b_Q_node 63 = .ok (.getfield 158, 3) := by decide +kernel
theorem d_Q_node_66 : decode b_Q_node 66 = .ok (.ifCond .eq 7, 3) := by decide +kernel
theorem d_Q_node_69 : decode b_Q_node 69 = .ok (.iconst 1, 1) := by decide +kernel
theorem d_Q_node_70 : decode b_Q_node 70 = .ok (.goto 4, 3) := by decide +kernel
theorem d_Q_node_73 : decode b_Q_node 73 = .ok (.iconst 0, 1) := by decide +kernel
theorem d_Q_node_74 : decode b_Q_node 74 = .ok (.ireturn, 1) := by decide +kernel
theorem d_Q_node_75 : decode b_Q_node 75 = .ok (.aload_n 3, 1) := by decide +kernel
theorem d_Q_node_76 : decode b_Q_node 76 = .ok (.getfield 161, 3) := by decide +kernel
theorem d_Q_node_79 : decode b_Q_node 79 = .ok (.ifCond .eq 7, 3) := by decide +kernel
theorem d_Q_node_82 : decode b_Q_node 82 = .ok (.iconst 1, 1) := by decide +kernel
theorem d_Q_node_83 : decode b_Q_node 83 = .ok (.goto 4, 3) := by decide +kernel
theorem d_Q_node_86 : decode b_Q_node 86 = .ok (.iconst 0, 1) := by decide +kernel
theorem d_Q_node_87 : decode b_Q_node 87 = .ok (.ireturn, 1) := by decide +kernel
theorem d_Q_node_88 : decode b_Q_node 88 = .ok (.aload_n 3, 1) := by decide +kernel
theorem d_Q_node_89 : decode b_Q_node 89 = .ok (.getfield 181, 3) := by decide +kernel
theorem d_Q_node_92 : decode b_Q_node 92 = .ok (.ireturn, 1) := by decide +kernel
theorem d_Q_node_93 : decode b_Q_node 93 = .ok (.aload_n 3, 1) := by decide +kernel
theorem d_Q_node_94 : decode b_Q_node 94 = .ok (.getfield 184, 3) := by decide +kernel
theorem d_Q_node_97 : decode b_Q_node 97 = .ok (.ireturn, 1) := by decide +kernel
theorem d_Q_node_98 : decode b_Q_node 98 = .ok (.new 143, 3) := by decide +kernel
theorem d_Q_node_101 : decode b_Q_node 101 = .ok (.dup, 1) := by decide +kernel
theorem d_Q_node_102 : decode b_Q_node 102 = .ok (.ldc 187, 2) := by decide +kernel
theorem d_Q_node_104 : decode b_Q_node 104 = .ok (.invokespecial 147, 3) := by decide +kernel
theorem d_Q_node_107 : decode b_Q_node 107 = .ok (.athrow, 1) := by decide +kernel
theorem d_Q_nodeAt_0 : decode b_Q_nodeAt 0 = .ok (.aload_n 0, 1) := by decide +kernel
theorem d_Q_nodeAt_1 : decode b_Q_nodeAt 1 = .ok (.iload_n 1, 1) := by decide +kernel
theorem d_Q_nodeAt_2 : decode b_Q_nodeAt 2 = .ok (.invokevirtual 211, 3) := by decide +kernel
theorem d_Q_nodeAt_5 : decode b_Q_nodeAt 5 = .ok (.ifCond .eq 10, 3) := by decide +kernel
theorem d_Q_nodeAt_8 : decode b_Q_nodeAt 8 = .ok (.aload_n 0, 1) := by decide +kernel
theorem d_Q_nodeAt_9 : decode b_Q_nodeAt 9 = .ok (.getfield 11, 3) := by decide +kernel
theorem d_Q_nodeAt_12 : decode b_Q_nodeAt 12 = .ok (.iload_n 1, 1) := by decide +kernel
theorem d_Q_nodeAt_13 : decode b_Q_nodeAt 13 = .ok (.aaload, 1) := by decide +kernel
theorem d_Q_nodeAt_14 : decode b_Q_nodeAt 14 = .ok (.areturn, 1) := by decide +kernel
theorem d_Q_nodeAt_15 : decode b_Q_nodeAt 15 = .ok (.new 143, 3) := by decide +kernel
theorem d_Q_nodeAt_18 : decode b_Q_nodeAt 18 = .ok (.dup, 1) := by decide +kernel
theorem d_Q_nodeAt_19 : decode b_Q_nodeAt 19 = .ok (.ldc 215, 2) := by decide +kernel
theorem d_Q_nodeAt_21 : decode b_Q_nodeAt 21 = .ok (.invokespecial 147, 3) := by decide +kernel
theorem d_Q_nodeAt_24 : decode b_Q_nodeAt 24 = .ok (.athrow, 1) := by decide +kernel
theorem d_Q_notTooLarge_0 : decode b_Q_notTooLarge 0 = .ok (.lload_n 0, 1) := by decide +kernel
theorem d_Q_notTooLarge_1 : decode b_Q_notTooLarge 1 = .ok (.ldc2_w 276, 3) := by decide +kernel
theorem d_Q_notTooLarge_4 : decode b_Q_notTooLarge 4 = .ok (.lcmp, 1) := by decide +kernel
theorem d_Q_notTooLarge_5 : decode b_Q_notTooLarge 5 = .ok (.ifCond .gt 11, 3) := by decide +kernel
theorem d_Q_notTooLarge_8 : decode b_Q_notTooLarge 8 = .ok (.lload_n 0, 1) := by decide +kernel
theorem d_Q_notTooLarge_9 : decode b_Q_notTooLarge 9 = .ok (.ldc2_w 278, 3) := by decide +kernel
theorem d_Q_notTooLarge_12 : decode b_Q_notTooLarge 12 = .ok (.lcmp, 1) := by decide +kernel
theorem d_Q_notTooLarge_13 : decode b_Q_notTooLarge 13 = .ok (.ifCond .ge 14, 3) := by decide +kernel
theorem d_Q_notTooLarge_16 : decode b_Q_notTooLarge 16 = .ok (.new 246, 3) := by decide +kernel
theorem d_Q_notTooLarge_19 : decode b_Q_notTooLarge 19 = .ok (.dup, 1) := by decide +kernel
theorem d_Q_notTooLarge_20 : decode b_Q_notTooLarge 20 = .ok (.ldc_w 280, 3) := by decide +kernel
theorem d_Q_notTooLarge_23 : decode b_Q_notTooLarge 23 = .ok (.invokespecial 267, 3) := by decide +kernel
theorem d_Q_notTooLarge_26 : decode b_Q_notTooLarge 26 = .ok (.athrow, 1) := by decide +kernel
theorem d_Q_notTooLarge_27 : decode b_Q_notTooLarge 27 = .ok (.lload_n 0, 1) := by decide +kernel
theorem d_Q_notTooLarge_28 : decode b_Q_notTooLarge 28 = .ok (.lreturn, 1) := by decide +kernel
theorem d_Q_numberOf_0 : decode b_Q_numberOf 0 = .ok (.lload_n 0, 1) := by decide +kernel
theorem d_Q_numberOf_1 : decode b_Q_numberOf 1 = .ok (.l2d, 1) := by decide +kernel
theorem d_Q_numberOf_2 : decode b_Q_numberOf 2 = .ok (.ldc2_w 209, 3) := by decide +kernel
theorem d_Q_numberOf_5 : decode b_Q_numberOf 5 = .ok (.ddiv, 1) := by decide +kernel
theorem d_Q_numberOf_6 : decode b_Q_numberOf 6 = .ok (.dreturn, 1) := by decide +kernel
theorem d_Q_option_0 : decode b_Q_option 0 = .ok (.aload_n 0, 1) := by decide +kernel
theorem d_Q_option_1 : decode b_Q_option 1 = .ok (.iload_n 1, 1) := by decide +kernel
theorem d_Q_option_2 : decode b_Q_option 2 = .ok (.invokevirtual 53, 3) := by decide +kernel
theorem d_Q_option_5 : decode b_Q_option 5 = .ok (.astore 7, 2) := by decide +kernel
theorem d_Q_option_7 : decode b_Q_option 7 = .ok (.aload_n 0, 1) := by decide +kernel
theorem d_Q_option_8 : decode b_Q_option 8 = .ok (.iload_n 2, 1) := by decide +kernel
theorem d_Q_option_9 : decode b_Q_option 9 = .ok (.invokevirtual 53, 3) := by decide +kernel
theorem d_Q_option_12 : decode b_Q_option 12 = .ok (.astore 8, 2) := by decide +kernel
theorem d_Q_option_14 : decode b_Q_option 14 = .ok (.iload_n 3, 1) := by decide +kernel
theorem d_Q_option_15 : decode b_Q_option 15 = .ok (.iconst 0, 1) := by decide +kernel
theorem d_Q_option_16 : decode b_Q_option 16 = .ok (.iconst 3, 1) := by decide +kernel
theorem d_Q_option_17 : decode b_Q_option 17 = .ok (.invokestatic 67, 3) := by decide +kernel
theorem d_Q_option_20 : decode b_Q_option 20 = .ok (.ldc2_w 30, 3) := by decide +kernel
theorem d_Q_option_23 : decode b_Q_option 23 = .ok (.dload 4, 2) := by decide +kernel
theorem d_Q_option_25 : decode b_Q_option 25 = .ok (.ldc 32, 2) := by decide +kernel
theorem d_Q_option_27 : decode b_Q_option 27 = .ok (.invokestatic 33, 3) := by decide +kernel
theorem d_Q_option_30 : decode b_Q_option 30 = .ok (.lmul, 1) := by decide +kernel
theorem d_Q_option_31 : decode b_Q_option 31 = .ok (.lstore 9, 2) := by decide +kernel
theorem d_Q_option_33 : decode b_Q_option 33 = .ok (.iload 6, 2) := by decide +kernel
theorem d_Q_option_35 : decode b_Q_option 35 = .ok (.iconst 1, 1) := by decide +kernel
theorem d_Q_option_36 : decode b_Q_option 36 = .ok (.bipush 20, 2) := by decide +kernel
theorem d_Q_option_38 : decode b_Q_option 38 = .ok (.invokestatic 67, 3) := by decide +kernel
theorem d_Q_option_41 : decode b_Q_option 41 = .ok (.aload_n 0, 1) := by decide +kernel
theorem d_Q_option_42 : decode b_Q_option 42 = .ok (.invokevirtual 37, 3) := by decide +kernel
theorem d_Q_option_45 : decode b_Q_option 45 = .ok (.new 71, 3) := by decide +kernel
theorem d_Q_option_48 : decode b_Q_option 48 = .ok (.dup, 1) := by decide +kernel
theorem d_Q_option_49 : decode b_Q_option 49 = .ok (.aload_n 0, 1) := by decide +kernel
theorem d_Q_option_50 : decode b_Q_option 50 = .ok (.getfield 42, 3) := by decide +kernel
theorem d_Q_option_53 : decode b_Q_option 53 = .ok (.aload 7, 2) := by decide +kernel
theorem d_Q_option_55 : decode b_Q_option 55 = .ok (.aload 8, 2) := by decide +kernel
theorem d_Q_option_57 : decode b_Q_option 57 = .ok (.iload_n 3, 1) := by decide +kernel
theorem d_Q_option_58 : decode b_Q_option 58 = .ok (.lload 9, 2) := by decide +kernel
theorem d_Q_option_60 : decode b_Q_option 60 = .ok (.iload 6, 2) := by decide +kernel
theorem d_Q_option_62 : decode b_Q_option 62 = .ok (.invokespecial 73, 3) := by decide +kernel
theorem d_Q_option_65 : decode b_Q_option 65 = .ok (.astore 11, 2) := by decide +kernel
theorem d_Q_option_67 : decode b_Q_option 67 = .ok (.aload 11, 2) := by decide +kernel
theorem d_Q_option_69 : decode b_Q_option 69 = .ok (.aload_n 0, 1) := by decide +kernel
theorem d_Q_option_70 : decode b_Q_option 70 = .ok (.getfield 26, 3) := by decide +kernel
theorem d_Q_option_73 : decode b_Q_option 73 = .ok (.iconst 0, 1) := by decide +kernel
theorem d_Q_option_74 : decode b_Q_option 74 = .ok (.aaload, 1) := by decide +kernel
theorem d_Q_option_75 : decode b_Q_option 75 = .ok (.putfield 76, 3) := by decide +kernel
theorem d_Q_option_78 : decode b_Q_option 78 = .ok (.aload_n 0, 1) := by decide +kernel
theorem d_Q_option_79 : decode b_Q_option 79 = .ok (.aload 11, 2) := by decide +kernel
theorem d_Q_option_81 : decode b_Q_option 81 = .ok (.invokevirtual 49, 3) := by decide +kernel
theorem d_Q_option_84 : decode b_Q_option 84 = .ok (.ireturn, 1) := by decide +kernel
theorem d_Q_optionAt_0 : decode b_Q_optionAt 0 = .ok (.aload_n 0, 1) := by decide +kernel
theorem d_Q_optionAt_1 : decode b_Q_optionAt 1 = .ok (.iload_n 1, 1) := by decide +kernel
theorem d_Q_optionAt_2 : decode b_Q_optionAt 2 = .ok (.invokevirtual 211, 3) := by decide +kernel
theorem d_Q_optionAt_5 : decode b_Q_optionAt 5 = .ok (.ifCond .eq 24, 3) := by decide +kernel
theorem d_Q_optionAt_8 : decode b_Q_optionAt 8 = .ok (.aload_n 0, 1) := by decide +kernel
theorem d_Q_optionAt_9 : decode b_Q_optionAt 9 = .ok (.getfield 11, 3) := by decide +kernel
theorem d_Q_optionAt_12 : decode b_Q_optionAt 12 = .ok (.iload_n 1, 1) := by decide +kernel
theorem d_Q_optionAt_13 : decode b_Q_optionAt 13 = .ok (.aaload, 1) := by decide +kernel
theorem d_Q_optionAt_14 : decode b_Q_optionAt 14 = .ok (.astore_n 3, 1) := by decide +kernel
theorem d_Q_optionAt_15 : decode b_Q_optionAt 15 = .ok (.aload_n 3, 1) := by decide +kernel
theorem d_Q_optionAt_16 : decode b_Q_optionAt 16 = .ok (.instanceof 71, 3) := by decide +kernel
theorem d_Q_optionAt_19 : decode b_Q_optionAt 19 = .ok (.ifCond .eq 10, 3) := by decide +kernel
theorem d_Q_optionAt_22 : decode b_Q_optionAt 22 = .ok (.aload_n 3, 1) := by decide +kernel
theorem d_Q_optionAt_23 : decode b_Q_optionAt 23 = .ok (.checkcast 71, 3) := by decide +kernel
theorem d_Q_optionAt_26 : decode b_Q_optionAt 26 = .ok (.astore_n 2, 1) := by decide +kernel
theorem d_Q_optionAt_27 : decode b_Q_optionAt 27 = .ok (.aload_n 2, 1) := by decide +kernel
theorem d_Q_optionAt_28 : decode b_Q_optionAt 28 = .ok (.areturn, 1) := by decide +kernel
theorem d_Q_optionAt_29 : decode b_Q_optionAt 29 = .ok (.new 143, 3) := by decide +kernel
theorem d_Q_optionAt_32 : decode b_Q_optionAt 32 = .ok (.dup, 1) := by decide +kernel
theorem d_Q_optionAt_33 : decode b_Q_optionAt 33 = .ok (.ldc 219, 2) := by decide +kernel
theorem d_Q_optionAt_35 : decode b_Q_optionAt 35 = .ok (.invokespecial 147, 3) := by decide +kernel
theorem d_Q_optionAt_38 : decode b_Q_optionAt 38 = .ok (.athrow, 1) := by decide +kernel
theorem d_Q_quote_0 : decode b_Q_quote 0 = .ok (.ldc2_w 30, 3) := by decide +kernel
theorem d_Q_quote_3 : decode b_Q_quote 3 = .ok (.dload_n 1, 1) := by decide +kernel
theorem d_Q_quote_4 : decode b_Q_quote 4 = .ok (.ldc 32, 2) := by decide +kernel
theorem d_Q_quote_6 : decode b_Q_quote 6 = .ok (.invokestatic 33, 3) := by decide +kernel
theorem d_Q_quote_9 : decode b_Q_quote 9 = .ok (.lmul, 1) := by decide +kernel
theorem d_Q_quote_10 : decode b_Q_quote 10 = .ok (.lstore_n 3, 1) := by decide +kernel
theorem d_Q_quote_11 : decode b_Q_quote 11 = .ok (.aload_n 0, 1) := by decide +kernel
theorem d_Q_quote_12 : decode b_Q_quote 12 = .ok (.invokevirtual 37, 3) := by decide +kernel
theorem d_Q_quote_15 : decode b_Q_quote 15 = .ok (.aload_n 0, 1) := by decide +kernel
theorem d_Q_quote_16 : decode b_Q_quote 16 = .ok (.new 40, 3) := by decide +kernel
theorem d_Q_quote_19 : decode b_Q_quote 19 = .ok (.dup, 1) := by decide +kernel
theorem d_Q_quote_20 : decode b_Q_quote 20 = .ok (.aload_n 0, 1) := by decide +kernel
theorem d_Q_quote_21 : decode b_Q_quote 21 = .ok (.getfield 42, 3) := by decide +kernel
theorem d_Q_quote_24 : decode b_Q_quote 24 = .ok (.lload_n 3, 1) := by decide +kernel
theorem d_Q_quote_25 : decode b_Q_quote 25 = .ok (.invokespecial 46, 3) := by decide +kernel
theorem d_Q_quote_28 : decode b_Q_quote 28 = .ok (.invokevirtual 49, 3) := by decide +kernel
theorem d_Q_quote_31 : decode b_Q_quote 31 = .ok (.ireturn, 1) := by decide +kernel
theorem d_Q_quoteAt_0 : decode b_Q_quoteAt 0 = .ok (.aload_n 0, 1) := by decide +kernel
theorem d_Q_quoteAt_1 : decode b_Q_quoteAt 1 = .ok (.iload_n 1, 1) := by decide +kernel
theorem d_Q_quoteAt_2 : decode b_Q_quoteAt 2 = .ok (.invokevirtual 211, 3) := by decide +kernel
theorem d_Q_quoteAt_5 : decode b_Q_quoteAt 5 = .ok (.ifCond .eq 24, 3) := by decide +kernel
theorem d_Q_quoteAt_8 : decode b_Q_quoteAt 8 = .ok (.aload_n 0, 1) := by decide +kernel
theorem d_Q_quoteAt_9 : decode b_Q_quoteAt 9 = .ok (.getfield 11, 3) := by decide +kernel
theorem d_Q_quoteAt_12 : decode b_Q_quoteAt 12 = .ok (.iload_n 1, 1) := by decide +kernel
theorem d_Q_quoteAt_13 : decode b_Q_quoteAt 13 = .ok (.aaload, 1) := by decide +kernel
theorem d_Q_quoteAt_14 : decode b_Q_quoteAt 14 = .ok (.astore_n 3, 1) := by decide +kernel
theorem d_Q_quoteAt_15 : decode b_Q_quoteAt 15 = .ok (.aload_n 3, 1) := by decide +kernel
theorem d_Q_quoteAt_16 : decode b_Q_quoteAt 16 = .ok (.instanceof 40, 3) := by decide +kernel
theorem d_Q_quoteAt_19 : decode b_Q_quoteAt 19 = .ok (.ifCond .eq 10, 3) := by decide +kernel
theorem d_Q_quoteAt_22 : decode b_Q_quoteAt 22 = .ok (.aload_n 3, 1) := by decide +kernel
theorem d_Q_quoteAt_23 : decode b_Q_quoteAt 23 = .ok (.checkcast 40, 3) := by decide +kernel
theorem d_Q_quoteAt_26 : decode b_Q_quoteAt 26 = .ok (.astore_n 2, 1) := by decide +kernel
theorem d_Q_quoteAt_27 : decode b_Q_quoteAt 27 = .ok (.aload_n 2, 1) := by decide +kernel
theorem d_Q_quoteAt_28 : decode b_Q_quoteAt 28 = .ok (.areturn, 1) := by decide +kernel
theorem d_Q_quoteAt_29 : decode b_Q_quoteAt 29 = .ok (.new 143, 3) := by decide +kernel
theorem d_Q_quoteAt_32 : decode b_Q_quoteAt 32 = .ok (.dup, 1) := by decide +kernel
theorem d_Q_quoteAt_33 : decode b_Q_quoteAt 33 = .ok (.ldc 217, 2) := by decide +kernel
theorem d_Q_quoteAt_35 : decode b_Q_quoteAt 35 = .ok (.invokespecial 147, 3) := by decide +kernel
theorem d_Q_quoteAt_38 : decode b_Q_quoteAt 38 = .ok (.athrow, 1) := by decide +kernel
theorem d_Q_raise_0 : decode b_Q_raise 0 = .ok (.aload_n 1, 1) := by decide +kernel
theorem d_Q_raise_1 : decode b_Q_raise 1 = .ok (.getstatic 259, 3) := by decide +kernel
theorem d_Q_raise_4 : decode b_Q_raise 4 = .ok (.if_acmp .ne 4, 3) := by decide +kernel
theorem d_Q_raise_7 : decode b_Q_raise 7 = .ok (.return_, 1) := by decide +kernel
theorem d_Q_raise_8 : decode b_Q_raise 8 = .ok (.aload_n 0, 1) := by decide +kernel
theorem d_Q_raise_9 : decode b_Q_raise 9 = .ok (.dup, 1) := by decide +kernel
theorem d_Q_raise_10 : decode b_Q_raise 10 = .ok (.getfield 192, 3) := by decide +kernel
theorem d_Q_raise_13 : decode b_Q_raise 13 = .ok (.iconst 1, 1) := by decide +kernel
theorem d_Q_raise_14 : decode b_Q_raise 14 = .ok (.iadd, 1) := by decide +kernel
theorem d_Q_raise_15 : decode b_Q_raise 15 = .ok (.putfield 192, 3) := by decide +kernel
theorem d_Q_raise_18 : decode b_Q_raise 18 = .ok (.aload_n 1, 1) := by decide +kernel
theorem d_Q_raise_19 : decode b_Q_raise 19 = .ok (.getstatic 256, 3) := by decide +kernel
theorem d_Q_raise_22 : decode b_Q_raise 22 = .ok (.if_acmp .ne 14, 3) := by decide +kernel
theorem d_Q_raise_25 : decode b_Q_raise 25 = .ok (.new 254, 3) := by decide +kernel
theorem d_Q_raise_28 : decode b_Q_raise 28 = .ok (.dup, 1) := by decide +kernel
theorem d_Q_raise_29 : decode b_Q_raise 29 = .ok (.ldc_w 262, 3) := by decide +kernel
theorem d_Q_raise_32 : decode b_Q_raise 32 = .ok (.invokespecial 264, 3) := by decide +kernel
theorem d_Q_raise_35 : decode b_Q_raise 35 = .ok (.athrow, 1) := by decide +kernel
theorem d_Q_raise_36 : decode b_Q_raise 36 = .ok (.new 246, 3) := by decide +kernel
theorem d_Q_raise_39 : decode b_Q_raise 39 = .ok (.dup, 1) := by decide +kernel
theorem d_Q_raise_40 : decode b_Q_raise 40 = .ok (.ldc_w 265, 3) := by decide +kernel
theorem d_Q_raise_43 : decode b_Q_raise 43 = .ok (.invokespecial 267, 3) := by decide +kernel
theorem d_Q_raise_46 : decode b_Q_raise 46 = .ok (.athrow, 1) := by decide +kernel
theorem d_Q_rememberAll_0 : decode b_Q_rememberAll 0 = .ok (.iconst 0, 1) := by decide +kernel
theorem d_Q_rememberAll_1 : decode b_Q_rememberAll 1 = .ok (.istore_n 1, 1) := by decide +kernel
theorem d_Q_rememberAll_2 : decode b_Q_rememberAll 2 = .ok (.iload_n 1, 1) := by decide +kernel
theorem d_Q_rememberAll_3 : decode b_Q_rememberAll 3 = .ok (.aload_n 0, 1) := by decide +kernel
theorem d_Q_rememberAll_4 : decode b_Q_rememberAll 4 = .ok (.getfield 42, 3) := by decide +kernel
theorem d_Q_rememberAll_7 : decode b_Q_rememberAll 7 = .ok (.if_icmp .ge 18, 3) := by decide +kernel
theorem d_Q_rememberAll_10 : decode b_Q_rememberAll 10 = .ok (.aload_n 0, 1) := by decide +kernel
theorem d_Q_rememberAll_11 : decode b_Q_rememberAll 11 = .ok (.getfield 11, 3) := by decide +kernel
theorem d_Q_rememberAll_14 : decode b_Q_rememberAll 14 = .ok (.iload_n 1, 1) := by decide +kernel
theorem d_Q_rememberAll_15 : decode b_Q_rememberAll 15 = .ok (.aaload, 1) := by decide +kernel
theorem d_Q_rememberAll_16 : decode b_Q_rememberAll 16 = .ok (.invokevirtual 268, 3) := by decide +kernel
theorem d_Q_rememberAll_19 : decode b_Q_rememberAll 19 = .ok (.iinc 1 1, 3) := by decide +kernel
theorem d_Q_rememberAll_22 : decode b_Q_rememberAll 22 = .ok (.goto (-20), 3) := by decide +kernel
theorem d_Q_rememberAll_25 : decode b_Q_rememberAll 25 = .ok (.return_, 1) := by decide +kernel
theorem d_Q_restoreAll_0 : decode b_Q_restoreAll 0 = .ok (.iconst 0, 1) := by decide +kernel
theorem d_Q_restoreAll_1 : decode b_Q_restoreAll 1 = .ok (.istore_n 1, 1) := by decide +kernel
theorem d_Q_restoreAll_2 : decode b_Q_restoreAll 2 = .ok (.iload_n 1, 1) := by decide +kernel
theorem d_Q_restoreAll_3 : decode b_Q_restoreAll 3 = .ok (.aload_n 0, 1) := by decide +kernel
theorem d_Q_restoreAll_4 : decode b_Q_restoreAll 4 = .ok (.getfield 42, 3) := by decide +kernel
theorem d_Q_restoreAll_7 : decode b_Q_restoreAll 7 = .ok (.if_icmp .ge 18, 3) := by decide +kernel
theorem d_Q_restoreAll_10 : decode b_Q_restoreAll 10 = .ok (.aload_n 0, 1) := by decide +kernel
theorem d_Q_restoreAll_11 : decode b_Q_restoreAll 11 = .ok (.getfield 11, 3) := by decide +kernel
theorem d_Q_restoreAll_14 : decode b_Q_restoreAll 14 = .ok (.iload_n 1, 1) := by decide +kernel
theorem d_Q_restoreAll_15 : decode b_Q_restoreAll 15 = .ok (.aaload, 1) := by decide +kernel
theorem d_Q_restoreAll_16 : decode b_Q_restoreAll 16 = .ok (.invokevirtual 271, 3) := by decide +kernel
theorem d_Q_restoreAll_19 : decode b_Q_restoreAll 19 = .ok (.iinc 1 1, 3) := by decide +kernel
theorem d_Q_restoreAll_22 : decode b_Q_restoreAll 22 = .ok (.goto (-20), 3) := by decide +kernel
theorem d_Q_restoreAll_25 : decode b_Q_restoreAll 25 = .ok (.return_, 1) := by decide +kernel
theorem d_Q_rounded_0 : decode b_Q_rounded 0 = .ok (.ldc2_w 274, 3) := by decide +kernel
theorem d_Q_rounded_3 : decode b_Q_rounded 3 = .ok (.lload_n 0, 1) := by decide +kernel
theorem d_Q_rounded_4 : decode b_Q_rounded 4 = .ok (.lmul, 1) := by decide +kernel
theorem d_Q_rounded_5 : decode b_Q_rounded 5 = .ok (.lconst 1, 1) := by decide +kernel
theorem d_Q_rounded_6 : decode b_Q_rounded 6 = .ok (.iload_n 2, 1) := by decide +kernel
theorem d_Q_rounded_7 : decode b_Q_rounded 7 = .ok (.lshl, 1) := by decide +kernel
theorem d_Q_rounded_8 : decode b_Q_rounded 8 = .ok (.ladd, 1) := by decide +kernel
theorem d_Q_rounded_9 : decode b_Q_rounded 9 = .ok (.iload_n 2, 1) := by decide +kernel
theorem d_Q_rounded_10 : decode b_Q_rounded 10 = .ok (.iconst 1, 1) := by decide +kernel
theorem d_Q_rounded_11 : decode b_Q_rounded 11 = .ok (.iadd, 1) := by decide +kernel
theorem d_Q_rounded_12 : decode b_Q_rounded 12 = .ok (.lshr, 1) := by decide +kernel
theorem d_Q_rounded_13 : decode b_Q_rounded 13 = .ok (.invokestatic 242, 3) := by decide +kernel
theorem d_Q_rounded_16 : decode b_Q_rounded 16 = .ok (.lreturn, 1) := by decide +kernel
theorem d_Q_set_0 : decode b_Q_set 0 = .ok (.aload_n 0, 1) := by decide +kernel
theorem d_Q_set_1 : decode b_Q_set 1 = .ok (.iload_n 1, 1) := by decide +kernel
theorem d_Q_set_2 : decode b_Q_set 2 = .ok (.invokevirtual 116, 3) := by decide +kernel
theorem d_Q_set_5 : decode b_Q_set 5 = .ok (.astore 4, 2) := by decide +kernel
theorem d_Q_set_7 : decode b_Q_set 7 = .ok (.ldc2_w 30, 3) := by decide +kernel
theorem d_Q_set_10 : decode b_Q_set 10 = .ok (.dload_n 2, 1) := by decide +kernel
theorem d_Q_set_11 : decode b_Q_set 11 = .ok (.ldc 32, 2) := by decide +kernel
theorem d_Q_set_13 : decode b_Q_set 13 = .ok (.invokestatic 33, 3) := by decide +kernel
theorem d_Q_set_16 : decode b_Q_set 16 = .ok (.lmul, 1) := by decide +kernel
theorem d_Q_set_17 : decode b_Q_set 17 = .ok (.lstore 5, 2) := by decide +kernel
theorem d_Q_set_19 : decode b_Q_set 19 = .ok (.aload_n 0, 1) := by decide +kernel
theorem d_Q_set_20 : decode b_Q_set 20 = .ok (.getfield 120, 3) := by decide +kernel
theorem d_Q_set_23 : decode b_Q_set 23 = .ok (.istore 7, 2) := by decide +kernel
theorem d_Q_set_25 : decode b_Q_set 25 = .ok (.lload 5, 2) := by decide +kernel
theorem d_Q_set_27 : decode b_Q_set 27 = .ok (.aload 4, 2) := by decide +kernel
theorem d_Q_set_29 : decode b_Q_set 29 = .ok (.getfield 123, 3) := by decide +kernel
theorem d_Q_set_32 : decode b_Q_set 32 = .ok (.lcmp, 1) := by decide +kernel
theorem d_Q_set_33 : decode b_Q_set 33 = .ok (.ifCond .eq 16, 3) := by decide +kernel
theorem d_Q_set_36 : decode b_Q_set 36 = .ok (.aload 4, 2) := by decide +kernel
theorem d_Q_set_38 : decode b_Q_set 38 = .ok (.lload 5, 2) := by decide +kernel
theorem d_Q_set_40 : decode b_Q_set 40 = .ok (.putfield 123, 3) := by decide +kernel
theorem d_Q_set_43 : decode b_Q_set 43 = .ok (.aload_n 0, 1) := by decide +kernel
theorem d_Q_set_44 : decode b_Q_set 44 = .ok (.aload 4, 2) := by decide +kernel
theorem d_Q_set_46 : decode b_Q_set 46 = .ok (.invokevirtual 127, 3) := by decide +kernel
theorem d_Q_set_49 : decode b_Q_set 49 = .ok (.aload_n 0, 1) := by decide +kernel
theorem d_Q_set_50 : decode b_Q_set 50 = .ok (.getfield 120, 3) := by decide +kernel
theorem d_Q_set_53 : decode b_Q_set 53 = .ok (.iload 7, 2) := by decide +kernel
theorem d_Q_set_55 : decode b_Q_set 55 = .ok (.isub, 1) := by decide +kernel
theorem d_Q_set_56 : decode b_Q_set 56 = .ok (.ireturn, 1) := by decide +kernel
theorem d_Q_tell_0 : decode b_Q_tell 0 = .ok (.aload_n 1, 1) := by decide +kernel
theorem d_Q_tell_1 : decode b_Q_tell 1 = .ok (.getfield 150, 3) := by decide +kernel
theorem d_Q_tell_4 : decode b_Q_tell 4 = .ok (.ifCond .ne 4, 3) := by decide +kernel
theorem d_Q_tell_7 : decode b_Q_tell 7 = .ok (.return_, 1) := by decide +kernel
theorem d_Q_tell_8 : decode b_Q_tell 8 = .ok (.aload_n 1, 1) := by decide +kernel
theorem d_Q_tell_9 : decode b_Q_tell 9 = .ok (.getfield 158, 3) := by decide +kernel
theorem d_Q_tell_12 : decode b_Q_tell 12 = .ok (.ifCond .eq 9, 3) := by decide +kernel
theorem d_Q_tell_15 : decode b_Q_tell 15 = .ok (.aload_n 1, 1) := by decide +kernel
theorem d_Q_tell_16 : decode b_Q_tell 16 = .ok (.iconst 1, 1) := by decide +kernel
theorem d_Q_tell_17 : decode b_Q_tell 17 = .ok (.putfield 161, 3) := by decide +kernel
theorem d_Q_tell_20 : decode b_Q_tell 20 = .ok (.return_, 1) := by decide +kernel
theorem d_Q_tell_21 : decode b_Q_tell 21 = .ok (.aload_n 1, 1) := by decide +kernel
theorem d_Q_tell_22 : decode b_Q_tell 22 = .ok (.iconst 0, 1) := by decide +kernel
theorem d_Q_tell_23 : decode b_Q_tell 23 = .ok (.putfield 150, 3) := by decide +kernel
theorem d_Q_tell_26 : decode b_Q_tell 26 = .ok (.aload_n 0, 1) := by decide +kernel
theorem d_Q_tell_27 : decode b_Q_tell 27 = .ok (.dup, 1) := by decide +kernel
theorem d_Q_tell_28 : decode b_Q_tell 28 = .ok (.getfield 120, 3) := by decide +kernel
theorem d_Q_tell_31 : decode b_Q_tell 31 = .ok (.iconst 1, 1) := by decide +kernel
theorem d_Q_tell_32 : decode b_Q_tell 32 = .ok (.iadd, 1) := by decide +kernel
theorem d_Q_tell_33 : decode b_Q_tell 33 = .ok (.putfield 120, 3) := by decide +kernel
theorem d_Q_tell_36 : decode b_Q_tell 36 = .ok (.aload_n 0, 1) := by decide +kernel
theorem d_Q_tell_37 : decode b_Q_tell 37 = .ok (.aload_n 1, 1) := by decide +kernel
theorem d_Q_tell_38 : decode b_Q_tell 38 = .ok (.invokevirtual 127, 3) := by decide +kernel
theorem d_Q_tell_41 : decode b_Q_tell 41 = .ok (.return_, 1) := by decide +kernel
theorem d_Q_tellUsersOf_0 : decode b_Q_tellUsersOf 0 = .ok (.iconst 0, 1) := by decide +kernel
theorem d_Q_tellUsersOf_1 : decode b_Q_tellUsersOf 1 = .ok (.istore_n 2, 1) := by decide +kernel
theorem d_Q_tellUsersOf_2 : decode b_Q_tellUsersOf 2 = .ok (.iload_n 2, 1) := by decide +kernel
theorem d_Q_tellUsersOf_3 : decode b_Q_tellUsersOf 3 = .ok (.aload_n 0, 1) := by decide +kernel
theorem d_Q_tellUsersOf_4 : decode b_Q_tellUsersOf 4 = .ok (.getfield 42, 3) := by decide +kernel
theorem d_Q_tellUsersOf_7 : decode b_Q_tellUsersOf 7 = .ok (.if_icmp .ge 36, 3) := by decide +kernel
theorem d_Q_tellUsersOf_10 : decode b_Q_tellUsersOf 10 = .ok (.aload_n 0, 1) := by decide +kernel
theorem d_Q_tellUsersOf_11 : decode b_Q_tellUsersOf 11 = .ok (.getfield 11, 3) := by decide +kernel
theorem d_Q_tellUsersOf_14 : decode b_Q_tellUsersOf 14 = .ok (.iload_n 2, 1) := by decide +kernel
theorem d_Q_tellUsersOf_15 : decode b_Q_tellUsersOf 15 = .ok (.aaload, 1) := by decide +kernel
theorem d_Q_tellUsersOf_16 : decode b_Q_tellUsersOf 16 = .ok (.invokevirtual 229, 3) := by decide +kernel
theorem d_Q_tellUsersOf_19 : decode b_Q_tellUsersOf 19 = .ok (.aload_n 1, 1) := by decide +kernel
theorem d_Q_tellUsersOf_20 : decode b_Q_tellUsersOf 20 = .ok (.invokevirtual 226, 3) := by decide +kernel
theorem d_Q_tellUsersOf_23 : decode b_Q_tellUsersOf 23 = .ok (.iand, 1) := by decide +kernel
theorem d_Q_tellUsersOf_24 : decode b_Q_tellUsersOf 24 = .ok (.ifCond .eq 13, 3) := by decide +kernel
theorem d_Q_tellUsersOf_27 : decode b_Q_tellUsersOf 27 = .ok (.aload_n 0, 1) := by decide +kernel
theorem d_Q_tellUsersOf_28 : decode b_Q_tellUsersOf 28 = .ok (.aload_n 0, 1) := by decide +kernel
theorem d_Q_tellUsersOf_29 : decode b_Q_tellUsersOf 29 = .ok (.getfield 11, 3) := by decide +kernel
theorem d_Q_tellUsersOf_32 : decode b_Q_tellUsersOf 32 = .ok (.iload_n 2, 1) := by decide +kernel
theorem d_Q_tellUsersOf_33 : decode b_Q_tellUsersOf 33 = .ok (.aaload, 1) := by decide +kernel
theorem d_Q_tellUsersOf_34 : decode b_Q_tellUsersOf 34 = .ok (.invokevirtual 103, 3) := by decide +kernel
theorem d_Q_tellUsersOf_37 : decode b_Q_tellUsersOf 37 = .ok (.iinc 2 1, 3) := by decide +kernel
theorem d_Q_tellUsersOf_40 : decode b_Q_tellUsersOf 40 = .ok (.goto (-38), 3) := by decide +kernel
theorem d_Q_tellUsersOf_43 : decode b_Q_tellUsersOf 43 = .ok (.return_, 1) := by decide +kernel
theorem d_Q_terms_0 : decode b_Q_terms 0 = .ok (.aload_n 0, 1) := by decide +kernel
theorem d_Q_terms_1 : decode b_Q_terms 1 = .ok (.iload_n 1, 1) := by decide +kernel
theorem d_Q_terms_2 : decode b_Q_terms 2 = .ok (.invokevirtual 80, 3) := by decide +kernel
theorem d_Q_terms_5 : decode b_Q_terms 5 = .ok (.astore 6, 2) := by decide +kernel
theorem d_Q_terms_7 : decode b_Q_terms 7 = .ok (.aload_n 0, 1) := by decide +kernel
theorem d_Q_terms_8 : decode b_Q_terms 8 = .ok (.iload_n 2, 1) := by decide +kernel
theorem d_Q_terms_9 : decode b_Q_terms 9 = .ok (.aload 6, 2) := by decide +kernel
theorem d_Q_terms_11 : decode b_Q_terms 11 = .ok (.invokevirtual 84, 3) := by decide +kernel
theorem d_Q_terms_14 : decode b_Q_terms 14 = .ok (.astore 7, 2) := by decide +kernel
theorem d_Q_terms_16 : decode b_Q_terms 16 = .ok (.aload_n 0, 1) := by decide +kernel
theorem d_Q_terms_17 : decode b_Q_terms 17 = .ok (.iload 5, 2) := by decide +kernel
theorem d_Q_terms_19 : decode b_Q_terms 19 = .ok (.aload 6, 2) := by decide +kernel
theorem d_Q_terms_21 : decode b_Q_terms 21 = .ok (.invokevirtual 84, 3) := by decide +kernel
theorem d_Q_terms_24 : decode b_Q_terms 24 = .ok (.astore 8, 2) := by decide +kernel
theorem d_Q_terms_26 : decode b_Q_terms 26 = .ok (.iload_n 3, 1) := by decide +kernel
theorem d_Q_terms_27 : decode b_Q_terms 27 = .ok (.iconst 1, 1) := by decide +kernel
theorem d_Q_terms_28 : decode b_Q_terms 28 = .ok (.bipush 15, 2) := by decide +kernel
theorem d_Q_terms_30 : decode b_Q_terms 30 = .ok (.invokestatic 67, 3) := by decide +kernel
theorem d_Q_terms_33 : decode b_Q_terms 33 = .ok (.aload 6, 2) := by decide +kernel
theorem d_Q_terms_35 : decode b_Q_terms 35 = .ok (.invokestatic 88, 3) := by decide +kernel
theorem d_Q_terms_38 : decode b_Q_terms 38 = .ok (.aload 6, 2) := by decide +kernel
theorem d_Q_terms_40 : decode b_Q_terms 40 = .ok (.aload 7, 2) := by decide +kernel
theorem d_Q_terms_42 : decode b_Q_terms 42 = .ok (.aload 8, 2) := by decide +kernel
theorem d_Q_terms_44 : decode b_Q_terms 44 = .ok (.invokevirtual 92, 3) := by decide +kernel
theorem d_Q_terms_47 : decode b_Q_terms 47 = .ok (.aload 6, 2) := by decide +kernel
theorem d_Q_terms_49 : decode b_Q_terms 49 = .ok (.iload_n 3, 1) := by decide +kernel
theorem d_Q_terms_50 : decode b_Q_terms 50 = .ok (.putfield 96, 3) := by decide +kernel
theorem d_Q_terms_53 : decode b_Q_terms 53 = .ok (.aload 6, 2) := by decide +kernel
theorem d_Q_terms_55 : decode b_Q_terms 55 = .ok (.iload 4, 2) := by decide +kernel
theorem d_Q_terms_57 : decode b_Q_terms 57 = .ok (.putfield 99, 3) := by decide +kernel
theorem d_Q_terms_60 : decode b_Q_terms 60 = .ok (.aload_n 0, 1) := by decide +kernel
theorem d_Q_terms_61 : decode b_Q_terms 61 = .ok (.aload 6, 2) := by decide +kernel
theorem d_Q_terms_63 : decode b_Q_terms 63 = .ok (.invokevirtual 103, 3) := by decide +kernel
theorem d_Q_terms_66 : decode b_Q_terms 66 = .ok (.return_, 1) := by decide +kernel
theorem d_Q_tryToAsk_0 : decode b_Q_tryToAsk 0 = .ok (.aload_n 0, 1) := by decide +kernel
theorem d_Q_tryToAsk_1 : decode b_Q_tryToAsk 1 = .ok (.aload_n 1, 1) := by decide +kernel
theorem d_Q_tryToAsk_2 : decode b_Q_tryToAsk 2 = .ok (.invokevirtual 235, 3) := by decide +kernel
theorem d_Q_tryToAsk_5 : decode b_Q_tryToAsk 5 = .ok (.goto 13, 3) := by decide +kernel
theorem d_Q_tryToAsk_8 : decode b_Q_tryToAsk 8 = .ok (.astore_n 2, 1) := by decide +kernel
theorem d_Q_tryToAsk_9 : decode b_Q_tryToAsk 9 = .ok (.getstatic 248, 3) := by decide +kernel
theorem d_Q_tryToAsk_12 : decode b_Q_tryToAsk 12 = .ok (.areturn, 1) := by decide +kernel
theorem d_Q_tryToAsk_13 : decode b_Q_tryToAsk 13 = .ok (.astore_n 2, 1) := by decide +kernel
theorem d_Q_tryToAsk_14 : decode b_Q_tryToAsk 14 = .ok (.getstatic 256, 3) := by decide +kernel
theorem d_Q_tryToAsk_17 : decode b_Q_tryToAsk 17 = .ok (.areturn, 1) := by decide +kernel
theorem d_Q_tryToAsk_18 : decode b_Q_tryToAsk 18 = .ok (.getstatic 259, 3) := by decide +kernel
theorem d_Q_tryToAsk_21 : decode b_Q_tryToAsk 21 = .ok (.areturn, 1) := by decide +kernel
theorem d_Q_uses_0 : decode b_Q_uses 0 = .ok (.aload_n 0, 1) := by decide +kernel
theorem d_Q_uses_1 : decode b_Q_uses 1 = .ok (.aload_n 0, 1) := by decide +kernel
theorem d_Q_uses_2 : decode b_Q_uses 2 = .ok (.iload_n 1, 1) := by decide +kernel
theorem d_Q_uses_3 : decode b_Q_uses 3 = .ok (.invokevirtual 53, 3) := by decide +kernel
theorem d_Q_uses_6 : decode b_Q_uses 6 = .ok (.aload_n 0, 1) := by decide +kernel
theorem d_Q_uses_7 : decode b_Q_uses 7 = .ok (.iload_n 2, 1) := by decide +kernel
theorem d_Q_uses_8 : decode b_Q_uses 8 = .ok (.invokevirtual 53, 3) := by decide +kernel
theorem d_Q_uses_11 : decode b_Q_uses 11 = .ok (.invokevirtual 173, 3) := by decide +kernel
theorem d_Q_uses_14 : decode b_Q_uses 14 = .ok (.ireturn, 1) := by decide +kernel
theorem d_Q_value_0 : decode b_Q_value 0 = .ok (.aload_n 0, 1) := by decide +kernel
theorem d_Q_value_1 : decode b_Q_value 1 = .ok (.iload_n 1, 1) := by decide +kernel
theorem d_Q_value_2 : decode b_Q_value 2 = .ok (.invokevirtual 53, 3) := by decide +kernel
theorem d_Q_value_5 : decode b_Q_value 5 = .ok (.astore_n 2, 1) := by decide +kernel
theorem d_Q_value_6 : decode b_Q_value 6 = .ok (.aload_n 0, 1) := by decide +kernel
theorem d_Q_value_7 : decode b_Q_value 7 = .ok (.aload_n 0, 1) := by decide +kernel
theorem d_Q_value_8 : decode b_Q_value 8 = .ok (.aload_n 2, 1) := by decide +kernel
theorem d_Q_value_9 : decode b_Q_value 9 = .ok (.invokevirtual 130, 3) := by decide +kernel
theorem d_Q_value_12 : decode b_Q_value 12 = .ok (.invokevirtual 134, 3) := by decide +kernel
theorem d_Q_value_15 : decode b_Q_value 15 = .ok (.aload_n 2, 1) := by decide +kernel
theorem d_Q_value_16 : decode b_Q_value 16 = .ok (.getfield 138, 3) := by decide +kernel
theorem d_Q_value_19 : decode b_Q_value 19 = .ok (.invokestatic 139, 3) := by decide +kernel
theorem d_Q_value_22 : decode b_Q_value 22 = .ok (.dreturn, 1) := by decide +kernel
theorem d_Qt_init_0 : decode b_Qt_init 0 = .ok (.aload_n 0, 1) := by decide +kernel
theorem d_Qt_init_1 : decode b_Qt_init 1 = .ok (.iload_n 1, 1) := by decide +kernel
theorem d_Qt_init_2 : decode b_Qt_init 2 = .ok (.iconst 0, 1) := by decide +kernel
theorem d_Qt_init_3 : decode b_Qt_init 3 = .ok (.anewarray 3, 3) := by decide +kernel
theorem d_Qt_init_6 : decode b_Qt_init 6 = .ok (.iconst 0, 1) := by decide +kernel
theorem d_Qt_init_7 : decode b_Qt_init 7 = .ok (.invokespecial 5, 3) := by decide +kernel
theorem d_Qt_init_10 : decode b_Qt_init 10 = .ok (.aload_n 0, 1) := by decide +kernel
theorem d_Qt_init_11 : decode b_Qt_init 11 = .ok (.lload_n 2, 1) := by decide +kernel
theorem d_Qt_init_12 : decode b_Qt_init 12 = .ok (.putfield 9, 3) := by decide +kernel
theorem d_Qt_init_15 : decode b_Qt_init 15 = .ok (.aload_n 0, 1) := by decide +kernel
theorem d_Qt_init_16 : decode b_Qt_init 16 = .ok (.iconst 1, 1) := by decide +kernel
theorem d_Qt_init_17 : decode b_Qt_init 17 = .ok (.putfield 15, 3) := by decide +kernel
theorem d_Qt_init_20 : decode b_Qt_init 20 = .ok (.return_, 1) := by decide +kernel
theorem d_Qt_sort_0 : decode b_Qt_sort 0 = .ok (.iconst 0, 1) := by decide +kernel
theorem d_Qt_sort_1 : decode b_Qt_sort 1 = .ok (.ireturn, 1) := by decide +kernel
theorem d_Qt_workOut_0 : decode b_Qt_workOut 0 = .ok (.aload_n 0, 1) := by decide +kernel
theorem d_Qt_workOut_1 : decode b_Qt_workOut 1 = .ok (.getfield 9, 3) := by decide +kernel
theorem d_Qt_workOut_4 : decode b_Qt_workOut 4 = .ok (.lreturn, 1) := by decide +kernel
end
section
/-! 06.env: what stands round every walk: the tables' facts, the heap's own cells as a function of the address, calls that return or throw -/
abbrev GT : Type := va_G × (Nat → ClassId) × (Nat → Nat) × (Nat → Nat)
abbrev tysG (G : GT) : List (ClassId × FieldType) := [(G.2.1 0, .long), (G.2.1 1, .int), (G.2.1 2, .boolean), (G.2.1 3, .double), (G.2.1 4, .object "QuoteGraph$Node"), (G.2.1 5, .object "QuoteGraph$Engine")]
abbrev strs : List (String × Nat × String) := [("QuoteGraph", 207, "a number is out of range or no multiple of 0.125"), ("QuoteGraph", 198, "no room for one more node"), ("QuoteGraph", 215, "there is no such node"), ("QuoteGraph", 203, "a number is out of range"), ("QuoteGraph", 219, "there is no such option"), ("QuoteGraph", 221, "the option would use itself"), ("QuoteGraph", 201, "the option is frozen"), ("QuoteGraph", 217, "there is no such quote"), ("QuoteGraph", 280, "a value is too large"), ("QuoteGraph$Net", 23, "the chance is too great for a net"), ("QuoteGraph$Paths", 17, "a path doesn't tell when to stop"), ("QuoteGraph$Option", 60, "the move is not above 0"), ("QuoteGraph$Option", 75, "the rate is out of range"), ("QuoteGraph", 262, "paths can't price an american option"), ("QuoteGraph", 265, "a value can't be worked out"), ("QuoteGraph", 145, "a quote can't be frozen"), ("QuoteGraph", 155, "a stale node can't be frozen"), ("QuoteGraph", 187, "nothing of a node has this number")]
abbrev ncasts : List (String × String) := [("QuoteGraph$Blend", "QuoteGraph$Quote"), ("QuoteGraph$Greater", "QuoteGraph$Quote"), ("QuoteGraph$Option", "QuoteGraph$Quote"), ("QuoteGraph$Quote", "QuoteGraph$Option"), ("QuoteGraph$Blend", "QuoteGraph$Option"), ("QuoteGraph$Greater", "QuoteGraph$Option"), ("java/lang/IllegalStateException", "java/lang/IllegalArgumentException"), ("java/lang/ArithmeticException", "java/lang/IllegalArgumentException"), ("java/lang/UnsupportedOperationException", "java/lang/IllegalArgumentException"), ("java/lang/UnsupportedOperationException", "java/lang/ArithmeticException")]
abbrev enums : List String := ["NONE", "ARITHMETIC", "UNSUPPORTED"]
def ewOk : Cond → Bool
  | .castable .. => true
  | .declares _ => true
  | .methodLinkNest .. => true
  | _ => false
def EW : List Cond := lw_tbl.filter ewOk
theorem ew_of (i : Nat) (w : Cond) (h : lw_tbl[i]? = some w) (g : ewOk w = true) : w ∈ EW := List.mem_filter.mpr ⟨List.mem_of_getElem? h, g⟩
theorem EW_tab {w : Cond} (h : w ∈ EW) : w.onTables = true := by
  have h2 := (List.mem_filter.mp h).2
  cases w <;> first | rfl | (simp [ewOk] at h2)
theorem EW_warm {s U : State} (hW : s.WarmedH U.vm) {w : Cond} (hw : w ∈ EW) (h : va_Nw w s) : va_Nw w U := by
  have h2 := (List.mem_filter.mp hw).2
  cases w <;> first | exact va_Nw.warmC hW h | exact va_Nw.warmD hW h | exact va_Nw.warmM hW h | (simp [ewOk] at h2)
/-- the tables' facts that no word list carries, and the statics -/
def Ev (G : GT) (A : Nat → Prop) (U : State) : Prop :=
  va_K G.1 classes (tysG G) U ∧ vx_Zq Bundle.tN "UNASSIGNED_STACK" Bundle.steD A U U.heap ∧ vx_Zq Bundle.tN "SUPPRESSED_SENTINEL" Bundle.listD A U U.heap ∧
  (∀ (k : Nat) (x : String × Nat × String), strs[k]? = some x → vk_R x.1 x.2.1 x.2.2 (G.2.2.1 k) U) ∧
  (∀ w ∈ EW, va_Nw w U) ∧ (∀ x ∈ ncasts, va_Nc x.1 x.2 U) ∧ va_AO "QuoteGraph$Node" U ∧ va_AO "QuoteGraph$Engine" U ∧
  (∀ (k : Nat) (n : String), enums[k]? = some n → va_Z "QuoteGraph$Trouble" n "LQuoteGraph$Trouble;" (.ref (G.2.2.2 k)) A U U.heap) ∧
  (∀ i j : Nat, i < 3 → j < 3 → G.2.2.2 i = G.2.2.2 j → i = j)
theorem Ev.moved {G : GT} {A : Nat → Prop} {s U : State} {H : Heap} {locs : List Loc} (h : Ev G A s) (hW : s.WarmedH U.vm) (hS : va_S A s.heap H locs) (hU : U.heap = H) : Ev G A U := by
  obtain ⟨h1, h2, h3, h4, h5, h6, h7, h8, h9, h10⟩ := h
  have hq : ∀ a : Nat, a < s.heap.size → ¬ A a → U.heap[a]? = s.heap[a]? := by rw [hU]; exact hS.2.1
  exact ⟨va_K.moved hW.alike h1, vx_Zq.moved hW.alike (h2.kept hq), vx_Zq.moved hW.alike (h3.kept hq), fun k x hx => vk_R.warm hW (h4 k x hx), fun w hw => EW_warm hW hw (h5 w hw), fun x hx => va_Nc.moved hW.alike (h6 x hx), va_AO.moved hW.alike h7, va_AO.moved hW.alike h8, fun k n hn => va_Z.moved hW.alike ((h9 k n hn).kept hq), h10⟩
/-- the same tables, the same heap -/
theorem Ev.same {G : GT} {A : Nat → Prop} {s U : State} (h : Ev G A s) (hW : s.WarmedH U.vm) (hU : U.heap = s.heap) : Ev G A U := h.moved hW (va_S.rf (A := A)) hU
abbrev WT : Type := List Nat × (Nat → va_E)
def Wd (G : GT) (A : Nat → Prop) (u : WT) (U : State) : Prop := Ev G A U ∧ va_P G.1 classes (va_pl u.1 u.2) U.heap ∧ va_D A (va_pl u.1 u.2) ∧ ∀ q, U.heap.size ≤ q → A q
def Wo (G : GT) (A : Nat → Prop) (u : WT) (t : State) : Prop := va_P G.1 classes (va_pl u.1 u.2) t.heap ∧ va_D A (va_pl u.1 u.2)
def Wk (G : GT) (A : Nat → Prop) (u : WT) (s : State) (H : Heap) (locs : List Loc) : Prop := Ev G A s ∧ va_P G.1 classes (va_pl u.1 u.2) H ∧ va_D A (va_pl u.1 u.2) ∧ va_S A s.heap H locs ∧ ∀ q, s.heap.size ≤ q → A q
theorem Wd.blind {G : GT} {A : Nat → Prop} {u : WT} {av : List Value} : FrameBlind (va_Pc av (Wd G A u)) := by
  intro a U g mk h
  obtain ⟨h0, h1, h2, h3, h4⟩ := h
  exact ⟨h0, h1.same (U := U.calling g mk a) (State.WarmedH.refl U) rfl, h2, h3, h4⟩
theorem Wk.start {G : GT} {A : Nat → Prop} {u : WT} {s : State} (h : Wd G A u s) : Wk G A u s s.heap [] := ⟨h.1, h.2.1, h.2.2.1, va_S.rf, h.2.2.2⟩
theorem Wk.to {G : GT} {A : Nat → Prop} {u : WT} {s : State} {H : Heap} {locs : List Loc} (h : Wk G A u s H locs) {U : State} (hU : U.heap = H) (hW : s.WarmedH U.vm) : Wd G A u U := by
  obtain ⟨h1, h2, h3, h4, h5⟩ := h
  exact ⟨h1.moved hW h4 hU, by rw [hU]; exact h2, h3, fun q hq => h5 q (Nat.le_trans h4.1 (by rw [hU] at hq; exact hq))⟩
theorem Wk.back {G : GT} {A : Nat → Prop} {u u' : WT} {s t : State} {H H1 : Heap} {locs locs1 : List Loc} (h : Wk G A u s H locs) (hB : Wo G A u' t) (ht : t.heap = H1) (hS : va_S A s.heap H1 locs1) : Wk G A u' s H1 locs1 := ⟨h.1, by rw [← ht]; exact hB.1, hB.2, hS, h.2.2.2.2⟩
theorem Wk.out {G : GT} {A : Nat → Prop} {u : WT} {s t : State} {H : Heap} {locs : List Loc} (h : Wk G A u s H locs) (ht : t.heap = H) : Wo G A u t := ⟨by rw [ht]; exact h.2.1, h.2.2.1⟩
theorem pl_ix {L : List Nat} {f : Nat → va_E} {a : Nat} {x : va_E} (h : a ∈ L) (hf : f a = x) : ∃ k : Nat, (va_pl L f)[k]? = some (a, x) := by
  obtain ⟨k, hk⟩ := va_pl_get (X := []) (f := f) h
  exact ⟨k, by rw [← hf]; exact hk⟩
theorem pl_up {A : Nat → Prop} {L : List Nat} {f : Nat → va_E} {a k : Nat} {x y : va_E} (hD : va_D A (va_pl L f)) (h : a ∈ L) (hf : f a = x) (hk : (va_pl L f)[k]? = some (a, x)) : (va_pl L f).set k (a, y) = va_pl L (va_up f a y) := by
  subst hf
  exact va_pl_set (X := []) hD h hk
/-- what a method that may throw says of the throw: the class by its name, the world -/
def XX (G : GT) (A : Nat → Prop) (px : String → WT → Prop) : String → State → State → Prop := vx_X (fun x : String × WT => px x.1 x.2) (fun E x t => E = x.1 ∧ Wo G A x.2 t) A
abbrev NX : String → WT → Prop := fun _ _ => False
theorem GW_in (w : Cond) : GoodIn (w :: GW) GW := fun x hx => ⟨List.mem_cons_of_mem _ hx, good_of_word (List.all_eq_true.mp GW_good x hx)⟩
section KRows
variable {p : Program} {l : Launch} {e : Env} {R : Room} {s : State} {m : MethodId} {args : Array Value} {below : List Frame} {meth : Method} {c : Code} {H : Heap} {locs : List Loc} {cells slots : Nat} {Q : State → Prop}
variable {cc : ByteArray} {pc : Nat} {ls : Array Slot} {rest : List Value} {G : GT} {A : Nat → Prop} {a : Nat} {u : WT}
theorem k_get (hexec : p.tables.exec = Jvm.exec) (hb : c.code = cc) (ht : ∀ w ∈ GW, w.before args s = true) {own ref C : String} {T : u_T} {N ci index : Nat} (hin : ∀ w ∈ u_ws C T N, w ∈ GW) (hown : s.vm.findClass own = some m.cls) (hw : Wk G A u s H locs) {fs : List Value} (ha : a ∈ u.1) (he : u.2 a = .inr (ci, fs)) (hc : classes[ci]? = some (C, T, N)) (k : Nat) (hk : k < N) (hlink : Cond.fieldLink own index ref (T k).2.1 (T k).2.2.1 ∈ GW) (hsame : ∀ x, s.fieldFound? (T k).1 (T k).2.1 (T k).2.2.1 = some x → s.fieldFound? ref (T k).2.1 (T k).2.2.1 = some x) {v : Value} (hv : fs[k]? = some v) (hdg : decode cc pc = .ok (.getfield index, 3))
    (kk : W p l e R s m args below meth c H locs cells slots Q (F0 m (pc + 3) ls (v :: rest))) : W p l e R s m args below meth c H locs cells slots Q (F0 m pc ls (.ref a :: rest)) := by
  obtain ⟨q0, hq⟩ := pl_ix ha he
  exact va_get hexec hb ht hin hown hw.1.1 hw.2.1 q0 hq hc k hk (ht _ hlink) hsame hv hdg kk
theorem k_put (hexec : p.tables.exec = Jvm.exec) (hb : c.code = cc) (ht : ∀ w ∈ GW, w.before args s = true) {own ref C : String} {T : u_T} {N ci index : Nat} (hin : ∀ w ∈ u_ws C T N, w ∈ GW) (ty0 : Nat → FieldType) (hty : ∀ k, k < N → parseFieldDescriptor (T k).2.2.1 = some (ty0 k)) (hnm : ∀ a, a < N → ∀ b, b < N → a ≠ b → (T a).2.1 ≠ (T b).2.1) (hown : s.vm.findClass own = some m.cls) (hw : Wk G A u s H locs) {fs : List Value} (ha : a ∈ u.1) (he : u.2 a = .inr (ci, fs)) (hc : classes[ci]? = some (C, T, N)) (k : Nat) (hk : k < N) (hlink : Cond.fieldLink own index ref (T k).2.1 (T k).2.2.1 ∈ GW) (hsame : ∀ x, s.fieldFound? (T k).1 (T k).2.1 (T k).2.2.1 = some x → s.fieldFound? ref (T k).2.1 (T k).2.2.1 = some x) (hfin : (T k).2.2.2 = false) {ty : FieldType} {v : Value} (hd : parseFieldDescriptor (T k).2.2.1 = some ty) (hn : narrow ty v = v) (hfit : fits ty v = true) (hl : k < fs.length) (hdg : decode cc pc = .ok (.putfield index, 3))
    (kk : ∀ (H1 : Heap) (locs1 : List Loc), Wk G A (u.1, va_up u.2 a (.inr (ci, fs.set k v))) s H1 locs1 → W p l e R s m args below meth c H1 locs1 cells slots Q (F0 m (pc + 3) ls rest)) : W p l e R s m args below meth c H locs cells slots Q (F0 m pc ls (v :: .ref a :: rest)) := by
  obtain ⟨q0, hq⟩ := pl_ix ha he
  refine va_put hexec hb ht hin ty0 hty hnm hown hw.1.1 hw.2.1 hw.2.2.1 hw.2.2.2.1 q0 hq hc k hk (ht _ hlink) hsame hfin hd hn hfit hl hdg (fun H1 locs1 hP hD hS => ?_)
  rw [pl_up hw.2.2.1 ha he hq] at hP hD
  exact kk H1 locs1 ⟨hw.1, hP, hD, hS, hw.2.2.2.2⟩
theorem k_putF (hexec : p.tables.exec = Jvm.exec) (hb : c.code = cc) (ht : ∀ w ∈ GW, w.before args s = true) {own ref C : String} {T : u_T} {N ci index : Nat} (hin : ∀ w ∈ u_ws C T N, w ∈ GW) (ty0 : Nat → FieldType) (hty : ∀ k, k < N → parseFieldDescriptor (T k).2.2.1 = some (ty0 k)) (hnm : ∀ a, a < N → ∀ b, b < N → a ≠ b → (T a).2.1 ≠ (T b).2.1) (hown : s.vm.findClass own = some m.cls) (hw : Wk G A u s H locs) {fs : List Value} (ha : a ∈ u.1) (he : u.2 a = .inr (ci, fs)) (hc : classes[ci]? = some (C, T, N)) (k : Nat) (hk : k < N) (hlink : Cond.fieldLink own index ref (T k).2.1 (T k).2.2.1 ∈ GW) (hsame : ∀ x, s.fieldFound? (T k).1 (T k).2.1 (T k).2.2.1 = some x → s.fieldFound? ref (T k).2.1 (T k).2.2.1 = some x) (hfin : (T k).2.2.2 = true) (hin2 : meth.name = "<init>") (hdecl : (T k).1 = own) {ty : FieldType} {v : Value} (hd : parseFieldDescriptor (T k).2.2.1 = some ty) (hn : narrow ty v = v) (hfit : fits ty v = true) (hl : k < fs.length) (hdg : decode cc pc = .ok (.putfield index, 3))
    (kk : ∀ (H1 : Heap) (locs1 : List Loc), Wk G A (u.1, va_up u.2 a (.inr (ci, fs.set k v))) s H1 locs1 → W p l e R s m args below meth c H1 locs1 cells slots Q (F0 m (pc + 3) ls rest)) : W p l e R s m args below meth c H locs cells slots Q (F0 m pc ls (v :: .ref a :: rest)) := by
  obtain ⟨q0, hq⟩ := pl_ix ha he
  refine va_putF hexec hb ht hin ty0 hty hnm hown hw.1.1 hw.2.1 hw.2.2.1 hw.2.2.2.1 q0 hq hc k hk (ht _ hlink) hsame hfin hin2 hdecl hd hn hfit hl hdg (fun H1 locs1 hP hD hS => ?_)
  rw [pl_up hw.2.2.1 ha he hq] at hP hD
  exact kk H1 locs1 ⟨hw.1, hP, hD, hS, hw.2.2.2.2⟩
theorem k_lald (hexec : p.tables.exec = Jvm.exec) (hb : c.code = cc) (hw : Wk G A u s H locs) {n : Nat} {f : Nat → Int64} (ha : a ∈ u.1) (he : u.2 a = .inl (G.2.1 0, n, .inr (.inl f))) {i : Int32} (hi : vp_in i n) (hdg : decode cc pc = .ok (.laload, 1))
    (kk : W p l e R s m args below meth c H locs cells slots Q (F0 m (pc + 1) ls (.long (f i.toNatClampNeg) :: rest))) : W p l e R s m args below meth c H locs cells slots Q (F0 m pc ls (.int i :: .ref a :: rest)) := by
  obtain ⟨q0, hq⟩ := pl_ix ha he
  exact va_lald hexec hb hw.1.1 hw.2.1 q0 0 hq rfl hi hdg kk
theorem k_iald (hexec : p.tables.exec = Jvm.exec) (hb : c.code = cc) (hw : Wk G A u s H locs) {n : Nat} {f : Nat → Int32} (ha : a ∈ u.1) (he : u.2 a = .inl (G.2.1 1, n, .inl f)) {i : Int32} (hi : vp_in i n) (hdg : decode cc pc = .ok (.iaload, 1))
    (kk : W p l e R s m args below meth c H locs cells slots Q (F0 m (pc + 1) ls (.int (f i.toNatClampNeg) :: rest))) : W p l e R s m args below meth c H locs cells slots Q (F0 m pc ls (.int i :: .ref a :: rest)) := by
  obtain ⟨q0, hq⟩ := pl_ix ha he
  exact va_iald hexec hb hw.1.1 hw.2.1 q0 1 hq rfl hi hdg kk
theorem k_zald (hexec : p.tables.exec = Jvm.exec) (hb : c.code = cc) (hw : Wk G A u s H locs) {n : Nat} {f : Nat → Int32} (ha : a ∈ u.1) (he : u.2 a = .inl (G.2.1 2, n, .inl f)) {i : Int32} (hi : vp_in i n) (hdg : decode cc pc = .ok (.baload, 1))
    (kk : W p l e R s m args below meth c H locs cells slots Q (F0 m (pc + 1) ls (.int (f i.toNatClampNeg) :: rest))) : W p l e R s m args below meth c H locs cells slots Q (F0 m pc ls (.int i :: .ref a :: rest)) := by
  obtain ⟨q0, hq⟩ := pl_ix ha he
  exact va_zald hexec hb hw.1.1 hw.2.1 q0 2 hq rfl hi hdg kk
theorem k_dald (hexec : p.tables.exec = Jvm.exec) (hb : c.code = cc) (hw : Wk G A u s H locs) {n : Nat} {f : Nat → UInt64} (ha : a ∈ u.1) (he : u.2 a = .inl (G.2.1 3, n, .inr (.inr (.inr (.inl f))))) {i : Int32} (hi : vp_in i n) (hdg : decode cc pc = .ok (.daload, 1))
    (kk : W p l e R s m args below meth c H locs cells slots Q (F0 m (pc + 1) ls (.double (f i.toNatClampNeg) :: rest))) : W p l e R s m args below meth c H locs cells slots Q (F0 m pc ls (.int i :: .ref a :: rest)) := by
  obtain ⟨q0, hq⟩ := pl_ix ha he
  exact va_dald hexec hb hw.1.1 hw.2.1 q0 3 hq rfl hi hdg kk
theorem k_aldq (t0 : Nat) {C : String} (hexec : p.tables.exec = Jvm.exec) (hb : c.code = cc) (hw : Wk G A u s H locs) {n : Nat} {f : Nat → Option Nat} (ha : a ∈ u.1) (he : u.2 a = .inl (G.2.1 t0, n, .inr (.inr (.inr (.inr f))))) (ht0 : (tysG G)[t0]? = some (G.2.1 t0, .object C)) {i : Int32} (hi : vp_in i n) (hdg : decode cc pc = .ok (.aaload, 1))
    (kk : W p l e R s m args below meth c H locs cells slots Q (F0 m (pc + 1) ls (va_rf (f i.toNatClampNeg) :: rest))) : W p l e R s m args below meth c H locs cells slots Q (F0 m pc ls (.int i :: .ref a :: rest)) := by
  obtain ⟨q0, hq⟩ := pl_ix ha he
  exact va_aldq hexec hb hw.1.1 hw.2.1 q0 t0 hq ht0 hi hdg kk
theorem k_last (hexec : p.tables.exec = Jvm.exec) (hb : c.code = cc) (hw : Wk G A u s H locs) {n : Nat} {f : Nat → Int64} (ha : a ∈ u.1) (he : u.2 a = .inl (G.2.1 0, n, .inr (.inl f))) {i : Int32} {x : Int64} (hi : vp_in i n) (hdg : decode cc pc = .ok (.lastore, 1))
    (kk : ∀ (H1 : Heap) (locs1 : List Loc), Wk G A (u.1, va_up u.2 a (.inl (G.2.1 0, n, .inr (.inl (vp_updL f i.toNatClampNeg x))))) s H1 locs1 → W p l e R s m args below meth c H1 locs1 cells slots Q (F0 m (pc + 1) ls rest)) : W p l e R s m args below meth c H locs cells slots Q (F0 m pc ls (.long x :: .int i :: .ref a :: rest)) := by
  obtain ⟨q0, hq⟩ := pl_ix ha he
  refine va_last hexec hb hw.1.1 hw.2.1 hw.2.2.1 hw.2.2.2.1 q0 0 hq rfl hi hdg (fun H1 locs1 hP hD hS => ?_)
  rw [pl_up hw.2.2.1 ha he hq] at hP hD
  exact kk H1 locs1 ⟨hw.1, hP, hD, hS, hw.2.2.2.2⟩
theorem k_iast (hexec : p.tables.exec = Jvm.exec) (hb : c.code = cc) (hw : Wk G A u s H locs) {n : Nat} {f : Nat → Int32} (ha : a ∈ u.1) (he : u.2 a = .inl (G.2.1 1, n, .inl f)) {i : Int32} {x : Int32} (hi : vp_in i n) (hdg : decode cc pc = .ok (.iastore, 1))
    (kk : ∀ (H1 : Heap) (locs1 : List Loc), Wk G A (u.1, va_up u.2 a (.inl (G.2.1 1, n, .inl (upd f i.toNatClampNeg x)))) s H1 locs1 → W p l e R s m args below meth c H1 locs1 cells slots Q (F0 m (pc + 1) ls rest)) : W p l e R s m args below meth c H locs cells slots Q (F0 m pc ls (.int x :: .int i :: .ref a :: rest)) := by
  obtain ⟨q0, hq⟩ := pl_ix ha he
  refine va_iast hexec hb hw.1.1 hw.2.1 hw.2.2.1 hw.2.2.2.1 q0 1 hq rfl hi hdg (fun H1 locs1 hP hD hS => ?_)
  rw [pl_up hw.2.2.1 ha he hq] at hP hD
  exact kk H1 locs1 ⟨hw.1, hP, hD, hS, hw.2.2.2.2⟩
theorem k_zast (hexec : p.tables.exec = Jvm.exec) (hb : c.code = cc) (hw : Wk G A u s H locs) {n : Nat} {f : Nat → Int32} (ha : a ∈ u.1) (he : u.2 a = .inl (G.2.1 2, n, .inl f)) {i : Int32} {x : Int32} (hi : vp_in i n) (hdg : decode cc pc = .ok (.bastore, 1))
    (kk : ∀ (H1 : Heap) (locs1 : List Loc), Wk G A (u.1, va_up u.2 a (.inl (G.2.1 2, n, .inl (upd f i.toNatClampNeg (vp_nar .boolean x))))) s H1 locs1 → W p l e R s m args below meth c H1 locs1 cells slots Q (F0 m (pc + 1) ls rest)) : W p l e R s m args below meth c H locs cells slots Q (F0 m pc ls (.int x :: .int i :: .ref a :: rest)) := by
  obtain ⟨q0, hq⟩ := pl_ix ha he
  refine va_zast hexec hb hw.1.1 hw.2.1 hw.2.2.1 hw.2.2.2.1 q0 2 hq rfl hi hdg (fun H1 locs1 hP hD hS => ?_)
  rw [pl_up hw.2.2.1 ha he hq] at hP hD
  exact kk H1 locs1 ⟨hw.1, hP, hD, hS, hw.2.2.2.2⟩
theorem k_dast (hexec : p.tables.exec = Jvm.exec) (hb : c.code = cc) (hw : Wk G A u s H locs) {n : Nat} {f : Nat → UInt64} (ha : a ∈ u.1) (he : u.2 a = .inl (G.2.1 3, n, .inr (.inr (.inr (.inl f))))) {i : Int32} {x : UInt64} (hi : vp_in i n) (hdg : decode cc pc = .ok (.dastore, 1))
    (kk : ∀ (H1 : Heap) (locs1 : List Loc), Wk G A (u.1, va_up u.2 a (.inl (G.2.1 3, n, .inr (.inr (.inr (.inl (vf_upd f i.toNatClampNeg x))))))) s H1 locs1 → W p l e R s m args below meth c H1 locs1 cells slots Q (F0 m (pc + 1) ls rest)) : W p l e R s m args below meth c H locs cells slots Q (F0 m pc ls (.double x :: .int i :: .ref a :: rest)) := by
  obtain ⟨q0, hq⟩ := pl_ix ha he
  refine va_dast hexec hb hw.1.1 hw.2.1 hw.2.2.1 hw.2.2.2.1 q0 3 hq rfl hi hdg (fun H1 locs1 hP hD hS => ?_)
  rw [pl_up hw.2.2.1 ha he hq] at hP hD
  exact kk H1 locs1 ⟨hw.1, hP, hD, hS, hw.2.2.2.2⟩
theorem k_alen (t0 : Nat) {ty : FieldType} (hexec : p.tables.exec = Jvm.exec) (hb : c.code = cc) (hw : Wk G A u s H locs) {x : vp_A} (ha : a ∈ u.1) (he : u.2 a = .inl (G.2.1 t0, x)) (ht0 : (tysG G)[t0]? = some (G.2.1 t0, ty)) {v : Int32} (hv : Int32.ofNat x.1 = v) (hdg : decode cc pc = .ok (.arraylength, 1))
    (kk : W p l e R s m args below meth c H locs cells slots Q (F0 m (pc + 1) ls (.int v :: rest))) : W p l e R s m args below meth c H locs cells slots Q (F0 m pc ls (.ref a :: rest)) := by
  obtain ⟨q0, hq⟩ := pl_ix ha he
  exact va_alen hexec hb hw.1.1 hw.2.1 q0 t0 hq ht0 hv hdg kk
theorem k_recv (hw : Wk G A u s H locs) {ci : Nat} {x : vw_C} {fs : List Value} (ha : a ∈ u.1) (he : u.2 a = .inr (ci, fs)) (hc : classes[ci]? = some x) : ∃ cell : Cell, H[a]? = some cell ∧ cell.vm.isStatics = false ∧ s.vm.findClass x.1 = some cell.cls := by
  obtain ⟨q0, hq⟩ := pl_ix ha he
  exact va_recv hw.1.1 hw.2.1 hc hq
end KRows
end
section
/-! 07.calls: calls of methods that return or throw; what grows is told apart: (mc, ms) where it returns, (mx, sx) where it throws -/
def ky_Q (Qc : Array Value → State → Outcome → State → Prop) (XC : String → State → State → Prop) (mc ms mx sx : Nat) (free : Addr → Prop) : Array Value → State → Outcome → State → Prop := fun a st o t =>
  (Qc a st o t ∧ ∃ L, FrameEnd st o t L mc ms ∧ ∀ q ∈ L, free q.base) ∨ ∃ q, o = .threw q ∧ vx_T XC st q t mx sx free
def ky_Met (l : Launch) (y : MethodName) (ws : List Cond) (rm : Room) (Pc : Array Value → State → Prop) (Qc : Array Value → State → Outcome → State → Prop) (XC : String → State → State → Prop) (mc ms mx sx : Nat) (free : Addr → Prop) : Prop :=
  MetFree l y (headSpec ws rm) Pc (fun _ _ _ _ _ => True) (ky_Q Qc XC mc ms mx sx free)
def ky_MQ (below : List Frame) (Qc : Array Value → State → Outcome → State → Prop) (XC : String → State → State → Prop) (a : Array Value) (s : State) (mc ms mx sx : Nat) (free : Addr → Prop) : State → Prop := fun t =>
  ∃ o, t.status = .running ∧ Ended t below o ∧ ky_Q Qc XC mc ms mx sx free a s o t
def ky_Back (l : Launch) (R : Room) (p : Program) (e : Env) (below : List Frame) (s : State) (sargs : Array Value) (y : MethodName) (Pc : Array Value → State → Prop) (rm : Room)
    (Post : Pt → Array Value → Option Value → Pt → Prop) (PostX : Pt → Array Value → Addr → Pt → Prop) : Prop :=
  ∀ (m : MethodId) (meth : Method) (c : Code) (A : Pt) (g : JFrame) (ig : Instr) (mk : MethodId) (a : Array Value),
    Stand p l e R s m sargs below meth c A.U A.locs A.cells A.slots → g.method = m → g.locals.size = c.maxLocals → decode c.code g.pc = .ok (ig, 3) →
    2 * g.monitorRoom + (g.stack.map fun v => v.category).sum ≤ 8 → A.U.methodNamed? y = some mk → A.cells + rm.cells ≤ R.cells → A.slots + rm.slots ≤ R.slots → Pc a A.U →
    (∃ (v : Option Value) (B : Pt), Stand p l e R s m sargs below meth c B.U B.locs B.cells B.slots ∧ Post A a v B ∧
      Steps p.tables e below (doInvoke e (A.U.setTop g) [] mk a).1 (B.U.setTop { g with pc := g.pc + 3, stack := v.toList ++ g.stack })) ∨
    (∃ (q : Addr) (B : Pt), Stand p l e R s m sargs below meth c B.U B.locs B.cells B.slots ∧ PostX A a q B ∧
      Steps p.tables e below (doInvoke e (A.U.setTop g) [] mk a).1 ((B.U.setTop g).pushFrame (.throwing q)))
section KBack
variable {l : Launch} {R : Room} {p : Program} {e : Env} {below : List Frame} {s : State} {sargs : Array Value} {y : MethodName}
/-- the caller's side of a contract: with the room that the callee asks, and what grew by its end -/
theorem ky_back {ws : List Cond} {rm : Room} {Pc : Array Value → State → Prop} {Qc : Array Value → State → Outcome → State → Prop} {XC : String → State → State → Prop} {mc ms mx sx : Nat} {free : Addr → Prop} {maxL : Nat}
    (hM : ky_Met l y ws rm Pc Qc XC mc ms mx sx free) (hblind : FrameBlind Pc)
    (hframes : rm.frames + 1 ≤ R.frames) (hlocals : 8 + (maxL + 11) + rm.locals ≤ R.locals)
    (hws : ∀ w ∈ ws, ∀ a' U, s.WarmedH U.vm → w.before a' U = true) (hcode : ∀ (a' : Array Value) (U : State) (mk : MethodId), s.WarmedH U.vm → U.methodNamed? y = some mk → ∃ (meth : Method) (c : Code), U.vm.method? mk = some meth ∧ meth.code = some c ∧ c.maxLocals = maxL) (hinit : ∀ a' U, s.WarmedH U.vm → (Cond.initialized y.cls).before a' U = true) :
    ky_Back l R p e below s sargs y Pc rm (PostOf Qc mc ms free) (vx_Post XC mx sx free) := by
  intro m meth c A g ig mk a X hg hsize hdg hW hn h4 h5 hp
  have h1 : (headSpec ws rm).pre.before a A.U = true := atoms_intro fun w hw => hws w hw _ _ X.warmed
  have h3 : (Cond.initialized y.cls).before a A.U = true := hinit _ _ X.warmed
  have hPc : Pc a (A.U.calling g mk a) := hblind _ _ _ _ hp
  obtain ⟨U, Ls, c0, s0⟩ := A
  dsimp only [Pt.U, Pt.locs, Pt.cells, Pt.slots] at h1 h3 h4 h5 X hn hPc ⊢
  obtain ⟨methY, cY, hmY, hcY, hlY⟩ := hcode a U mk X.warmed hn
  obtain ⟨kY, hkY, -⟩ := className_of_methodNamed hn
  have hinitY : kY.init = .initialized := Cond.initialized_spec (findClass_of_methodNamed hn) hkY h3
  have h : At U g.method c below := by rw [hg]; exact X.here
  have happ : (headSpec ws rm).appliesLoose y e.platform (U.calling g mk a) = true :=
    Spec.appliesLoose_calling (g := g) h hdg hn hkY hinitY
      (X.room_calling (g := g) (R' := (headSpec ws rm).room) hsize hmY hcY hframes (by rw [hlY]; show 2 * g.monitorRoom + _ + (maxL + 11) + rm.locals ≤ R.locals; omega) h4 h5) h1
  obtain ⟨mid, hmid⟩ := h.above
  have hfr : (U.setTop g).frames = (.java g :: mid) ++ below := by rw [State.frames_setTop' g h.top, hmid]; rfl
  obtain ⟨o, s₂, hsteps, -, hend, hq⟩ := Steps.callFree hM p X.admits X.cas X.clock (acts := []) hfr happ hPc trivial
  have hq' : ky_Q Qc XC mc ms mx sx free a (U.calling g mk a) o s₂ := hq
  rw [State.frames_setTop' g h.top] at hend
  obtain ⟨g₀, hg0⟩ := Option.isSome_iff_exists.mp h.top
  obtain ⟨r, hr⟩ := State.topJava?_eq_some.mp hg0
  have hr' : (({ U with heap := s₂.heap, slotsUsed := s₂.slotsUsed } : State).setVm s₂.vm).frames = .java g₀ :: r := hr
  have grown : ∀ {L : List Loc} {k n : Nat}, (U.calling g mk a).sameButNew ({ s₂ with vm := (U.calling g mk a).vm } : State) L k n → (U.calling g mk a).WarmedH s₂.vm →
      s₂ = ({ (U.calling g mk a).setFrames s₂.frames with heap := s₂.heap, slotsUsed := s₂.slotsUsed } : State).setVm s₂.vm ∧ Stand p l e R s m sargs below meth c (({ U with heap := s₂.heap, slotsUsed := s₂.slotsUsed } : State).setVm s₂.vm) (Ls ++ L) (c0 + k) (s0 + n) := by
    intro L k n hsm hW₂
    obtain ⟨e2, q2, q3, q4, q5, q6⟩ := hsm
    have hW' : U.WarmedH s₂.vm := hW₂
    have hsame : U.sameButNew ({ U with heap := s₂.heap, slotsUsed := s₂.slotsUsed } : State) L k n := by
      refine ⟨?_, q2, q3, q4, q5, q6⟩
      obtain ⟨t, ht, -⟩ := State.frames_cons hr
      show ({ U with heap := s₂.heap, slotsUsed := s₂.slotsUsed } : State) = { U.setFrames U.frames with heap := s₂.heap, slotsUsed := s₂.slotsUsed }
      rw [State.setFrames_self ht]
    refine ⟨?_, ⟨X.admits, X.cas, X.clock, X.frames, X.room, X.hears, X.method, X.code, ?_, X.tail, State.WarmedH.trans X.warmed hW', X.limits, X.bytes, X.same.trans (hsame.setVm s.vm)⟩⟩
    · have : s₂ = ({ s₂ with vm := (U.calling g mk a).vm } : State).setVm s₂.vm := rfl
      rw [e2] at this
      exact this
    · exact (X.here.setHeapUsed s₂.heap s₂.slotsUsed).setVm hW'.alike
  rcases hq' with ⟨hqc, L, hfe, hL⟩ | ⟨q, rfl, E, ce, L, hx, hce, hcv, hcl, hW₂, hsm, hL⟩
  · obtain ⟨⟨v, rfl⟩, hW₂, hsm⟩ := id hfe
    obtain ⟨e3, X'⟩ := grown hsm hW₂
    obtain ⟨c₂, i₂, len₂, hc₂, hd₂, hf₂⟩ := hend
    have hW' : U.WarmedH s₂.vm := hW₂
    have hcc : c₂ = c := by
      have h1 : s₂.code? g.method = U.code? g.method := by
        rw [State.code?_eq, State.code?_eq, hW'.alike.method?]
      exact Option.some.inj (hc₂.symm.trans (h1.trans h.code))
    subst hcc
    have hlen : len₂ = 3 := by rw [hdg] at hd₂; cases hd₂; rfl
    subst hlen
    have hs₂ : s₂ = (({ U with heap := s₂.heap, slotsUsed := s₂.slotsUsed } : State).setVm s₂.vm).setTop { g with pc := g.pc + 3, stack := v.toList ++ g.stack } := by
      refine e3.trans ?_
      rw [hf₂, State.calling_eq h.top, State.setFrames_setFrames, State.setTop_of_frames _ hr', hr]
      rfl
    refine Or.inl ⟨v, ⟨(({ U with heap := s₂.heap, slotsUsed := s₂.slotsUsed } : State).setVm s₂.vm), Ls ++ L, c0 + mc, s0 + ms⟩, X', ⟨g, mk, s₂, L, rfl, rfl, hqc, rfl, hL, rfl, rfl⟩, ?_⟩
    show Steps p.tables e below _ ((({ U with heap := s₂.heap, slotsUsed := s₂.slotsUsed } : State).setVm s₂.vm).setTop { g with pc := g.pc + 3, stack := v.toList ++ g.stack })
    rw [← hs₂]
    exact hsteps
  · obtain ⟨e3, X'⟩ := grown hsm hW₂
    have hf₂ : s₂.frames = .throwing q :: .java g :: U.frames.tail := hend
    have hs₂ : s₂ = ((({ U with heap := s₂.heap, slotsUsed := s₂.slotsUsed } : State).setVm s₂.vm).setTop g).pushFrame (.throwing q) := by
      refine e3.trans ?_
      rw [hf₂, State.calling_eq h.top, State.setFrames_setFrames, State.pushFrame, State.frames_setTop _ hr', State.setTop_of_frames _ hr', State.setFrames_setFrames, hr]
      rfl
    refine Or.inr ⟨q, ⟨(({ U with heap := s₂.heap, slotsUsed := s₂.slotsUsed } : State).setVm s₂.vm), Ls ++ L, c0 + mx, s0 + sx⟩, X', ⟨g, mk, s₂, L, E, ce, rfl, rfl, hx, hce, hcv, hcl, rfl, hL, rfl, rfl⟩, ?_⟩
    show Steps p.tables e below _ (((({ U with heap := s₂.heap, slotsUsed := s₂.slotsUsed } : State).setVm s₂.vm).setTop g).pushFrame (.throwing q))
    rw [← hs₂]
    exact hsteps
end KBack
def ky_Run (p : Program) (l : Launch) (e : Env) (R : Room) (s : State) (m : MethodId) (args : Array Value) (below : List Frame) (meth : Method) (c : Code) (H : Heap) (locs : List Loc) (cells slots mc ms mx sx : Nat) (g : JFrame) (rest : List Value) (Qa : State → Outcome → State → Prop) (XC : String → State → State → Prop) (free : Addr → Prop) : Prop :=
  ∀ T : State, T.heap = H → Stand p l e R s m args below meth c T locs cells slots →
    (∃ (v : Option Value) (st₀ t T' : State) (L : List Loc), st₀.heap = H ∧ Stand p l e R s m args below meth c T' (locs ++ L) (cells + mc) (slots + ms) ∧ (∀ q ∈ L, free q.base) ∧ T'.heap = t.heap ∧ T'.vm = t.vm ∧ Qa st₀ (.returned v) t ∧
      Goes p e below T g T' { g with pc := g.pc + 3, stack := v.toList ++ rest }) ∨
    (∃ (q : Addr) (st₀ t T' : State) (L : List Loc) (E : String) (ce : Cell), st₀.heap = H ∧ Stand p l e R s m args below meth c T' (locs ++ L) (cells + mx) (slots + sx) ∧ (∀ z ∈ L, free z.base) ∧ T'.heap = t.heap ∧ T'.vm = t.vm ∧ XC E st₀ t ∧ t.heap[q]? = some ce ∧ ce.vm = .none ∧ s.vm.findClass E = some ce.cls ∧
      Steps p.tables e below (T.setTop g) ((T'.setTop { g with stack := rest }).pushFrame (.throwing q)))
/-- a contract: code b of method y with n locals; it asks fr frames, lo words, rc cells, rs slots; (mc, ms) are new when it returns, (mx, sx) when it throws -/
def Kt (l : Launch) (y : MethodName) (b : ByteArray) (n : Nat) (ret : Option FieldType) (fr lo rc rs mc ms mx sx : Nat) (G : GT) (A : Nat → Prop) (u : WT) (As : List Value) (Qc : Array Value → State → Outcome → State → Prop) (px : String → WT → Prop) : Prop :=
  ky_Met l y (Cond.code y b n ret :: GW) { frames := fr, cells := rc, slots := rs, locals := lo } (va_Pc As (Wd G A u)) Qc (XX G A px) mc ms mx sx A
def KQ (G : GT) (A : Nat → Prop) (post : Option Value → WT → Prop) : Array Value → State → Outcome → State → Prop := fun _ st oc t => (∃ (v : Option Value) (u : WT), oc = .returned v ∧ post v u ∧ Wo G A u t) ∧ va_F A st t
abbrev Ri (post : Int32 → WT → Prop) : Option Value → WT → Prop := fun v u => ∃ r : Int32, v = some (.int r) ∧ post r u
abbrev Rl (post : Int64 → WT → Prop) : Option Value → WT → Prop := fun v u => ∃ r : Int64, v = some (.long r) ∧ post r u
abbrev Rd (post : UInt64 → WT → Prop) : Option Value → WT → Prop := fun v u => ∃ r : UInt64, v = some (.double r) ∧ post r u
abbrev Rv (post : WT → Prop) : Option Value → WT → Prop := fun v u => v = none ∧ post u
abbrev Ra (post : Nat → WT → Prop) : Option Value → WT → Prop := fun v u => ∃ r : Nat, v = some (.ref r) ∧ post r u
abbrev Rq (post : Option Nat → WT → Prop) : Option Value → WT → Prop := fun v u => ∃ r : Option Nat, v = some (va_rf r) ∧ post r u
section KCalls
variable {p : Program} {l : Launch} {e : Env} {R : Room} {s : State} {m : MethodId} {args : Array Value} {below : List Frame} {meth : Method} {c : Code} {H : Heap} {locs : List Loc} {cells slots : Nat} {Q : State → Prop}
variable {y : MethodName} {bytes cc : ByteArray} {maxL nL mc ms mx sx rc rs index fr lo pc : Nat} {ret : Option FieldType} {rm : Room} {Pc : Array Value → State → Prop} {Qc : Array Value → State → Outcome → State → Prop} {XC : String → State → State → Prop} {free : Addr → Prop} {own C : String} {b : Addr} {As rest st0 : List Value} {g : JFrame} {G : GT} {A : Nat → Prop} {u : WT} {px : String → WT → Prop} {ls : Array Slot}
theorem kx_run {mk : MethodId} {av : Array Value} {ig : Instr} (hK : ky_Back l R p e below s args y Pc rm (PostOf Qc mc ms free) (vx_Post XC mx sx free))
    (hg : g.method = m) (hsize : g.locals.size = c.maxLocals) (hdg : decode c.code g.pc = .ok (ig, 3)) (hW : 2 * g.monitorRoom + (rest.map fun v => v.category).sum ≤ 8) (hn : s.methodNamed? y = some mk) (hf : cells + rm.cells ≤ R.cells ∧ slots + rm.slots ≤ R.slots) (hPc : ∀ U : State, U.heap = H → s.WarmedH U.vm → Pc av U)
    (hgo : ∀ T : State, T.heap = H → Stand p l e R s m args below meth c T locs cells slots → ∃ vm₁, Stand p l e R s m args below meth c (T.setVm vm₁) locs cells slots ∧ ∀ target, (∀ acts, Steps p.tables e below (doInvoke e ((T.setVm vm₁).setTop { g with stack := rest }) acts mk av).1 target) → Steps p.tables e below (T.setTop g) target) :
    ky_Run p l e R s m args below meth c H locs cells slots mc ms mx sx g rest (Qc av) XC free := by
  intro T hT X
  obtain ⟨vm₁, X₁, hstep₁⟩ := hgo T hT X
  rcases hK m meth c ⟨T.setVm vm₁, locs, cells, slots⟩ { g with stack := rest } ig mk av X₁ hg hsize hdg hW (X₁.named hn) hf.1 hf.2 (hPc (T.setVm vm₁) hT X₁.warmed) with ⟨v, ⟨U', l2, c2, s2⟩, X', ⟨g', mk', t, L, e1, e2, hq, h1, hL, h2, h3⟩, hsteps⟩ | ⟨q, ⟨U', l2, c2, s2⟩, X', ⟨g', mk', t, L, E, ce, e1, e2, hq, hce, hcv, hcl, h1, hL, h2, h3⟩, hsteps⟩
  · dsimp only [Pt.U, Pt.locs, Pt.cells, Pt.slots] at X' e1 e2 h1 h2 h3 hsteps
    subst h1; subst h2; subst h3
    exact Or.inl ⟨v, (T.setVm vm₁).calling g' mk' av, t, U', L, hT, X', hL, e1, e2, hq, fun target h => hstep₁ _ fun acts => by rw [doInvoke_state]; exact hsteps.trans h⟩
  · dsimp only [Pt.U, Pt.locs, Pt.cells, Pt.slots] at X' e1 e2 h1 h2 h3 hsteps hcl
    subst h1; subst h2; subst h3
    exact Or.inr ⟨q, (T.setVm vm₁).calling g' mk' av, t, U', L, E, ce, hT, X', hL, e1, e2, hq, hce, hcv, vx_cls X₁.warmed hcl, hstep₁ _ fun acts => by rw [doInvoke_state]; exact hsteps⟩
theorem gd_all (ht : ∀ w ∈ GW, w.before args s = true) : ∀ w ∈ GW, ∀ (a' : Array Value) (U : State), s.WarmedH U.vm → w.before a' U = true := fun w hw a' U hW => word_at hW (good_of_word (List.all_eq_true.mp GW_good w hw)) (ht w hw)
/-- the callee's words out of the tables' -/
theorem k_back (ht : ∀ w ∈ GW, w.before args s = true) (hcode : Cond.code y bytes maxL ret ∈ GW) (hini : Cond.initialized y.cls ∈ GW) (hR : fr + 1 ≤ R.frames ∧ 8 + (maxL + 11) + lo ≤ R.locals) (hM : Kt l y bytes maxL ret fr lo rc rs mc ms mx sx G A u As Qc px) :
    ky_Back l R p e below s args y (va_Pc As (Wd G A u)) { frames := fr, cells := rc, slots := rs, locals := lo } (PostOf Qc mc ms A) (vx_Post (XX G A px) mx sx A) := by
  refine ky_back (maxL := maxL) hM Wd.blind hR.1 hR.2 ?_ (fun a' U mk hW hn => ?_) (fun a' U hW => gd_all ht _ hini a' U hW)
  · intro w hw
    rcases List.mem_cons.mp hw with h | h
    · rw [h]; exact gd_all ht _ hcode
    · exact gd_all ht _ h
  · obtain ⟨methY, cY, hmY, hcY, -, hlY, -⟩ := Cond.code_spec hn (gd_all ht _ hcode a' U hW)
    exact ⟨methY, cY, hmY, hcY, hlY⟩
theorem k_len {x : MethodName} {n : Nat} (h : (parseMethodDescriptor x.desc).map (fun d => d.parameters.length) = some n) {xs : List Value} (hn : xs.length = n) : ∀ sig, parseMethodDescriptor x.desc = some sig → xs.length = sig.parameters.length := by
  intro sig h1
  rw [h1] at h
  rw [hn]
  exact (Option.some.inj h).symm
/-- a call of a method that its class doesn't hand down (private ones too) -/
theorem kr_V (n : Nat) (hM : Kt l y bytes maxL ret fr lo rc rs mc ms mx sx G A u (.ref b :: As) Qc px) (hexec : p.tables.exec = Jvm.exec) (hb : c.code = cc) (hml : c.maxLocals = nL) (hown : s.vm.findClass own = some m.cls) (ht : ∀ w ∈ GW, w.before args s = true) (hw : Wk G A u s H locs)
    (hlink : Cond.methodLink own index y ∈ GW) (hinst : Cond.instanceMethod y ∈ GW) (hsel : Cond.selects C y y ∈ GW) (hini : Cond.initialized y.cls ∈ GW) (hcode : Cond.code y bytes maxL ret ∈ GW)
    (hd : (y.cls ≠ "java/lang/invoke/MethodHandle" ∧ y.cls ≠ "java/lang/invoke/VarHandle") ∧ (parseMethodDescriptor y.desc).map (fun d => d.parameters.length) = some n) (hR : fr + 1 ≤ R.frames ∧ 8 + (maxL + 11) + lo ≤ R.locals)
    (hrecv : ∃ cell : Cell, H[b]? = some cell ∧ cell.vm.isStatics = false ∧ s.vm.findClass C = some cell.cls) (hn : As.length = n) (hsize : ls.size = nL) (hstack : st0 = As.reverse ++ .ref b :: rest) (hW : 2 * (F0 m pc ls st0).monitorRoom + (rest.map fun v => v.category).sum ≤ 8) (hdg : decode cc pc = .ok (.invokevirtual index, 3)) (hf : cells + rc ≤ R.cells ∧ slots + rs ≤ R.slots) :
    ky_Run p l e R s m args below meth c H locs cells slots mc ms mx sx (F0 m pc ls st0) rest (Qc (Value.ref b :: As).toArray) (XX G A px) A := by
  obtain ⟨mk, methM, hnamed, hmethM, hstM, habM⟩ := Cond.instanceMethod_spec (ht _ hinst)
  obtain ⟨methM', cM, hmethM', -, -, -, -, -, -, hsigM⟩ := Cond.code_spec hnamed (ht _ hcode)
  cases hmethM.symm.trans hmethM'
  obtain ⟨c2, r2, m2, q1, q2, q3, q4, kP, hkP, hkPi⟩ := Cond.selects_spec (ht _ hsel)
  obtain ⟨cellB, hcB, hoB, hclB⟩ := hrecv
  cases hclB.symm.trans q1
  cases (State.methodFound?_of_named hnamed hd.1).symm.trans q2
  cases hnamed.symm.trans q3
  refine kx_run (k_back ht hcode hini hR hM) rfl (hsize.trans hml.symm) (by rw [hb]; exact hdg) hW hnamed hf (fun U hU hWU => ⟨rfl, hw.to hU hWU⟩) (fun T hT X => ?_)
  have hselP : selectMethod e.platform s.vm cellB.cls mk = .method mk := by rw [Launch.admits_selectMethod X.admits]; exact q4
  obtain ⟨vm₁, X₁, hstep₁⟩ := X.invokevirtual hexec hown (ht _ hlink) hnamed hmethM hstM hkP hkPi hd.1 (a := b) (cell := cellB) (by rw [hT]; exact hcB)
    (fun z h => by rw [h] at hoB; cases hoB) hselP hmethM habM hkP hkPi (g := F0 m pc ls st0) rfl (argsL := As) (rest := rest) (k_len hd.2 hn _ hsigM) hstack (by rw [hb]; exact hdg)
  exact ⟨vm₁, X₁, hstep₁⟩
/-- a call through the name x of the class 'owner', on a receiver of class C, of what C has for it -/
theorem kr_U (n : Nat) {owner : String} {x : MethodName} (hM : Kt l y bytes maxL ret fr lo rc rs mc ms mx sx G A u (.ref b :: As) Qc px) (hexec : p.tables.exec = Jvm.exec) (hb : c.code = cc) (hml : c.maxLocals = nL) (hown : s.vm.findClass own = some m.cls) (ht : ∀ w ∈ GW, w.before args s = true) (hw : Wk G A u s H locs)
    (hlink : Cond.methodLink own index x ∈ GW) (hsame : Cond.sameMethod x.cls owner x.name x.desc ∈ GW) (hd0 : va_Decl s ⟨owner, x.name, x.desc⟩) (hsel : Cond.selects C x y ∈ GW) (hinst : Cond.instanceMethod y ∈ GW) (hini : Cond.initialized y.cls ∈ GW) (hcode : Cond.code y bytes maxL ret ∈ GW)
    (hd : (owner ≠ "java/lang/invoke/MethodHandle" ∧ owner ≠ "java/lang/invoke/VarHandle") ∧ (parseMethodDescriptor x.desc).map (fun d => d.parameters.length) = some n) (hR : fr + 1 ≤ R.frames ∧ 8 + (maxL + 11) + lo ≤ R.locals)
    (hrecv : ∃ cell : Cell, H[b]? = some cell ∧ cell.vm.isStatics = false ∧ s.vm.findClass C = some cell.cls) (hn : As.length = n) (hsize : ls.size = nL) (hstack : st0 = As.reverse ++ .ref b :: rest) (hW : 2 * (F0 m pc ls st0).monitorRoom + (rest.map fun v => v.category).sum ≤ 8) (hdg : decode cc pc = .ok (.invokevirtual index, 3)) (hf : cells + rc ≤ R.cells ∧ slots + rs ≤ R.slots) :
    ky_Run p l e R s m args below meth c H locs cells slots mc ms mx sx (F0 m pc ls st0) rest (Qc (Value.ref b :: As).toArray) (XX G A px) A := by
  obtain ⟨r0, r, hnR, hrm, hstR, hsigR⟩ := hd0
  obtain ⟨cn, ck, r1, hcn, hck, hni, hfo, hn1⟩ := Cond.sameMethod_found (ht _ hsame)
  cases hnR.symm.trans hn1
  obtain ⟨mk, methM, hnamed, hmethM, -, habM⟩ := Cond.instanceMethod_spec (ht _ hinst)
  obtain ⟨c2, r2, m2, q1, q2, q3, q4, kP, hkP, hkPi⟩ := Cond.selects_spec (ht _ hsel)
  obtain ⟨cellB, hcB, hoB, hclB⟩ := hrecv
  cases hclB.symm.trans q1
  cases hfo.symm.trans q2
  cases hnamed.symm.trans q3
  refine kx_run (k_back ht hcode hini hR hM) rfl (hsize.trans hml.symm) (by rw [hb]; exact hdg) hW hnamed hf (fun U hU hWU => ⟨rfl, hw.to hU hWU⟩) (fun T hT X => ?_)
  have hselP : selectMethod e.platform s.vm cellB.cls r0 = .method mk := by rw [Launch.admits_selectMethod X.admits]; exact q4
  obtain ⟨vm₁, X₁, hstep₁⟩ := X.invokevirtualUp hexec hown (ht _ hlink) (ht _ hsame) hd.1 hnR hrm hstR (a := b) (cell := cellB) (by rw [hT]; exact hcB)
    (fun z h => by rw [h] at hoB; cases hoB) hselP hmethM habM hkP hkPi (g := F0 m pc ls st0) rfl (argsL := As) (rest := rest) (k_len hd.2 hn _ hsigR) hstack (by rw [hb]; exact hdg)
  exact ⟨vm₁, X₁, hstep₁⟩
theorem kr_S (n : Nat) (hM : Kt l y bytes maxL ret fr lo rc rs mc ms mx sx G A u As Qc px) (hexec : p.tables.exec = Jvm.exec) (hb : c.code = cc) (hml : c.maxLocals = nL) (hown : s.vm.findClass own = some m.cls) (ht : ∀ w ∈ GW, w.before args s = true) (hw : Wk G A u s H locs)
    (hlink : Cond.methodLink own index y ∈ GW) (hstat : Cond.static y ∈ GW) (hini : Cond.initialized y.cls ∈ GW) (hcode : Cond.code y bytes maxL ret ∈ GW)
    (hd : (y.cls ≠ "java/lang/invoke/MethodHandle" ∧ y.cls ≠ "java/lang/invoke/VarHandle") ∧ (parseMethodDescriptor y.desc).map (fun d => d.parameters.length) = some n) (hR : fr + 1 ≤ R.frames ∧ 8 + (maxL + 11) + lo ≤ R.locals)
    (hn : As.length = n) (hsize : ls.size = nL) (hstack : st0 = As.reverse ++ rest) (hW : 2 * (F0 m pc ls st0).monitorRoom + (rest.map fun v => v.category).sum ≤ 8) (hdg : decode cc pc = .ok (.invokestatic index, 3)) (hf : cells + rc ≤ R.cells ∧ slots + rs ≤ R.slots) :
    ky_Run p l e R s m args below meth c H locs cells slots mc ms mx sx (F0 m pc ls st0) rest (Qc As.toArray) (XX G A px) A := by
  obtain ⟨mk, hnamed⟩ := Cond.code_named (ht _ hcode)
  obtain ⟨methM, cM, hmethM, -, -, -, -, -, -, hsigM⟩ := Cond.code_spec hnamed (ht _ hcode)
  have hstatic : methM.isStatic = true := Cond.static_spec hnamed hmethM (ht _ hstat)
  obtain ⟨kP, hkP, -⟩ := className_of_methodNamed hnamed
  have hinitP : kP.init = .initialized := Cond.initialized_spec (findClass_of_methodNamed hnamed) hkP (ht _ hini)
  refine kx_run (k_back ht hcode hini hR hM) rfl (hsize.trans hml.symm) (by rw [hb]; exact hdg) hW hnamed hf (fun U hU hWU => ⟨rfl, hw.to hU hWU⟩) (fun T hT X => ?_)
  obtain ⟨vm₁, X₁, hstep₁⟩ := X.invokestatic hexec hown (ht _ hlink) hnamed hmethM hstatic hkP hinitP hd.1 (g := F0 m pc ls st0) rfl (argsL := As) (rest := rest) (k_len hd.2 hn _ hsigM) hstack (by rw [hb]; exact hdg)
  exact ⟨vm₁, X₁, hstep₁⟩
theorem kr_SN (n : Nat) {host : String} (hM : Kt l y bytes maxL ret fr lo rc rs mc ms mx sx G A u As Qc px) (hexec : p.tables.exec = Jvm.exec) (hb : c.code = cc) (hml : c.maxLocals = nL) (hown : s.vm.findClass own = some m.cls) (ht : ∀ w ∈ GW, w.before args s = true) (hw : Wk G A u s H locs)
    (hlink : Cond.methodLinkNest own index y host ∈ EW) (hstat : Cond.static y ∈ GW) (hini : Cond.initialized y.cls ∈ GW) (hcode : Cond.code y bytes maxL ret ∈ GW)
    (hd : (y.cls ≠ "java/lang/invoke/MethodHandle" ∧ y.cls ≠ "java/lang/invoke/VarHandle") ∧ (parseMethodDescriptor y.desc).map (fun d => d.parameters.length) = some n) (hR : fr + 1 ≤ R.frames ∧ 8 + (maxL + 11) + lo ≤ R.locals)
    (hn : As.length = n) (hsize : ls.size = nL) (hstack : st0 = As.reverse ++ rest) (hW : 2 * (F0 m pc ls st0).monitorRoom + (rest.map fun v => v.category).sum ≤ 8) (hdg : decode cc pc = .ok (.invokestatic index, 3)) (hf : cells + rc ≤ R.cells ∧ slots + rs ≤ R.slots) :
    ky_Run p l e R s m args below meth c H locs cells slots mc ms mx sx (F0 m pc ls st0) rest (Qc As.toArray) (XX G A px) A := by
  obtain ⟨mk, hnamed⟩ := Cond.code_named (ht _ hcode)
  obtain ⟨methM, cM, hmethM, -, -, -, -, -, -, hsigM⟩ := Cond.code_spec hnamed (ht _ hcode)
  have hstatic : methM.isStatic = true := Cond.static_spec hnamed hmethM (ht _ hstat)
  obtain ⟨kP, hkP, -⟩ := className_of_methodNamed hnamed
  have hinitP : kP.init = .initialized := Cond.initialized_spec (findClass_of_methodNamed hnamed) hkP (ht _ hini)
  refine kx_run (k_back ht hcode hini hR hM) rfl (hsize.trans hml.symm) (by rw [hb]; exact hdg) hW hnamed hf (fun U hU hWU => ⟨rfl, hw.to hU hWU⟩) (fun T hT X => ?_)
  obtain ⟨vm₁, X₁, hstep₁⟩ := X.invokestaticNest hexec hown (va_Nw.use (A := args) rfl (hw.1.2.2.2.2.1 _ hlink)) hnamed hmethM hstatic hkP hinitP hd.1 (g := F0 m pc ls st0) rfl (argsL := As) (rest := rest) (k_len hd.2 hn _ hsigM) hstack (by rw [hb]; exact hdg)
  exact ⟨vm₁, X₁, hstep₁⟩
theorem kr_I (n : Nat) (hM : Kt l y bytes maxL none fr lo rc rs mc ms mx sx G A u (.ref b :: As) Qc px) (hexec : p.tables.exec = Jvm.exec) (hb : c.code = cc) (hml : c.maxLocals = nL) (hown : s.vm.findClass own = some m.cls) (ht : ∀ w ∈ GW, w.before args s = true) (hw : Wk G A u s H locs) (hy1 : y.name = "<init>")
    (hlink : Cond.methodLink own index y ∈ GW) (hinst : Cond.instanceMethod y ∈ GW) (hini : Cond.initialized y.cls ∈ GW) (hcode : Cond.code y bytes maxL none ∈ GW)
    (hd : (y.cls ≠ "java/lang/invoke/MethodHandle" ∧ y.cls ≠ "java/lang/invoke/VarHandle") ∧ (parseMethodDescriptor y.desc).map (fun d => d.parameters.length) = some n) (hR : fr + 1 ≤ R.frames ∧ 8 + (maxL + 11) + lo ≤ R.locals)
    (hn : As.length = n) (hsize : ls.size = nL) (hstack : st0 = As.reverse ++ .ref b :: rest) (hW : 2 * (F0 m pc ls st0).monitorRoom + (rest.map fun v => v.category).sum ≤ 8) (hdg : decode cc pc = .ok (.invokespecial index, 3)) (hf : cells + rc ≤ R.cells ∧ slots + rs ≤ R.slots) :
    ky_Run p l e R s m args below meth c H locs cells slots mc ms mx sx (F0 m pc ls st0) rest (Qc (Value.ref b :: As).toArray) (XX G A px) A := by
  obtain ⟨mk, methM, hnamed, -⟩ := Cond.instanceMethod_spec (ht _ hinst)
  refine kx_run (k_back ht hcode hini hR hM) rfl (hsize.trans hml.symm) (by rw [hb]; exact hdg) hW hnamed hf (fun U hU hWU => ⟨rfl, hw.to hU hWU⟩) (fun T hT X => ?_)
  have hpl : e.platform.magicAccessors = ({} : Platform).magicAccessors := by rw [X.admits.platform]
  obtain ⟨mk', methM', cM, kP, vm₁, hnamed', hmethM', hcodeM, -, hlocalsM, -, hkP, -, hW₁, hstep₁⟩ := Steps.initColdArgs (e := e) X.here hexec X.warmed hpl hown hy1 hd.1 (ht _ hlink) (ht _ hinst) (ht _ hcode) (f := F0 m pc ls st0) rfl (k_len hd.2 hn) hstack (by rw [hb]; exact hdg)
  cases hnamed.symm.trans hnamed'
  exact ⟨vm₁, X.noted hW₁, fun target h => hstep₁ _ h⟩
/-- behind a call -/
theorem kc {post : Option Value → WT → Prop} {av : Array Value} (hr : ky_Run p l e R s m args below meth c H locs cells slots mc ms mx sx (F0 m pc ls st0) rest (KQ G A post av) (XX G A px) A) (hw : Wk G A u s H locs)
    (kx : ∀ (E : String) (ce : Cell) (q9 : Addr) (u' : WT) (H1 : Heap) (locs1 : List Loc), px E u' → Wk G A u' s H1 locs1 → H1[q9]? = some ce → ce.vm = .none → s.vm.findClass E = some ce.cls → vx_W p l e R s m args below meth c H1 locs1 (cells + mx) (slots + sx) Q (F0 m pc ls rest) q9)
    (kk : ∀ (v : Option Value) (u' : WT) (H1 : Heap) (locs1 : List Loc), post v u' → Wk G A u' s H1 locs1 → W p l e R s m args below meth c H1 locs1 (cells + mc) (slots + ms) Q (F0 m (pc + 3) ls (v.toList ++ rest))) : W p l e R s m args below meth c H locs cells slots Q (F0 m pc ls st0) := by
  intro T hT X
  rcases hr T hT X with ⟨v, st₀, t, T', L, h0, X', hL, e1, e2, ⟨⟨v', u', hv, hp, hB⟩, hF⟩, st⟩ | ⟨q, st₀, t, T', L, E, ce, h0, X', hL, e1, e2, ⟨⟨E', u'⟩, hp, ⟨hE, hB⟩, hF⟩, hce, hcv, hcl, st⟩
  · cases hv
    obtain ⟨k1, k2, k3⟩ := vx_keep h0 e1 hw.2.2.2.1 (fun _ _ h => h) (fun _ h => h) hL hF
    obtain ⟨t2, a1, b1⟩ := kk v u' T'.heap (locs ++ L) hp (hw.back hB e1.symm k3) T' rfl X'
    exact ⟨t2, st t2 a1, b1⟩
  · obtain ⟨k1, k2, k3⟩ := vx_keep h0 e1 hw.2.2.2.1 (fun _ _ h => h) (fun _ h => h) hL hF
    dsimp only at hE hB hp
    subst hE
    obtain ⟨t2, a1, b1⟩ := kx E ce q u' T'.heap (locs ++ L) hp (hw.back hB e1.symm k3) (by rw [e1]; exact hce) hcv hcl T' rfl X'
    exact ⟨t2, st.trans a1, b1⟩
theorem kc_v {post : WT → Prop} {av : Array Value} (hr : ky_Run p l e R s m args below meth c H locs cells slots mc ms mx sx (F0 m pc ls st0) rest (KQ G A (Rv post) av) (XX G A px) A) (hw : Wk G A u s H locs)
    (kx : ∀ (E : String) (ce : Cell) (q9 : Addr) (u' : WT) (H1 : Heap) (locs1 : List Loc), px E u' → Wk G A u' s H1 locs1 → H1[q9]? = some ce → ce.vm = .none → s.vm.findClass E = some ce.cls → vx_W p l e R s m args below meth c H1 locs1 (cells + mx) (slots + sx) Q (F0 m pc ls rest) q9)
    (kk : ∀ (u' : WT) (H1 : Heap) (locs1 : List Loc), post u' → Wk G A u' s H1 locs1 → W p l e R s m args below meth c H1 locs1 (cells + mc) (slots + ms) Q (F0 m (pc + 3) ls rest)) : W p l e R s m args below meth c H locs cells slots Q (F0 m pc ls st0) :=
  kc hr hw kx (fun v u' H1 locs1 hp hw' => by obtain ⟨rfl, hp⟩ := hp; exact kk u' H1 locs1 hp hw')
theorem kc_i {post : Int32 → WT → Prop} {av : Array Value} (hr : ky_Run p l e R s m args below meth c H locs cells slots mc ms mx sx (F0 m pc ls st0) rest (KQ G A (Ri post) av) (XX G A px) A) (hw : Wk G A u s H locs)
    (kx : ∀ (E : String) (ce : Cell) (q9 : Addr) (u' : WT) (H1 : Heap) (locs1 : List Loc), px E u' → Wk G A u' s H1 locs1 → H1[q9]? = some ce → ce.vm = .none → s.vm.findClass E = some ce.cls → vx_W p l e R s m args below meth c H1 locs1 (cells + mx) (slots + sx) Q (F0 m pc ls rest) q9)
    (kk : ∀ (r : Int32) (u' : WT) (H1 : Heap) (locs1 : List Loc), post r u' → Wk G A u' s H1 locs1 → W p l e R s m args below meth c H1 locs1 (cells + mc) (slots + ms) Q (F0 m (pc + 3) ls (.int r :: rest))) : W p l e R s m args below meth c H locs cells slots Q (F0 m pc ls st0) :=
  kc hr hw kx (fun v u' H1 locs1 hp hw' => by obtain ⟨r, rfl, hp⟩ := hp; exact kk r u' H1 locs1 hp hw')
theorem kc_l {post : Int64 → WT → Prop} {av : Array Value} (hr : ky_Run p l e R s m args below meth c H locs cells slots mc ms mx sx (F0 m pc ls st0) rest (KQ G A (Rl post) av) (XX G A px) A) (hw : Wk G A u s H locs)
    (kx : ∀ (E : String) (ce : Cell) (q9 : Addr) (u' : WT) (H1 : Heap) (locs1 : List Loc), px E u' → Wk G A u' s H1 locs1 → H1[q9]? = some ce → ce.vm = .none → s.vm.findClass E = some ce.cls → vx_W p l e R s m args below meth c H1 locs1 (cells + mx) (slots + sx) Q (F0 m pc ls rest) q9)
    (kk : ∀ (r : Int64) (u' : WT) (H1 : Heap) (locs1 : List Loc), post r u' → Wk G A u' s H1 locs1 → W p l e R s m args below meth c H1 locs1 (cells + mc) (slots + ms) Q (F0 m (pc + 3) ls (.long r :: rest))) : W p l e R s m args below meth c H locs cells slots Q (F0 m pc ls st0) :=
  kc hr hw kx (fun v u' H1 locs1 hp hw' => by obtain ⟨r, rfl, hp⟩ := hp; exact kk r u' H1 locs1 hp hw')
theorem kc_d {post : UInt64 → WT → Prop} {av : Array Value} (hr : ky_Run p l e R s m args below meth c H locs cells slots mc ms mx sx (F0 m pc ls st0) rest (KQ G A (Rd post) av) (XX G A px) A) (hw : Wk G A u s H locs)
    (kx : ∀ (E : String) (ce : Cell) (q9 : Addr) (u' : WT) (H1 : Heap) (locs1 : List Loc), px E u' → Wk G A u' s H1 locs1 → H1[q9]? = some ce → ce.vm = .none → s.vm.findClass E = some ce.cls → vx_W p l e R s m args below meth c H1 locs1 (cells + mx) (slots + sx) Q (F0 m pc ls rest) q9)
    (kk : ∀ (r : UInt64) (u' : WT) (H1 : Heap) (locs1 : List Loc), post r u' → Wk G A u' s H1 locs1 → W p l e R s m args below meth c H1 locs1 (cells + mc) (slots + ms) Q (F0 m (pc + 3) ls (.double r :: rest))) : W p l e R s m args below meth c H locs cells slots Q (F0 m pc ls st0) :=
  kc hr hw kx (fun v u' H1 locs1 hp hw' => by obtain ⟨r, rfl, hp⟩ := hp; exact kk r u' H1 locs1 hp hw')
theorem kc_a {post : Nat → WT → Prop} {av : Array Value} (hr : ky_Run p l e R s m args below meth c H locs cells slots mc ms mx sx (F0 m pc ls st0) rest (KQ G A (Ra post) av) (XX G A px) A) (hw : Wk G A u s H locs)
    (kx : ∀ (E : String) (ce : Cell) (q9 : Addr) (u' : WT) (H1 : Heap) (locs1 : List Loc), px E u' → Wk G A u' s H1 locs1 → H1[q9]? = some ce → ce.vm = .none → s.vm.findClass E = some ce.cls → vx_W p l e R s m args below meth c H1 locs1 (cells + mx) (slots + sx) Q (F0 m pc ls rest) q9)
    (kk : ∀ (r : Nat) (u' : WT) (H1 : Heap) (locs1 : List Loc), post r u' → Wk G A u' s H1 locs1 → W p l e R s m args below meth c H1 locs1 (cells + mc) (slots + ms) Q (F0 m (pc + 3) ls (.ref r :: rest))) : W p l e R s m args below meth c H locs cells slots Q (F0 m pc ls st0) :=
  kc hr hw kx (fun v u' H1 locs1 hp hw' => by obtain ⟨r, rfl, hp⟩ := hp; exact kk r u' H1 locs1 hp hw')
theorem kc_q {post : Option Nat → WT → Prop} {av : Array Value} (hr : ky_Run p l e R s m args below meth c H locs cells slots mc ms mx sx (F0 m pc ls st0) rest (KQ G A (Rq post) av) (XX G A px) A) (hw : Wk G A u s H locs)
    (kx : ∀ (E : String) (ce : Cell) (q9 : Addr) (u' : WT) (H1 : Heap) (locs1 : List Loc), px E u' → Wk G A u' s H1 locs1 → H1[q9]? = some ce → ce.vm = .none → s.vm.findClass E = some ce.cls → vx_W p l e R s m args below meth c H1 locs1 (cells + mx) (slots + sx) Q (F0 m pc ls rest) q9)
    (kk : ∀ (r : Option Nat) (u' : WT) (H1 : Heap) (locs1 : List Loc), post r u' → Wk G A u' s H1 locs1 → W p l e R s m args below meth c H1 locs1 (cells + mc) (slots + ms) Q (F0 m (pc + 3) ls (va_rf r :: rest))) : W p l e R s m args below meth c H locs cells slots Q (F0 m pc ls st0) :=
  kc hr hw kx (fun v u' H1 locs1 hp hw' => by obtain ⟨r, rfl, hp⟩ := hp; exact kk r u' H1 locs1 hp hw')
/-- no throw comes out of what can't throw -/
theorem k_nx {q9 : Addr} {H1 : Heap} {locs1 : List Loc} {k n : Nat} : ∀ (E : String) (ce : Cell) (q9 : Addr) (u' : WT) (H1 : Heap) (locs1 : List Loc), NX E u' → Wk G A u' s H1 locs1 → H1[q9]? = some ce → ce.vm = .none → s.vm.findClass E = some ce.cls → vx_W p l e R s m args below meth c H1 locs1 k n Q (F0 m pc ls rest) q9 := fun _ _ _ _ _ _ h => h.elim
/-! ends -/
theorem ky_ret {g : JFrame} (k : W p l e R s m args below meth c H locs cells slots (MQ below Qc args s mc ms free) g) : W p l e R s m args below meth c H locs cells slots (ky_MQ below Qc XC args s mc ms mx sx free) g := by
  intro T hT X
  obtain ⟨t, a1, o, b1, b2, b3, b4⟩ := k T hT X
  exact ⟨t, a1, o, b1, b2, Or.inl ⟨b3, b4⟩⟩
theorem ky_thr {t : State} (h : vx_MQ below (fun _ _ _ _ => False) XC args s mx sx free t) : ky_MQ below Qc XC args s mc ms mx sx free t := by
  obtain ⟨o, b1, b2, b3⟩ := h
  rcases b3 with ⟨h, -⟩ | h
  · exact h.elim
  · exact ⟨o, b1, b2, Or.inr h⟩
theorem kt_i {post : Int32 → WT → Prop} {v : Int32} (hexec : p.tables.exec = Jvm.exec) (hb : c.code = cc) (hr : meth.sig.returnType = some .int) (hlocks : meth.locks = false) (hw : Wk G A u s H locs) (hdg : decode cc pc = .ok (.ireturn, 1)) (hp : post v u) (hc : cells ≤ mc) (hs : slots ≤ ms) :
    W p l e R s m args below meth c H locs cells slots (ky_MQ below (KQ G A (Ri post)) (XX G A px) args s mc ms mx sx A) (F0 m pc ls [.int v]) :=
  ky_ret (W.widen hc hs (W.iret hexec hb hr (fun t ht hW => ⟨⟨some (.int v), u, rfl, ⟨v, rfl, hp⟩, hw.out ht⟩, hw.2.2.2.1.F ht⟩) hw.2.2.2.1.2.2 hdg hlocks))
theorem kt_z {post : Int32 → WT → Prop} {v : Int32} (hexec : p.tables.exec = Jvm.exec) (hb : c.code = cc) (hr : meth.sig.returnType = some .boolean) (hlocks : meth.locks = false) (hw : Wk G A u s H locs) (hdg : decode cc pc = .ok (.ireturn, 1)) (hp : post v u) (hz : v = 0 ∨ v = 1) (hc : cells ≤ mc) (hs : slots ≤ ms) :
    W p l e R s m args below meth c H locs cells slots (ky_MQ below (KQ G A (Ri post)) (XX G A px) args s mc ms mx sx A) (F0 m pc ls [.int v]) :=
  ky_ret (W.widen hc hs (W.zret hexec hb hr (by rcases hz with h | h <;> subst h <;> decide) (fun t ht hW => ⟨⟨some (.int v), u, rfl, ⟨v, rfl, hp⟩, hw.out ht⟩, hw.2.2.2.1.F ht⟩) hw.2.2.2.1.2.2 hdg hlocks))
theorem kt_l {post : Int64 → WT → Prop} {v : Int64} (hexec : p.tables.exec = Jvm.exec) (hb : c.code = cc) (hr : meth.sig.returnType = some .long) (hlocks : meth.locks = false) (hw : Wk G A u s H locs) (hdg : decode cc pc = .ok (.lreturn, 1)) (hp : post v u) (hc : cells ≤ mc) (hs : slots ≤ ms) :
    W p l e R s m args below meth c H locs cells slots (ky_MQ below (KQ G A (Rl post)) (XX G A px) args s mc ms mx sx A) (F0 m pc ls [.long v]) :=
  ky_ret (W.widen hc hs (W.lret hexec hb hr (fun t ht hW => ⟨⟨some (.long v), u, rfl, ⟨v, rfl, hp⟩, hw.out ht⟩, hw.2.2.2.1.F ht⟩) hw.2.2.2.1.2.2 hdg hlocks))
theorem kt_d {post : UInt64 → WT → Prop} {v : UInt64} (hexec : p.tables.exec = Jvm.exec) (hb : c.code = cc) (hr : meth.sig.returnType = some .double) (hlocks : meth.locks = false) (hw : Wk G A u s H locs) (hdg : decode cc pc = .ok (.dreturn, 1)) (hp : post v u) (hc : cells ≤ mc) (hs : slots ≤ ms) :
    W p l e R s m args below meth c H locs cells slots (ky_MQ below (KQ G A (Rd post)) (XX G A px) args s mc ms mx sx A) (F0 m pc ls [.double v]) :=
  ky_ret (W.widen hc hs (W.dret hexec hb hr (fun t ht hW => ⟨⟨some (.double v), u, rfl, ⟨v, rfl, hp⟩, hw.out ht⟩, hw.2.2.2.1.F ht⟩) hw.2.2.2.1.2.2 hdg hlocks))
theorem kt_v {post : WT → Prop} (hexec : p.tables.exec = Jvm.exec) (hb : c.code = cc) (hr : meth.sig.returnType = none) (hlocks : meth.locks = false) (hw : Wk G A u s H locs) (hdg : decode cc pc = .ok (.return_, 1)) (hp : post u) (hc : cells ≤ mc) (hs : slots ≤ ms) :
    W p l e R s m args below meth c H locs cells slots (ky_MQ below (KQ G A (Rv post)) (XX G A px) args s mc ms mx sx A) (F0 m pc ls []) :=
  ky_ret (W.widen hc hs (W.vret hexec hb hr (fun t ht hW => ⟨⟨none, u, rfl, ⟨rfl, hp⟩, hw.out ht⟩, hw.2.2.2.1.F ht⟩) hw.2.2.2.1.2.2 hdg hlocks))
theorem kt_a {post : Nat → WT → Prop} {v : Nat} {n : String} (hexec : p.tables.exec = Jvm.exec) (hb : c.code = cc) (hr : meth.sig.returnType = some (.object n)) (hlocks : meth.locks = false) (hw : Wk G A u s H locs) (hdg : decode cc pc = .ok (.areturn, 1)) (hp : post v u) (hc : cells ≤ mc) (hs : slots ≤ ms) :
    W p l e R s m args below meth c H locs cells slots (ky_MQ below (KQ G A (Ra post)) (XX G A px) args s mc ms mx sx A) (F0 m pc ls [.ref v]) :=
  ky_ret (W.widen hc hs (W.aret hexec hb hr (Or.inl ⟨n, rfl⟩) (Or.inr ⟨v, rfl⟩) (fun t ht hW => ⟨⟨some (.ref v), u, rfl, ⟨v, rfl, hp⟩, hw.out ht⟩, hw.2.2.2.1.F ht⟩) hw.2.2.2.1.2.2 hdg hlocks))
theorem kt_q {post : Option Nat → WT → Prop} {v : Option Nat} {n : String} (hexec : p.tables.exec = Jvm.exec) (hb : c.code = cc) (hr : meth.sig.returnType = some (.object n)) (hlocks : meth.locks = false) (hw : Wk G A u s H locs) (hdg : decode cc pc = .ok (.areturn, 1)) (hp : post v u) (hc : cells ≤ mc) (hs : slots ≤ ms) :
    W p l e R s m args below meth c H locs cells slots (ky_MQ below (KQ G A (Rq post)) (XX G A px) args s mc ms mx sx A) (F0 m pc ls [va_rf v]) :=
  ky_ret (W.widen hc hs (W.aret hexec hb hr (Or.inl ⟨n, rfl⟩) (va_rf_or v) (fun t ht hW => ⟨⟨some (va_rf v), u, rfl, ⟨v, rfl, hp⟩, hw.out ht⟩, hw.2.2.2.1.F ht⟩) hw.2.2.2.1.2.2 hdg hlocks))
/-- a throw of the callee goes on to the caller -/
theorem kt_out {E : String} {ce : Cell} {q : Addr} (htab : ∀ x ∈ c.exceptionTable.toList, False) (hlocks : meth.locks = false) (hw : Wk G A u s H locs) (hcell : H[q]? = some ce) (hv : ce.vm = .none) (hcl : s.vm.findClass E = some ce.cls) (hp : px E u) (hc : cells ≤ mx) (hs : slots ≤ sx) :
    vx_W p l e R s m args below meth c H locs cells slots (ky_MQ below Qc (XX G A px) args s mc ms mx sx A) (F0 m pc ls rest) q := by
  intro T hT X
  obtain ⟨t, a1, b1⟩ := vx_out (Qc := fun _ _ _ _ => False) (XC := XX G A px) (free := A) (mc := mx) (ms := sx) (pc := pc) (ls := ls) (rest := rest) (fun x hx => (htab x hx).elim) hlocks hcell hv hcl (fun t ht _ => ⟨(E, u), hp, ⟨rfl, hw.out ht⟩, hw.2.2.2.1.F ht⟩) hw.2.2.2.1.2.2 hc hs T hT X
  exact ⟨t, a1, ky_thr b1⟩
/-- 'throw new E("text")' -/
theorem kt_throw (k : Nat) {text cls : String} {is ik ic : Nat} (hl : l.stackTraces = false) (hexec : p.tables.exec = Jvm.exec) (hb : c.code = cc) (htab : ∀ x ∈ c.exceptionTable.toList, False) (hlocks : meth.locks = false) (hml : c.maxLocals = nL) (hsz : ls.size = nL) (ht : ∀ w ∈ GW, w.before args s = true) (hown : s.vm.findClass own = some m.cls) (hw : Wk G A u s H locs)
    (hfit : Bundle.fit cls = true) (hk : Cond.classLink own ik cls ∈ GW) (hini : Cond.initialized cls ∈ GW) (hstr : strs[k]? = some (own, is, text)) (hat : ∀ w ∈ vx_atS own ic cls ["java/lang/RuntimeException", "java/lang/Exception"], w ∈ GW ∨ w ∈ EW)
    (d0 : decode cc pc = .ok (.new ik, 3)) (d3 : decode cc (pc + 3) = .ok (.dup, 1)) (d4 : decode cc (pc + 4) = .ok (.ldc is, 2)) (d6 : decode cc (pc + 6) = .ok (.invokespecial ic, 3)) (d9 : decode cc (pc + 9) = .ok (.athrow, 1))
    (hRf : 5 < R.frames) (hRl : (rest.map fun v => v.category).sum + 82 ≤ R.locals) (hRc : cells + 1 ≤ R.cells) (hRs : slots + 6 ≤ R.slots) (hp : px cls u) (hc : cells + 1 ≤ mx) (hs : slots + 6 ≤ sx) :
    W p l e R s m args below meth c H locs cells slots (ky_MQ below Qc (XX G A px) args s mc ms mx sx A) (F0 m pc ls rest) := by
  intro T hT X
  have gd : ∀ w ∈ GW, vx_ot w = true := fun w hw => by simp only [vx_ot, List.all_eq_true.mp GW_good w hw, Bool.or_true]
  have hA1 : ∀ w ∈ vx_atS own ic cls ["java/lang/RuntimeException", "java/lang/Exception"], w.before args s = true := fun w hw' => by
    rcases hat w hw' with h | h
    · exact ht w h
    · exact va_Nw.use (EW_tab h) (hw.1.2.2.2.2.1 w h)
  have hA2 : ∀ w ∈ Cond.classLink own ik cls :: Cond.initialized cls :: vx_atS own ic cls ["java/lang/RuntimeException", "java/lang/Exception"], vx_ot w = true := fun w hw' => by
    rcases List.mem_cons.mp hw' with h | h
    · rw [h]; exact gd _ hk
    · rcases List.mem_cons.mp h with h | h
      · rw [h]; exact gd _ hini
      · rcases hat w h with h | h
        · exact gd _ h
        · simp only [vx_ot, EW_tab h, Bool.true_or]
  have hA3 : ∀ t : State, s.vm.Alike t.vm → H.size ≤ t.heap.size → (∀ q : Nat, q < H.size → t.heap[q]? = H[q]?) → XX G A px cls s t := fun t hal hz hq =>
    ⟨(cls, u), hp, ⟨rfl, hw.2.1.kept (fun k x hx => hq x.1 (hw.2.1 k x hx).lt), hw.2.2.1⟩, Nat.le_trans hw.2.2.2.1.1 hz, fun q h1 h2 => by rw [hq q (Nat.lt_of_lt_of_le h1 hw.2.2.2.1.1)]; exact hw.2.2.2.1.2.1 q h1 h2⟩
  obtain ⟨t, a1, b1⟩ := vx_throwS (Qc := fun _ _ _ _ => False) (XC := XX G A px) (free := A) (own := own) (cls := cls) (text := text) (names := ["java/lang/RuntimeException", "java/lang/Exception"]) (ik := ik) (is := is) (ic := ic) (sa := G.2.2.1 k) (A := A) (mc := mx) (ms := sx) (rest := rest) (ls := ls) hexec hb hl hown hfit (by decide) (ht _ hk) (ht _ hini) (hw.1.2.2.2.1 k _ hstr) hA1 hA2 hw.1.2.1 hw.1.2.2.1 hw.2.2.2.1 (hsz.trans hml.symm) d0 d3 d4 d6 d9 (fun x hx => (htab x hx).elim) hRf hRl hRc hRs hlocks hA3 hw.2.2.2.1.2.2 hc hs T hT X
  exact ⟨t, a1, ky_thr b1⟩
/-- the same, the text by a wide index -/
theorem kt_throwW (k : Nat) {text cls : String} {is ik ic : Nat} (hl : l.stackTraces = false) (hexec : p.tables.exec = Jvm.exec) (hb : c.code = cc) (htab : ∀ x ∈ c.exceptionTable.toList, False) (hlocks : meth.locks = false) (hml : c.maxLocals = nL) (hsz : ls.size = nL) (ht : ∀ w ∈ GW, w.before args s = true) (hown : s.vm.findClass own = some m.cls) (hw : Wk G A u s H locs)
    (hfit : Bundle.fit cls = true) (hk : Cond.classLink own ik cls ∈ GW) (hini : Cond.initialized cls ∈ GW) (hstr : strs[k]? = some (own, is, text)) (hat : ∀ w ∈ vx_atS own ic cls ["java/lang/RuntimeException", "java/lang/Exception"], w ∈ GW ∨ w ∈ EW)
    (d0 : decode cc pc = .ok (.new ik, 3)) (d3 : decode cc (pc + 3) = .ok (.dup, 1)) (d4 : decode cc (pc + 4) = .ok (.ldc_w is, 3)) (d6 : decode cc (pc + 7) = .ok (.invokespecial ic, 3)) (d9 : decode cc (pc + 10) = .ok (.athrow, 1))
    (hRf : 5 < R.frames) (hRl : (rest.map fun v => v.category).sum + 82 ≤ R.locals) (hRc : cells + 1 ≤ R.cells) (hRs : slots + 6 ≤ R.slots) (hp : px cls u) (hc : cells + 1 ≤ mx) (hs : slots + 6 ≤ sx) :
    W p l e R s m args below meth c H locs cells slots (ky_MQ below Qc (XX G A px) args s mc ms mx sx A) (F0 m pc ls rest) := by
  intro T hT X
  have gd : ∀ w ∈ GW, vx_ot w = true := fun w hw => by simp only [vx_ot, List.all_eq_true.mp GW_good w hw, Bool.or_true]
  have hA1 : ∀ w ∈ vx_atS own ic cls ["java/lang/RuntimeException", "java/lang/Exception"], w.before args s = true := fun w hw' => by
    rcases hat w hw' with h | h
    · exact ht w h
    · exact va_Nw.use (EW_tab h) (hw.1.2.2.2.2.1 w h)
  have hA2 : ∀ w ∈ Cond.classLink own ik cls :: Cond.initialized cls :: vx_atS own ic cls ["java/lang/RuntimeException", "java/lang/Exception"], vx_ot w = true := fun w hw' => by
    rcases List.mem_cons.mp hw' with h | h
    · rw [h]; exact gd _ hk
    · rcases List.mem_cons.mp h with h | h
      · rw [h]; exact gd _ hini
      · rcases hat w h with h | h
        · exact gd _ h
        · simp only [vx_ot, EW_tab h, Bool.true_or]
  have hA3 : ∀ t : State, s.vm.Alike t.vm → H.size ≤ t.heap.size → (∀ q : Nat, q < H.size → t.heap[q]? = H[q]?) → XX G A px cls s t := fun t hal hz hq =>
    ⟨(cls, u), hp, ⟨rfl, hw.2.1.kept (fun k x hx => hq x.1 (hw.2.1 k x hx).lt), hw.2.2.1⟩, Nat.le_trans hw.2.2.2.1.1 hz, fun q h1 h2 => by rw [hq q (Nat.lt_of_lt_of_le h1 hw.2.2.2.1.1)]; exact hw.2.2.2.1.2.1 q h1 h2⟩
  obtain ⟨t, a1, b1⟩ := vx_throwSW (Qc := fun _ _ _ _ => False) (XC := XX G A px) (free := A) (own := own) (cls := cls) (text := text) (names := ["java/lang/RuntimeException", "java/lang/Exception"]) (ik := ik) (is := is) (ic := ic) (sa := G.2.2.1 k) (A := A) (mc := mx) (ms := sx) (rest := rest) (ls := ls) hexec hb hl hown hfit (by decide) (ht _ hk) (ht _ hini) (hw.1.2.2.2.1 k _ hstr) hA1 hA2 hw.1.2.1 hw.1.2.2.1 hw.2.2.2.1 (hsz.trans hml.symm) d0 d3 d4 d6 d9 (fun x hx => (htab x hx).elim) hRf hRl hRc hRs hlocks hA3 hw.2.2.2.1.2.2 hc hs T hT X
  exact ⟨t, a1, ky_thr b1⟩
end KCalls
end
section
/-! 08.state: the state as mathematics, and its image in the heap -/
abbrev QS : Type := (Nat) × (Nat → Nat) × (Nat → Int64) × (Nat → Bool) × (Nat → Bool) × (Nat → Bool) × (Nat → Int32) × (Nat → Nat → Option Nat) × (Nat → Int64) × (Nat → Int64) × (Nat → Int32) × (Nat → Int32) × (Nat → Int32) × (Nat → Bool) × (Nat → Nat) × (Nat → Int32) × (Int32) × (Int32) × (Int32)
def q_n (s : QS) : Nat := s.1
def q_so (s : QS) : Nat → Nat := s.2.1
def q_am (s : QS) : Nat → Int64 := s.2.2.1
def q_va (s : QS) : Nat → Bool := s.2.2.2.1
def q_fr (s : QS) : Nat → Bool := s.2.2.2.2.1
def q_mi (s : QS) : Nat → Bool := s.2.2.2.2.2.1
def q_tw (s : QS) : Nat → Int32 := s.2.2.2.2.2.2.1
def q_pt (s : QS) : Nat → Nat → Option Nat := s.2.2.2.2.2.2.2.1
def q_wa (s : QS) : Nat → Int64 := s.2.2.2.2.2.2.2.2.1
def q_wb (s : QS) : Nat → Int64 := s.2.2.2.2.2.2.2.2.2.1
def q_kd (s : QS) : Nat → Int32 := s.2.2.2.2.2.2.2.2.2.2.1
def q_sp (s : QS) : Nat → Int32 := s.2.2.2.2.2.2.2.2.2.2.2.1
def q_ch (s : QS) : Nat → Int32 := s.2.2.2.2.2.2.2.2.2.2.2.2.1
def q_us (s : QS) : Nat → Bool := s.2.2.2.2.2.2.2.2.2.2.2.2.2.1
def q_en (s : QS) : Nat → Nat := s.2.2.2.2.2.2.2.2.2.2.2.2.2.2.1
def q_sz (s : QS) : Nat → Int32 := s.2.2.2.2.2.2.2.2.2.2.2.2.2.2.2.1
def q_tl (s : QS) : Int32 := s.2.2.2.2.2.2.2.2.2.2.2.2.2.2.2.2.1
def q_wk (s : QS) : Int32 := s.2.2.2.2.2.2.2.2.2.2.2.2.2.2.2.2.2.1
def q_fl (s : QS) : Int32 := s.2.2.2.2.2.2.2.2.2.2.2.2.2.2.2.2.2.2
def qS_n (s : QS) (x : Nat) : QS := (x, s.2.1, s.2.2.1, s.2.2.2.1, s.2.2.2.2.1, s.2.2.2.2.2.1, s.2.2.2.2.2.2.1, s.2.2.2.2.2.2.2.1, s.2.2.2.2.2.2.2.2.1, s.2.2.2.2.2.2.2.2.2.1, s.2.2.2.2.2.2.2.2.2.2.1, s.2.2.2.2.2.2.2.2.2.2.2.1, s.2.2.2.2.2.2.2.2.2.2.2.2.1, s.2.2.2.2.2.2.2.2.2.2.2.2.2.1, s.2.2.2.2.2.2.2.2.2.2.2.2.2.2.1, s.2.2.2.2.2.2.2.2.2.2.2.2.2.2.2.1, s.2.2.2.2.2.2.2.2.2.2.2.2.2.2.2.2.1, s.2.2.2.2.2.2.2.2.2.2.2.2.2.2.2.2.2.1, s.2.2.2.2.2.2.2.2.2.2.2.2.2.2.2.2.2.2)
def qS_so (s : QS) (x : Nat → Nat) : QS := (s.1, x, s.2.2.1, s.2.2.2.1, s.2.2.2.2.1, s.2.2.2.2.2.1, s.2.2.2.2.2.2.1, s.2.2.2.2.2.2.2.1, s.2.2.2.2.2.2.2.2.1, s.2.2.2.2.2.2.2.2.2.1, s.2.2.2.2.2.2.2.2.2.2.1, s.2.2.2.2.2.2.2.2.2.2.2.1, s.2.2.2.2.2.2.2.2.2.2.2.2.1, s.2.2.2.2.2.2.2.2.2.2.2.2.2.1, s.2.2.2.2.2.2.2.2.2.2.2.2.2.2.1, s.2.2.2.2.2.2.2.2.2.2.2.2.2.2.2.1, s.2.2.2.2.2.2.2.2.2.2.2.2.2.2.2.2.1, s.2.2.2.2.2.2.2.2.2.2.2.2.2.2.2.2.2.1, s.2.2.2.2.2.2.2.2.2.2.2.2.2.2.2.2.2.2)
def qS_am (s : QS) (x : Nat → Int64) : QS := (s.1, s.2.1, x, s.2.2.2.1, s.2.2.2.2.1, s.2.2.2.2.2.1, s.2.2.2.2.2.2.1, s.2.2.2.2.2.2.2.1, s.2.2.2.2.2.2.2.2.1, s.2.2.2.2.2.2.2.2.2.1, s.2.2.2.2.2.2.2.2.2.2.1, s.2.2.2.2.2.2.2.2.2.2.2.1, s.2.2.2.2.2.2.2.2.2.2.2.2.1, s.2.2.2.2.2.2.2.2.2.2.2.2.2.1, s.2.2.2.2.2.2.2.2.2.2.2.2.2.2.1, s.2.2.2.2.2.2.2.2.2.2.2.2.2.2.2.1, s.2.2.2.2.2.2.2.2.2.2.2.2.2.2.2.2.1, s.2.2.2.2.2.2.2.2.2.2.2.2.2.2.2.2.2.1, s.2.2.2.2.2.2.2.2.2.2.2.2.2.2.2.2.2.2)
def qS_va (s : QS) (x : Nat → Bool) : QS := (s.1, s.2.1, s.2.2.1, x, s.2.2.2.2.1, s.2.2.2.2.2.1, s.2.2.2.2.2.2.1, s.2.2.2.2.2.2.2.1, s.2.2.2.2.2.2.2.2.1, s.2.2.2.2.2.2.2.2.2.1, s.2.2.2.2.2.2.2.2.2.2.1, s.2.2.2.2.2.2.2.2.2.2.2.1, s.2.2.2.2.2.2.2.2.2.2.2.2.1, s.2.2.2.2.2.2.2.2.2.2.2.2.2.1, s.2.2.2.2.2.2.2.2.2.2.2.2.2.2.1, s.2.2.2.2.2.2.2.2.2.2.2.2.2.2.2.1, s.2.2.2.2.2.2.2.2.2.2.2.2.2.2.2.2.1, s.2.2.2.2.2.2.2.2.2.2.2.2.2.2.2.2.2.1, s.2.2.2.2.2.2.2.2.2.2.2.2.2.2.2.2.2.2)
def qS_fr (s : QS) (x : Nat → Bool) : QS := (s.1, s.2.1, s.2.2.1, s.2.2.2.1, x, s.2.2.2.2.2.1, s.2.2.2.2.2.2.1, s.2.2.2.2.2.2.2.1, s.2.2.2.2.2.2.2.2.1, s.2.2.2.2.2.2.2.2.2.1, s.2.2.2.2.2.2.2.2.2.2.1, s.2.2.2.2.2.2.2.2.2.2.2.1, s.2.2.2.2.2.2.2.2.2.2.2.2.1, s.2.2.2.2.2.2.2.2.2.2.2.2.2.1, s.2.2.2.2.2.2.2.2.2.2.2.2.2.2.1, s.2.2.2.2.2.2.2.2.2.2.2.2.2.2.2.1, s.2.2.2.2.2.2.2.2.2.2.2.2.2.2.2.2.1, s.2.2.2.2.2.2.2.2.2.2.2.2.2.2.2.2.2.1, s.2.2.2.2.2.2.2.2.2.2.2.2.2.2.2.2.2.2)
def qS_mi (s : QS) (x : Nat → Bool) : QS := (s.1, s.2.1, s.2.2.1, s.2.2.2.1, s.2.2.2.2.1, x, s.2.2.2.2.2.2.1, s.2.2.2.2.2.2.2.1, s.2.2.2.2.2.2.2.2.1, s.2.2.2.2.2.2.2.2.2.1, s.2.2.2.2.2.2.2.2.2.2.1, s.2.2.2.2.2.2.2.2.2.2.2.1, s.2.2.2.2.2.2.2.2.2.2.2.2.1, s.2.2.2.2.2.2.2.2.2.2.2.2.2.1, s.2.2.2.2.2.2.2.2.2.2.2.2.2.2.1, s.2.2.2.2.2.2.2.2.2.2.2.2.2.2.2.1, s.2.2.2.2.2.2.2.2.2.2.2.2.2.2.2.2.1, s.2.2.2.2.2.2.2.2.2.2.2.2.2.2.2.2.2.1, s.2.2.2.2.2.2.2.2.2.2.2.2.2.2.2.2.2.2)
def qS_tw (s : QS) (x : Nat → Int32) : QS := (s.1, s.2.1, s.2.2.1, s.2.2.2.1, s.2.2.2.2.1, s.2.2.2.2.2.1, x, s.2.2.2.2.2.2.2.1, s.2.2.2.2.2.2.2.2.1, s.2.2.2.2.2.2.2.2.2.1, s.2.2.2.2.2.2.2.2.2.2.1, s.2.2.2.2.2.2.2.2.2.2.2.1, s.2.2.2.2.2.2.2.2.2.2.2.2.1, s.2.2.2.2.2.2.2.2.2.2.2.2.2.1, s.2.2.2.2.2.2.2.2.2.2.2.2.2.2.1, s.2.2.2.2.2.2.2.2.2.2.2.2.2.2.2.1, s.2.2.2.2.2.2.2.2.2.2.2.2.2.2.2.2.1, s.2.2.2.2.2.2.2.2.2.2.2.2.2.2.2.2.2.1, s.2.2.2.2.2.2.2.2.2.2.2.2.2.2.2.2.2.2)
def qS_pt (s : QS) (x : Nat → Nat → Option Nat) : QS := (s.1, s.2.1, s.2.2.1, s.2.2.2.1, s.2.2.2.2.1, s.2.2.2.2.2.1, s.2.2.2.2.2.2.1, x, s.2.2.2.2.2.2.2.2.1, s.2.2.2.2.2.2.2.2.2.1, s.2.2.2.2.2.2.2.2.2.2.1, s.2.2.2.2.2.2.2.2.2.2.2.1, s.2.2.2.2.2.2.2.2.2.2.2.2.1, s.2.2.2.2.2.2.2.2.2.2.2.2.2.1, s.2.2.2.2.2.2.2.2.2.2.2.2.2.2.1, s.2.2.2.2.2.2.2.2.2.2.2.2.2.2.2.1, s.2.2.2.2.2.2.2.2.2.2.2.2.2.2.2.2.1, s.2.2.2.2.2.2.2.2.2.2.2.2.2.2.2.2.2.1, s.2.2.2.2.2.2.2.2.2.2.2.2.2.2.2.2.2.2)
def qS_wa (s : QS) (x : Nat → Int64) : QS := (s.1, s.2.1, s.2.2.1, s.2.2.2.1, s.2.2.2.2.1, s.2.2.2.2.2.1, s.2.2.2.2.2.2.1, s.2.2.2.2.2.2.2.1, x, s.2.2.2.2.2.2.2.2.2.1, s.2.2.2.2.2.2.2.2.2.2.1, s.2.2.2.2.2.2.2.2.2.2.2.1, s.2.2.2.2.2.2.2.2.2.2.2.2.1, s.2.2.2.2.2.2.2.2.2.2.2.2.2.1, s.2.2.2.2.2.2.2.2.2.2.2.2.2.2.1, s.2.2.2.2.2.2.2.2.2.2.2.2.2.2.2.1, s.2.2.2.2.2.2.2.2.2.2.2.2.2.2.2.2.1, s.2.2.2.2.2.2.2.2.2.2.2.2.2.2.2.2.2.1, s.2.2.2.2.2.2.2.2.2.2.2.2.2.2.2.2.2.2)
def qS_wb (s : QS) (x : Nat → Int64) : QS := (s.1, s.2.1, s.2.2.1, s.2.2.2.1, s.2.2.2.2.1, s.2.2.2.2.2.1, s.2.2.2.2.2.2.1, s.2.2.2.2.2.2.2.1, s.2.2.2.2.2.2.2.2.1, x, s.2.2.2.2.2.2.2.2.2.2.1, s.2.2.2.2.2.2.2.2.2.2.2.1, s.2.2.2.2.2.2.2.2.2.2.2.2.1, s.2.2.2.2.2.2.2.2.2.2.2.2.2.1, s.2.2.2.2.2.2.2.2.2.2.2.2.2.2.1, s.2.2.2.2.2.2.2.2.2.2.2.2.2.2.2.1, s.2.2.2.2.2.2.2.2.2.2.2.2.2.2.2.2.1, s.2.2.2.2.2.2.2.2.2.2.2.2.2.2.2.2.2.1, s.2.2.2.2.2.2.2.2.2.2.2.2.2.2.2.2.2.2)
def qS_kd (s : QS) (x : Nat → Int32) : QS := (s.1, s.2.1, s.2.2.1, s.2.2.2.1, s.2.2.2.2.1, s.2.2.2.2.2.1, s.2.2.2.2.2.2.1, s.2.2.2.2.2.2.2.1, s.2.2.2.2.2.2.2.2.1, s.2.2.2.2.2.2.2.2.2.1, x, s.2.2.2.2.2.2.2.2.2.2.2.1, s.2.2.2.2.2.2.2.2.2.2.2.2.1, s.2.2.2.2.2.2.2.2.2.2.2.2.2.1, s.2.2.2.2.2.2.2.2.2.2.2.2.2.2.1, s.2.2.2.2.2.2.2.2.2.2.2.2.2.2.2.1, s.2.2.2.2.2.2.2.2.2.2.2.2.2.2.2.2.1, s.2.2.2.2.2.2.2.2.2.2.2.2.2.2.2.2.2.1, s.2.2.2.2.2.2.2.2.2.2.2.2.2.2.2.2.2.2)
def qS_sp (s : QS) (x : Nat → Int32) : QS := (s.1, s.2.1, s.2.2.1, s.2.2.2.1, s.2.2.2.2.1, s.2.2.2.2.2.1, s.2.2.2.2.2.2.1, s.2.2.2.2.2.2.2.1, s.2.2.2.2.2.2.2.2.1, s.2.2.2.2.2.2.2.2.2.1, s.2.2.2.2.2.2.2.2.2.2.1, x, s.2.2.2.2.2.2.2.2.2.2.2.2.1, s.2.2.2.2.2.2.2.2.2.2.2.2.2.1, s.2.2.2.2.2.2.2.2.2.2.2.2.2.2.1, s.2.2.2.2.2.2.2.2.2.2.2.2.2.2.2.1, s.2.2.2.2.2.2.2.2.2.2.2.2.2.2.2.2.1, s.2.2.2.2.2.2.2.2.2.2.2.2.2.2.2.2.2.1, s.2.2.2.2.2.2.2.2.2.2.2.2.2.2.2.2.2.2)
def qS_ch (s : QS) (x : Nat → Int32) : QS := (s.1, s.2.1, s.2.2.1, s.2.2.2.1, s.2.2.2.2.1, s.2.2.2.2.2.1, s.2.2.2.2.2.2.1, s.2.2.2.2.2.2.2.1, s.2.2.2.2.2.2.2.2.1, s.2.2.2.2.2.2.2.2.2.1, s.2.2.2.2.2.2.2.2.2.2.1, s.2.2.2.2.2.2.2.2.2.2.2.1, x, s.2.2.2.2.2.2.2.2.2.2.2.2.2.1, s.2.2.2.2.2.2.2.2.2.2.2.2.2.2.1, s.2.2.2.2.2.2.2.2.2.2.2.2.2.2.2.1, s.2.2.2.2.2.2.2.2.2.2.2.2.2.2.2.2.1, s.2.2.2.2.2.2.2.2.2.2.2.2.2.2.2.2.2.1, s.2.2.2.2.2.2.2.2.2.2.2.2.2.2.2.2.2.2)
def qS_us (s : QS) (x : Nat → Bool) : QS := (s.1, s.2.1, s.2.2.1, s.2.2.2.1, s.2.2.2.2.1, s.2.2.2.2.2.1, s.2.2.2.2.2.2.1, s.2.2.2.2.2.2.2.1, s.2.2.2.2.2.2.2.2.1, s.2.2.2.2.2.2.2.2.2.1, s.2.2.2.2.2.2.2.2.2.2.1, s.2.2.2.2.2.2.2.2.2.2.2.1, s.2.2.2.2.2.2.2.2.2.2.2.2.1, x, s.2.2.2.2.2.2.2.2.2.2.2.2.2.2.1, s.2.2.2.2.2.2.2.2.2.2.2.2.2.2.2.1, s.2.2.2.2.2.2.2.2.2.2.2.2.2.2.2.2.1, s.2.2.2.2.2.2.2.2.2.2.2.2.2.2.2.2.2.1, s.2.2.2.2.2.2.2.2.2.2.2.2.2.2.2.2.2.2)
def qS_en (s : QS) (x : Nat → Nat) : QS := (s.1, s.2.1, s.2.2.1, s.2.2.2.1, s.2.2.2.2.1, s.2.2.2.2.2.1, s.2.2.2.2.2.2.1, s.2.2.2.2.2.2.2.1, s.2.2.2.2.2.2.2.2.1, s.2.2.2.2.2.2.2.2.2.1, s.2.2.2.2.2.2.2.2.2.2.1, s.2.2.2.2.2.2.2.2.2.2.2.1, s.2.2.2.2.2.2.2.2.2.2.2.2.1, s.2.2.2.2.2.2.2.2.2.2.2.2.2.1, x, s.2.2.2.2.2.2.2.2.2.2.2.2.2.2.2.1, s.2.2.2.2.2.2.2.2.2.2.2.2.2.2.2.2.1, s.2.2.2.2.2.2.2.2.2.2.2.2.2.2.2.2.2.1, s.2.2.2.2.2.2.2.2.2.2.2.2.2.2.2.2.2.2)
def qS_sz (s : QS) (x : Nat → Int32) : QS := (s.1, s.2.1, s.2.2.1, s.2.2.2.1, s.2.2.2.2.1, s.2.2.2.2.2.1, s.2.2.2.2.2.2.1, s.2.2.2.2.2.2.2.1, s.2.2.2.2.2.2.2.2.1, s.2.2.2.2.2.2.2.2.2.1, s.2.2.2.2.2.2.2.2.2.2.1, s.2.2.2.2.2.2.2.2.2.2.2.1, s.2.2.2.2.2.2.2.2.2.2.2.2.1, s.2.2.2.2.2.2.2.2.2.2.2.2.2.1, s.2.2.2.2.2.2.2.2.2.2.2.2.2.2.1, x, s.2.2.2.2.2.2.2.2.2.2.2.2.2.2.2.2.1, s.2.2.2.2.2.2.2.2.2.2.2.2.2.2.2.2.2.1, s.2.2.2.2.2.2.2.2.2.2.2.2.2.2.2.2.2.2)
def qS_tl (s : QS) (x : Int32) : QS := (s.1, s.2.1, s.2.2.1, s.2.2.2.1, s.2.2.2.2.1, s.2.2.2.2.2.1, s.2.2.2.2.2.2.1, s.2.2.2.2.2.2.2.1, s.2.2.2.2.2.2.2.2.1, s.2.2.2.2.2.2.2.2.2.1, s.2.2.2.2.2.2.2.2.2.2.1, s.2.2.2.2.2.2.2.2.2.2.2.1, s.2.2.2.2.2.2.2.2.2.2.2.2.1, s.2.2.2.2.2.2.2.2.2.2.2.2.2.1, s.2.2.2.2.2.2.2.2.2.2.2.2.2.2.1, s.2.2.2.2.2.2.2.2.2.2.2.2.2.2.2.1, x, s.2.2.2.2.2.2.2.2.2.2.2.2.2.2.2.2.2.1, s.2.2.2.2.2.2.2.2.2.2.2.2.2.2.2.2.2.2)
def qS_wk (s : QS) (x : Int32) : QS := (s.1, s.2.1, s.2.2.1, s.2.2.2.1, s.2.2.2.2.1, s.2.2.2.2.2.1, s.2.2.2.2.2.2.1, s.2.2.2.2.2.2.2.1, s.2.2.2.2.2.2.2.2.1, s.2.2.2.2.2.2.2.2.2.1, s.2.2.2.2.2.2.2.2.2.2.1, s.2.2.2.2.2.2.2.2.2.2.2.1, s.2.2.2.2.2.2.2.2.2.2.2.2.1, s.2.2.2.2.2.2.2.2.2.2.2.2.2.1, s.2.2.2.2.2.2.2.2.2.2.2.2.2.2.1, s.2.2.2.2.2.2.2.2.2.2.2.2.2.2.2.1, s.2.2.2.2.2.2.2.2.2.2.2.2.2.2.2.2.1, x, s.2.2.2.2.2.2.2.2.2.2.2.2.2.2.2.2.2.2)
def qS_fl (s : QS) (x : Int32) : QS := (s.1, s.2.1, s.2.2.1, s.2.2.2.1, s.2.2.2.2.1, s.2.2.2.2.2.1, s.2.2.2.2.2.2.1, s.2.2.2.2.2.2.2.1, s.2.2.2.2.2.2.2.2.1, s.2.2.2.2.2.2.2.2.2.1, s.2.2.2.2.2.2.2.2.2.2.1, s.2.2.2.2.2.2.2.2.2.2.2.1, s.2.2.2.2.2.2.2.2.2.2.2.2.1, s.2.2.2.2.2.2.2.2.2.2.2.2.2.1, s.2.2.2.2.2.2.2.2.2.2.2.2.2.2.1, s.2.2.2.2.2.2.2.2.2.2.2.2.2.2.2.1, s.2.2.2.2.2.2.2.2.2.2.2.2.2.2.2.2.1, s.2.2.2.2.2.2.2.2.2.2.2.2.2.2.2.2.2.1, x)
abbrev ZS : Type := (Nat → Int64) × (Nat → Bool) × (Nat → Nat → Option Nat) × (Nat → Int64) × (Nat → Int64) × (Int64)
def z_ra (s : ZS) : Nat → Int64 := s.1
def z_rv (s : ZS) : Nat → Bool := s.2.1
def z_pr (s : ZS) : Nat → Nat → Option Nat := s.2.2.1
def z_lr (s : ZS) : Nat → Int64 := s.2.2.2.1
def z_nr (s : ZS) : Nat → Int64 := s.2.2.2.2.1
def z_dw (s : ZS) : Int64 := s.2.2.2.2.2
def zS_ra (s : ZS) (x : Nat → Int64) : ZS := (x, s.2.1, s.2.2.1, s.2.2.2.1, s.2.2.2.2.1, s.2.2.2.2.2)
def zS_rv (s : ZS) (x : Nat → Bool) : ZS := (s.1, x, s.2.2.1, s.2.2.2.1, s.2.2.2.2.1, s.2.2.2.2.2)
def zS_pr (s : ZS) (x : Nat → Nat → Option Nat) : ZS := (s.1, s.2.1, x, s.2.2.2.1, s.2.2.2.2.1, s.2.2.2.2.2)
def zS_lr (s : ZS) (x : Nat → Int64) : ZS := (s.1, s.2.1, s.2.2.1, x, s.2.2.2.2.1, s.2.2.2.2.2)
def zS_nr (s : ZS) (x : Nat → Int64) : ZS := (s.1, s.2.1, s.2.2.1, s.2.2.2.1, x, s.2.2.2.2.2)
def zS_dw (s : ZS) (x : Int64) : ZS := (s.1, s.2.1, s.2.2.1, s.2.2.2.1, s.2.2.2.2.1, x)
def bI (b : Bool) : Int32 := if b then 1 else 0
theorem bI_01 (b : Bool) : bI b = 0 ∨ bI b = 1 := by cases b <;> simp [bI]
theorem bI_ne (b : Bool) : bI b ≠ 0 ↔ b = true := by cases b <;> simp [bI]
theorem bI_eq (b : Bool) : bI b = 0 ↔ b = false := by cases b <;> simp [bI]
theorem bI_nar (b : Bool) : narrow .boolean (.int (bI b)) = .int (bI b) := by cases b <;> decide
theorem bI_fit (b : Bool) : fits .boolean (.int (bI b)) = true := by cases b <;> decide
abbrev rfs (f : Nat → Option Nat) : (Nat → Int32) ⊕ (Nat → Int64) ⊕ (Nat → UInt32) ⊕ (Nat → UInt64) ⊕ (Nat → Option Nat) := .inr (.inr (.inr (.inr f)))
abbrev lgs (f : Nat → Int64) : (Nat → Int32) ⊕ (Nat → Int64) ⊕ (Nat → UInt32) ⊕ (Nat → UInt64) ⊕ (Nat → Option Nat) := .inr (.inl f)
/-- how many parts a node has -/
def np (s : QS) (j : Nat) : Nat := (if q_so s j = 0 then 0 else 2) + (if (q_pt s j 2).isSome then 1 else 0) + (if (q_pt s j 3).isSome then 1 else 0)
/-- the k-th part, without gaps -/
def cp (s : QS) (j k : Nat) : Nat := if k < 2 then (q_pt s j k).getD 0 else if k = 2 then (match q_pt s j 2 with | some x => x | none => (q_pt s j 3).getD 0) else (q_pt s j 3).getD 0
def plen (so : Nat) : Nat := if so = 0 then 0 else if so = 3 then 4 else 2
/-- a node's own fields, then its sort's -/
def ndB (lc : Nat → Nat) (s : QS) (z : ZS) (j : Nat) : List Value := [.int (nI j), .ref (lc (24 + j)), .int (nI (np s j)), .long (q_am s j), .int (bI (q_va s j)), .int (bI (q_fr s j)), .int (bI (q_mi s j)), .int (q_tw s j), .long (z_ra z j), .int (bI (z_rv z j))]
def ndX (lc : Nat → Nat) (s : QS) (j : Nat) : List Value := if q_so s j = 1 then [.long (q_wa s j), .long (q_wb s j)] else if q_so s j = 3 then [.ref (lc (8 + (q_pt s j 0).getD 0)), .ref (lc (8 + (q_pt s j 1).getD 0)), .int (q_kd s j), .long (q_wa s j), .int (q_sp s j), va_rf ((q_pt s j 2).map (fun x => lc (8 + x))), va_rf ((q_pt s j 3).map (fun x => lc (8 + x))), .int (q_ch s j), .int (bI (q_us s j)), .ref (lc (5 + q_en s j)), .int (q_sz s j)] else []
/-- what lies at the places of the class's world: 0 the object, 1 nodes, 2 engines, 3 the lattice's row, 4 the net's, 5 to 7 the engines, 8 on the nodes, 24 on their parts -/
def cQ (G : GT) (lc : Nat → Nat) (s : QS) (z : ZS) (k : Nat) : va_E :=
  if k = 0 then .inr (0, [.ref (lc 1), .ref (lc 2), .int (nI (q_n s)), .int (q_tl s), .int (q_wk s), .int (q_fl s)])
  else if k = 1 then .inl (G.2.1 4, 16, rfs (fun j => if j < q_n s then some (lc (8 + j)) else none))
  else if k = 2 then .inl (G.2.1 5, 3, rfs (fun j => if j < 3 then some (lc (5 + j)) else none))
  else if k = 3 then .inl (G.2.1 0, 21, lgs (z_lr z))
  else if k = 4 then .inl (G.2.1 0, 41, lgs (z_nr z))
  else if k = 5 then .inr (5, [.int 0, .int 0, .ref (lc 3)])
  else if k = 6 then .inr (6, [.int 0, .int 6, .long (z_dw z)])
  else if k = 7 then .inr (7, [.int 1, .int 20, .ref (lc 4)])
  else if k < 24 then .inr (q_so s (k - 8) + 1, ndB lc s z (k - 8) ++ ndX lc s (k - 8))
  else .inl (G.2.1 4, plen (q_so s (k - 24)), rfs (z_pr z (k - 24)))
def liv (n k : Nat) : Prop := k < 8 + n ∨ (24 ≤ k ∧ k < 24 + n)
/-- the sorts, the parts, the sizes: what every state keeps to -/
def okQ (s : QS) : Prop := q_n s ≤ 16 ∧ ∀ j, j < q_n s → q_so s j < 4 ∧ (∀ k, k < 2 → q_so s j ≠ 0 → ∃ x, q_pt s j k = some x ∧ x < q_n s) ∧ (q_so s j = 0 → ∀ k, q_pt s j k = none) ∧ (q_so s j ≠ 3 → q_pt s j 2 = none ∧ q_pt s j 3 = none) ∧ (∀ k x, q_pt s j k = some x → x < q_n s) ∧ q_en s j < 3
/-- the class's world holds the state -/
def rQ (G : GT) (lc : Nat → Nat) (s : QS) (z : ZS) (u : WT) : Prop :=
  okQ s ∧ (∀ k, liv (q_n s) k → lc k ∈ u.1 ∧ u.2 (lc k) = cQ G lc s z k) ∧ (∀ i j, liv (q_n s) i → liv (q_n s) j → lc i = lc j → i = j) ∧ (∀ j, j < q_n s → ∀ k, k < np s j → z_pr z j k = some (lc (8 + cp s j k)))
/-- what is not the class's stays -/
def fQ (lc : Nat → Nat) (n : Nat) (u u' : WT) : Prop := ∀ a, a ∈ u.1 → (∀ k, liv n k → lc k ≠ a) → a ∈ u'.1 ∧ u'.2 a = u.2 a
theorem fQ.rf {lc : Nat → Nat} {n : Nat} {u : WT} : fQ lc n u u := fun _ h _ => ⟨h, rfl⟩
theorem fQ.tr {lc : Nat → Nat} {n : Nat} {u v w : WT} (h : fQ lc n u v) (h' : fQ lc n v w) : fQ lc n u w := fun a ha hk => by
  obtain ⟨h1, h2⟩ := h a ha hk
  obtain ⟨h3, h4⟩ := h' a h1 hk
  exact ⟨h3, h4.trans h2⟩
theorem rQ.put {G : GT} {lc : Nat → Nat} {s s' : QS} {z z' : ZS} {u : WT} (h : rQ G lc s z u) {k : Nat} (hk : liv (q_n s) k) {x : va_E} (hx : x = cQ G lc s' z' k) (hok : okQ s') (hn : q_n s' = q_n s) (ho : ∀ i, liv (q_n s) i → i ≠ k → cQ G lc s' z' i = cQ G lc s z i)
    (hp : ∀ j, j < q_n s → ∀ k, k < np s' j → z_pr z' j k = some (lc (8 + cp s' j k))) : rQ G lc s' z' (u.1, va_up u.2 (lc k) x) ∧ fQ lc (q_n s) u (u.1, va_up u.2 (lc k) x) := by
  obtain ⟨h0, h1, h2, h3⟩ := h
  refine ⟨⟨hok, fun i hi => ?_, fun i j hi hj => h2 i j (hn ▸ hi) (hn ▸ hj), fun j hj => hp j (hn ▸ hj)⟩, fun a ha hne => ⟨ha, ?_⟩⟩
  · rw [hn] at hi
    refine ⟨(h1 i hi).1, ?_⟩
    by_cases hik : i = k
    · subst hik
      show va_up u.2 (lc i) x (lc i) = _
      rw [va_up_self, hx]
    · show va_up u.2 (lc k) x (lc i) = _
      rw [va_up_ne _ _ (fun e => hik (h2 i k hi hk e)), (h1 i hi).2, ho i hi hik]
  · exact va_up_ne _ _ (fun e => hne k hk e.symm)
theorem rQ.at {G : GT} {lc : Nat → Nat} {s : QS} {z : ZS} {u : WT} (h : rQ G lc s z u) {k : Nat} (hk : liv (q_n s) k) : lc k ∈ u.1 ∧ u.2 (lc k) = cQ G lc s z k := h.2.1 k hk
theorem liv_s {n k : Nat} (h : k < 8) : liv n k := Or.inl (by omega)
theorem liv_n {n j : Nat} (h : j < n) : liv n (8 + j) := Or.inl (by omega)
theorem liv_p {n j : Nat} (h : j < n) : liv n (24 + j) := Or.inr ⟨by omega, by omega⟩
theorem cQ_n {G : GT} {lc : Nat → Nat} {s : QS} {z : ZS} {j : Nat} (hj : j < 16) : cQ G lc s z (8 + j) = .inr (q_so s j + 1, ndB lc s z j ++ ndX lc s j) := by
  unfold cQ
  rw [if_neg (by omega), if_neg (by omega), if_neg (by omega), if_neg (by omega), if_neg (by omega), if_neg (by omega), if_neg (by omega), if_neg (by omega), if_pos (by omega), Nat.add_sub_cancel_left]
theorem cQ_p {G : GT} {lc : Nat → Nat} {s : QS} {z : ZS} {j : Nat} : cQ G lc s z (24 + j) = .inl (G.2.1 4, plen (q_so s j), rfs (z_pr z j)) := by
  unfold cQ
  rw [if_neg (by omega), if_neg (by omega), if_neg (by omega), if_neg (by omega), if_neg (by omega), if_neg (by omega), if_neg (by omega), if_neg (by omega), if_neg (by omega), Nat.add_sub_cancel_left]
/-- a walk of the class's code: the surroundings, the state, what was there at first -/
def Sk (G : GT) (A : Nat → Prop) (lc : Nat → Nat) (s : QS) (z : ZS) (n0 : Nat) (u0 u : WT) (st : State) (H : Heap) (locs : List Loc) : Prop := Wk G A u st H locs ∧ rQ G lc s z u ∧ fQ lc n0 u0 u ∧ q_n s = n0
end
section
/-! 09.rows: reads and writes of the class's fields, as steps of the state -/
section SRows
variable {p : Program} {l : Launch} {e : Env} {R : Room} {st : State} {m : MethodId} {args : Array Value} {below : List Frame} {meth : Method} {c : Code} {H : Heap} {locs : List Loc} {cells slots : Nat} {Q : State → Prop}
variable {cc : ByteArray} {pc : Nat} {ls : Array Slot} {rest : List Value} {G : GT} {A : Nat → Prop} {u0 u : WT} {lc : Nat → Nat} {s : QS} {z : ZS} {j n0 index : Nat} {own ref : String}
theorem ndB_len {lc : Nat → Nat} {s : QS} {z : ZS} {j : Nat} : (ndB lc s z j).length = 10 := rfl
theorem F_all : ∀ k, k < 10 → F_Bl k = F_Qt k ∧ F_Gr k = F_Qt k ∧ F_Op k = F_Qt k ∧ (F_Qt k).1 = "QuoteGraph$Node" := by decide
theorem k_same (ht : ∀ w ∈ GW, w.before args st = true) {o n d : String} (h : ref = o ∨ Cond.sameField ref o n d ∈ GW) : ∀ x, st.fieldFound? o n d = some x → st.fieldFound? ref n d = some x := by
  rcases h with h | h
  · subst h; exact fun _ h => h
  · exact u_same (ht _ h)
theorem Sk.nj (hw : Sk G A lc s z n0 u0 u st H locs) (hj : j < n0) : lc (8 + j) ∈ u.1 ∧ u.2 (lc (8 + j)) = .inr (q_so s j + 1, ndB lc s z j ++ ndX lc s j) ∧ q_so s j < 4 := by
  obtain ⟨-, hR, -, hn⟩ := hw
  have hj' : j < q_n s := by rw [hn]; exact hj
  have h := hR.at (liv_n hj')
  rw [cQ_n (by have := hR.1.1; omega)] at h
  exact ⟨h.1, h.2, (hR.1.2 j hj').1⟩
/-- a field that every node has -/
theorem kg_N (k : Nat) (hk : k < 10) {v : Value} (hexec : p.tables.exec = Jvm.exec) (hb : c.code = cc) (ht : ∀ w ∈ GW, w.before args st = true) (hown : st.vm.findClass own = some m.cls) (hw : Sk G A lc s z n0 u0 u st H locs) (hj : j < n0) (hlink : Cond.fieldLink own index ref (F_Qt k).2.1 (F_Qt k).2.2.1 ∈ GW) (hsame : ref = "QuoteGraph$Node" ∨ Cond.sameField ref "QuoteGraph$Node" (F_Qt k).2.1 (F_Qt k).2.2.1 ∈ GW) (hv : (ndB lc s z j)[k]? = some v) (hdg : decode cc pc = .ok (.getfield index, 3))
    (kk : W p l e R st m args below meth c H locs cells slots Q (F0 m (pc + 3) ls (v :: rest))) : W p l e R st m args below meth c H locs cells slots Q (F0 m pc ls (.ref (lc (8 + j)) :: rest)) := by
  obtain ⟨ha, he, h4⟩ := hw.nj hj
  obtain ⟨e1, e2, e3, e4⟩ := F_all k hk
  have hv' : (ndB lc s z j ++ ndX lc s j)[k]? = some v := by rw [List.getElem?_append_left (by rw [ndB_len]; exact hk)]; exact hv
  have hs := k_same ht (o := "QuoteGraph$Node") hsame
  rw [← e4] at hs
  have h5 : q_so s j = 0 ∨ q_so s j = 1 ∨ q_so s j = 2 ∨ q_so s j = 3 := by omega
  rcases h5 with h | h | h | h <;> rw [h] at he
  · exact k_get hexec hb ht i_Qt hown hw.1 ha he rfl k hk hlink hs hv' hdg kk
  · rw [← e1] at hlink hs; exact k_get hexec hb ht i_Bl hown hw.1 ha he rfl k (by omega) hlink hs hv' hdg kk
  · rw [← e2] at hlink hs; exact k_get hexec hb ht i_Gr hown hw.1 ha he rfl k hk hlink hs hv' hdg kk
  · rw [← e3] at hlink hs; exact k_get hexec hb ht i_Op hown hw.1 ha he rfl k (by omega) hlink hs hv' hdg kk
theorem kg_O (k : Nat) (hk : k < 21) (hk9 : 10 ≤ k) {v : Value} (hexec : p.tables.exec = Jvm.exec) (hb : c.code = cc) (ht : ∀ w ∈ GW, w.before args st = true) (hown : st.vm.findClass own = some m.cls) (hw : Sk G A lc s z n0 u0 u st H locs) (hj : j < n0) (h3 : q_so s j = 3) (hlink : Cond.fieldLink own index "QuoteGraph$Option" (F_Op k).2.1 (F_Op k).2.2.1 ∈ GW) (hdec : (F_Op k).1 = "QuoteGraph$Option") (hv : (ndX lc s j)[k - 10]? = some v) (hdg : decode cc pc = .ok (.getfield index, 3))
    (kk : W p l e R st m args below meth c H locs cells slots Q (F0 m (pc + 3) ls (v :: rest))) : W p l e R st m args below meth c H locs cells slots Q (F0 m pc ls (.ref (lc (8 + j)) :: rest)) := by
  obtain ⟨ha, he, -⟩ := hw.nj hj
  rw [h3] at he
  exact k_get hexec hb ht i_Op hown hw.1 ha he rfl k hk hlink (by rw [hdec]; exact fun _ h => h) (by rw [List.getElem?_append_right (by rw [ndB_len]; exact hk9), ndB_len]; exact hv) hdg kk
theorem kg_B (k : Nat) (hk : k < 12) (hk9 : 10 ≤ k) {v : Value} (hexec : p.tables.exec = Jvm.exec) (hb : c.code = cc) (ht : ∀ w ∈ GW, w.before args st = true) (hown : st.vm.findClass own = some m.cls) (hw : Sk G A lc s z n0 u0 u st H locs) (hj : j < n0) (h1 : q_so s j = 1) (hlink : Cond.fieldLink own index "QuoteGraph$Blend" (F_Bl k).2.1 (F_Bl k).2.2.1 ∈ GW) (hdec : (F_Bl k).1 = "QuoteGraph$Blend") (hv : (ndX lc s j)[k - 10]? = some v) (hdg : decode cc pc = .ok (.getfield index, 3))
    (kk : W p l e R st m args below meth c H locs cells slots Q (F0 m (pc + 3) ls (v :: rest))) : W p l e R st m args below meth c H locs cells slots Q (F0 m pc ls (.ref (lc (8 + j)) :: rest)) := by
  obtain ⟨ha, he, -⟩ := hw.nj hj
  rw [h1] at he
  exact k_get hexec hb ht i_Bl hown hw.1 ha he rfl k hk hlink (by rw [hdec]; exact fun _ h => h) (by rw [List.getElem?_append_right (by rw [ndB_len]; exact hk9), ndB_len]; exact hv) hdg kk
theorem ndX_O {lc : Nat → Nat} {s : QS} {j : Nat} (h : q_so s j = 3) : ndX lc s j = [.ref (lc (8 + (q_pt s j 0).getD 0)), .ref (lc (8 + (q_pt s j 1).getD 0)), .int (q_kd s j), .long (q_wa s j), .int (q_sp s j), va_rf ((q_pt s j 2).map (fun x => lc (8 + x))), va_rf ((q_pt s j 3).map (fun x => lc (8 + x))), .int (q_ch s j), .int (bI (q_us s j)), .ref (lc (5 + q_en s j)), .int (q_sz s j)] := by unfold ndX; rw [if_neg (by omega), if_pos h]
theorem ndX_B {lc : Nat → Nat} {s : QS} {j : Nat} (h : q_so s j = 1) : ndX lc s j = [.long (q_wa s j), .long (q_wb s j)] := by unfold ndX; rw [if_pos h]
/-- a field of the object itself -/
theorem kg_Q (k : Nat) (hk : k < 6) {v : Value} (hexec : p.tables.exec = Jvm.exec) (hb : c.code = cc) (ht : ∀ w ∈ GW, w.before args st = true) (hown : st.vm.findClass own = some m.cls) (hw : Sk G A lc s z n0 u0 u st H locs) (hlink : Cond.fieldLink own index "QuoteGraph" (F_Q k).2.1 (F_Q k).2.2.1 ∈ GW) (hdec : (F_Q k).1 = "QuoteGraph") (hv : ([.ref (lc 1), .ref (lc 2), .int (nI n0), .int (q_tl s), .int (q_wk s), .int (q_fl s)] : List Value)[k]? = some v) (hdg : decode cc pc = .ok (.getfield index, 3))
    (kk : W p l e R st m args below meth c H locs cells slots Q (F0 m (pc + 3) ls (v :: rest))) : W p l e R st m args below meth c H locs cells slots Q (F0 m pc ls (.ref (lc 0) :: rest)) := by
  obtain ⟨ha, he⟩ := hw.2.1.at (liv_s (k := 0) (by omega))
  have he' : u.2 (lc 0) = .inr (0, [.ref (lc 1), .ref (lc 2), .int (nI n0), .int (q_tl s), .int (q_wk s), .int (q_fl s)]) := by rw [he, ← hw.2.2.2]; rfl
  exact k_get hexec hb ht i_Q hown hw.1 ha he' rfl k hk hlink (by rw [hdec]; exact fun _ h => h) hv hdg kk
/-- the k-th node -/
theorem ka_nodes {i : Int32} {k : Nat} (hi : i = nI k) (hk : k < n0) (hexec : p.tables.exec = Jvm.exec) (hb : c.code = cc) (hw : Sk G A lc s z n0 u0 u st H locs) (hdg : decode cc pc = .ok (.aaload, 1))
    (kk : W p l e R st m args below meth c H locs cells slots Q (F0 m (pc + 1) ls (.ref (lc (8 + k)) :: rest))) : W p l e R st m args below meth c H locs cells slots Q (F0 m pc ls (.int i :: .ref (lc 1) :: rest)) := by
  obtain ⟨ha, he⟩ := hw.2.1.at (liv_s (k := 1) (by omega))
  have h16 : n0 ≤ 16 := by rw [← hw.2.2.2]; exact hw.2.1.1.1
  subst hi
  refine k_aldq 4 hexec hb hw.1 ha he rfl (vp_in_nI (by omega) (by omega)) hdg ?_
  rw [nI_clamp (by omega)]
  show W p l e R st m args below meth c H locs cells slots Q (F0 m (pc + 1) ls (va_rf (if k < q_n s then some (lc (8 + k)) else none) :: rest))
  rw [hw.2.2.2, if_pos hk]
  exact kk
/-- the k-th part of node j, by its place -/
theorem ka_parts {i : Int32} {k : Nat} (hi : i = nI k) (hj : j < n0) (hk : k < np s j) (hexec : p.tables.exec = Jvm.exec) (hb : c.code = cc) (hw : Sk G A lc s z n0 u0 u st H locs) (hdg : decode cc pc = .ok (.aaload, 1))
    (kk : W p l e R st m args below meth c H locs cells slots Q (F0 m (pc + 1) ls (.ref (lc (8 + cp s j k)) :: rest))) : W p l e R st m args below meth c H locs cells slots Q (F0 m pc ls (.int i :: .ref (lc (24 + j)) :: rest)) := by
  have hj' : j < q_n s := by rw [hw.2.2.2]; exact hj
  obtain ⟨ha, he⟩ := hw.2.1.at (liv_p hj')
  rw [cQ_p] at he
  obtain ⟨hok, h2⟩ := hw.2.1.1.2 j hj'
  have hl : k < plen (q_so s j) := by
    obtain ⟨-, h3, h4, -⟩ := h2
    unfold np at hk; unfold plen
    by_cases h0 : q_so s j = 0
    · rw [if_pos h0, h3 h0 2, h3 h0 3] at hk; simp at hk
    · rw [if_neg h0] at hk; rw [if_neg h0]
      by_cases h5 : q_so s j = 3
      · rw [if_pos h5]; split at hk <;> split at hk <;> omega
      · rw [if_neg h5]; obtain ⟨h6, h7⟩ := h4 h5; rw [h6, h7] at hk; simp at hk; exact hk
  have hl2 : plen (q_so s j) ≤ 4 := by unfold plen; split <;> (try split) <;> omega
  subst hi
  refine k_aldq 4 hexec hb hw.1 ha he rfl (vp_in_nI hl (by omega)) hdg ?_
  rw [nI_clamp (by omega), hw.2.1.2.2.2 j hj' k hk]
  exact kk
/-- the node's class -/
def ndC (t : Nat) : String := if t = 0 then "QuoteGraph$Quote" else if t = 1 then "QuoteGraph$Blend" else if t = 2 then "QuoteGraph$Greater" else "QuoteGraph$Option"
theorem kr_N (hw : Sk G A lc s z n0 u0 u st H locs) (hj : j < n0) : ∃ cell : Cell, H[lc (8 + j)]? = some cell ∧ cell.vm.isStatics = false ∧ st.vm.findClass (ndC (q_so s j)) = some cell.cls := by
  obtain ⟨ha, he, h4⟩ := hw.nj hj
  have h5 : q_so s j = 0 ∨ q_so s j = 1 ∨ q_so s j = 2 ∨ q_so s j = 3 := by omega
  rcases h5 with h | h | h | h <;> rw [h] at he <;> rw [h] <;> exact k_recv hw.1 ha he rfl
theorem kr_Q (hw : Sk G A lc s z n0 u0 u st H locs) : ∃ cell : Cell, H[lc 0]? = some cell ∧ cell.vm.isStatics = false ∧ st.vm.findClass "QuoteGraph" = some cell.cls := by
  obtain ⟨ha, he⟩ := hw.2.1.at (liv_s (k := 0) (by omega))
  exact k_recv hw.1 ha he rfl
/-- nothing but node j's own cell has turned -/
theorem cQ_nd {lc : Nat → Nat} {s s' : QS} {z z' : ZS} {j : Nat} (h1 : q_n s' = q_n s) (h2 : q_tl s' = q_tl s ∧ q_wk s' = q_wk s ∧ q_fl s' = q_fl s) (h3 : z_lr z' = z_lr z ∧ z_nr z' = z_nr z ∧ z_dw z' = z_dw z ∧ z_pr z' = z_pr z) (h4 : q_so s' = q_so s) (h5 : ∀ i, i ≠ j → ndB lc s' z' i = ndB lc s z i ∧ ndX lc s' i = ndX lc s i) : ∀ i, i ≠ 8 + j → cQ G lc s' z' i = cQ G lc s z i := by
  intro i hi
  obtain ⟨a1, a2, a3⟩ := h2
  obtain ⟨b1, b2, b3, b4⟩ := h3
  unfold cQ
  rw [h1, a1, a2, a3, b1, b2, b3, b4, h4]
  split; rfl
  split; rfl
  split; rfl
  split; rfl
  split; rfl
  split; rfl
  split; rfl
  split; rfl
  split
  · obtain ⟨c1, c2⟩ := h5 (i - 8) (by omega)
    rw [c1, c2]
  · rfl
/-- a write into node j's own fields -/
theorem kp_N (k : Nat) (hk : k < 10) (s' : QS) (z' : ZS) {v : Value} {ty : FieldType} (hexec : p.tables.exec = Jvm.exec) (hb : c.code = cc) (ht : ∀ w ∈ GW, w.before args st = true) (hown : st.vm.findClass own = some m.cls) (hw : Sk G A lc s z n0 u0 u st H locs) (hj : j < n0) (hlink : Cond.fieldLink own index ref (F_Qt k).2.1 (F_Qt k).2.2.1 ∈ GW) (hsame : ref = "QuoteGraph$Node" ∨ Cond.sameField ref "QuoteGraph$Node" (F_Qt k).2.1 (F_Qt k).2.2.1 ∈ GW) (hfin : (F_Qt k).2.2.2 = false) (hd : parseFieldDescriptor (F_Qt k).2.2.1 = some ty) (hn : narrow ty v = v) (hfit : fits ty v = true) (hdg : decode cc pc = .ok (.putfield index, 3))
    (hv : ndB lc s' z' j = (ndB lc s z j).set k v) (hX : ndX lc s' j = ndX lc s j) (hok : okQ s') (h1 : q_n s' = q_n s) (h2 : q_tl s' = q_tl s ∧ q_wk s' = q_wk s ∧ q_fl s' = q_fl s) (h3 : z_lr z' = z_lr z ∧ z_nr z' = z_nr z ∧ z_dw z' = z_dw z ∧ z_pr z' = z_pr z) (h4 : q_so s' = q_so s) (h5 : ∀ i, i ≠ j → ndB lc s' z' i = ndB lc s z i ∧ ndX lc s' i = ndX lc s i) (h6 : ∀ i, i < n0 → ∀ k, k < np s' i → z_pr z i k = some (lc (8 + cp s' i k)))
    (kk : ∀ (H1 : Heap) (locs1 : List Loc) (u1 : WT), Sk G A lc s' z' n0 u0 u1 st H1 locs1 → W p l e R st m args below meth c H1 locs1 cells slots Q (F0 m (pc + 3) ls rest)) : W p l e R st m args below meth c H locs cells slots Q (F0 m pc ls (v :: .ref (lc (8 + j)) :: rest)) := by
  obtain ⟨ha, he, h4'⟩ := hw.nj hj
  obtain ⟨e1, e2, e3, e4⟩ := F_all k hk
  have hs := k_same ht (o := "QuoteGraph$Node") hsame
  rw [← e4] at hs
  have hj' : j < q_n s := by rw [hw.2.2.2]; exact hj
  have hj16 : j < 16 := by have := hw.2.1.1.1; omega
  have done : ∀ (H1 : Heap) (locs1 : List Loc), Wk G A (u.1, va_up u.2 (lc (8 + j)) (.inr (q_so s j + 1, (ndB lc s z j ++ ndX lc s j).set k v))) st H1 locs1 → W p l e R st m args below meth c H1 locs1 cells slots Q (F0 m (pc + 3) ls rest) := by
    intro H1 locs1 hw1
    have hx : (.inr (q_so s j + 1, (ndB lc s z j ++ ndX lc s j).set k v) : va_E) = cQ G lc s' z' (8 + j) := by
      rw [cQ_n hj16, h4, hv, hX, List.set_append_left _ _ (by rw [ndB_len]; exact hk)]
    obtain ⟨r1, r2⟩ := hw.2.1.put (liv_n hj') hx hok h1 (fun i _ hi => cQ_nd h1 h2 h3 h4 h5 i hi) (fun i hi k hk => by rw [h3.2.2.2]; exact h6 i (by rw [← hw.2.2.2]; exact hi) k hk)
    exact kk H1 locs1 _ ⟨hw1, r1, hw.2.2.1.tr (by rw [← hw.2.2.2]; exact r2), by rw [h1]; exact hw.2.2.2⟩
  have hl : k < (ndB lc s z j ++ ndX lc s j).length := by rw [List.length_append, ndB_len]; omega
  have h5' : q_so s j = 0 ∨ q_so s j = 1 ∨ q_so s j = 2 ∨ q_so s j = 3 := by omega
  rcases h5' with h | h | h | h <;> rw [h] at he done
  · exact k_put hexec hb ht i_Qt t_Qt t_Qt_ok n_Qt hown hw.1 ha he rfl k hk hlink hs hfin hd hn hfit hl hdg done
  · rw [← e1] at hlink hs hfin hd; exact k_put hexec hb ht i_Bl t_Bl t_Bl_ok n_Bl hown hw.1 ha he rfl k (by omega) hlink hs hfin hd hn hfit hl hdg done
  · rw [← e2] at hlink hs hfin hd; exact k_put hexec hb ht i_Gr t_Gr t_Gr_ok n_Gr hown hw.1 ha he rfl k hk hlink hs hfin hd hn hfit hl hdg done
  · rw [← e3] at hlink hs hfin hd; exact k_put hexec hb ht i_Op t_Op t_Op_ok n_Op hown hw.1 ha he rfl k (by omega) hlink hs hfin hd hn hfit hl hdg done
theorem kp_amount (x : Int64) (hexec : p.tables.exec = Jvm.exec) (hb : c.code = cc) (ht : ∀ w ∈ GW, w.before args st = true) (hown : st.vm.findClass own = some m.cls) (hw : Sk G A lc s z n0 u0 u st H locs) (hj : j < n0) (hlink : Cond.fieldLink own index ref "amount" "J" ∈ GW) (hsame : ref = "QuoteGraph$Node" ∨ Cond.sameField ref "QuoteGraph$Node" "amount" "J" ∈ GW) (hdg : decode cc pc = .ok (.putfield index, 3))
    (kk : ∀ (H1 : Heap) (locs1 : List Loc) (u1 : WT), Sk G A lc (qS_am s (va_up (q_am s) j x)) (z) n0 u0 u1 st H1 locs1 → W p l e R st m args below meth c H1 locs1 cells slots Q (F0 m (pc + 3) ls rest)) : W p l e R st m args below meth c H locs cells slots Q (F0 m pc ls (.long (x) :: .ref (lc (8 + j)) :: rest)) := by
  refine kp_N 3 (by decide) (qS_am s (va_up (q_am s) j x)) (z) (ty := .long) hexec hb ht hown hw hj hlink hsame rfl (by decide +kernel) (rfl) (rfl) hdg ?_ rfl hw.2.1.1 rfl ⟨rfl, rfl, rfl⟩ ⟨rfl, rfl, rfl, rfl⟩ rfl (fun i hi => ⟨?_, rfl⟩) (fun i hi k hk => hw.2.1.2.2.2 i (by rw [hw.2.2.2]; exact hi) k hk) kk
  · show ([.int (nI j), .ref (lc (24 + j)), .int (nI (np s j)), .long (va_up (q_am s) j x j), .int (bI (q_va s j)), .int (bI (q_fr s j)), .int (bI (q_mi s j)), .int (q_tw s j), .long (z_ra z j), .int (bI (z_rv z j))] : List Value) = _
    rw [va_up_self]; rfl
  · show ([.int (nI i), .ref (lc (24 + i)), .int (nI (np s i)), .long (va_up (q_am s) j x i), .int (bI (q_va s i)), .int (bI (q_fr s i)), .int (bI (q_mi s i)), .int (q_tw s i), .long (z_ra z i), .int (bI (z_rv z i))] : List Value) = _
    rw [va_up_ne _ _ hi]; rfl
theorem kp_valid (x : Bool) (hexec : p.tables.exec = Jvm.exec) (hb : c.code = cc) (ht : ∀ w ∈ GW, w.before args st = true) (hown : st.vm.findClass own = some m.cls) (hw : Sk G A lc s z n0 u0 u st H locs) (hj : j < n0) (hlink : Cond.fieldLink own index ref "valid" "Z" ∈ GW) (hsame : ref = "QuoteGraph$Node" ∨ Cond.sameField ref "QuoteGraph$Node" "valid" "Z" ∈ GW) (hdg : decode cc pc = .ok (.putfield index, 3))
    (kk : ∀ (H1 : Heap) (locs1 : List Loc) (u1 : WT), Sk G A lc (qS_va s (va_up (q_va s) j x)) (z) n0 u0 u1 st H1 locs1 → W p l e R st m args below meth c H1 locs1 cells slots Q (F0 m (pc + 3) ls rest)) : W p l e R st m args below meth c H locs cells slots Q (F0 m pc ls (.int (bI x) :: .ref (lc (8 + j)) :: rest)) := by
  refine kp_N 4 (by decide) (qS_va s (va_up (q_va s) j x)) (z) (ty := .boolean) hexec hb ht hown hw hj hlink hsame rfl (by decide +kernel) (bI_nar x) (bI_fit x) hdg ?_ rfl hw.2.1.1 rfl ⟨rfl, rfl, rfl⟩ ⟨rfl, rfl, rfl, rfl⟩ rfl (fun i hi => ⟨?_, rfl⟩) (fun i hi k hk => hw.2.1.2.2.2 i (by rw [hw.2.2.2]; exact hi) k hk) kk
  · show ([.int (nI j), .ref (lc (24 + j)), .int (nI (np s j)), .long (q_am s j), .int (bI (va_up (q_va s) j x j)), .int (bI (q_fr s j)), .int (bI (q_mi s j)), .int (q_tw s j), .long (z_ra z j), .int (bI (z_rv z j))] : List Value) = _
    rw [va_up_self]; rfl
  · show ([.int (nI i), .ref (lc (24 + i)), .int (nI (np s i)), .long (q_am s i), .int (bI (va_up (q_va s) j x i)), .int (bI (q_fr s i)), .int (bI (q_mi s i)), .int (q_tw s i), .long (z_ra z i), .int (bI (z_rv z i))] : List Value) = _
    rw [va_up_ne _ _ hi]; rfl
theorem kp_frozen (x : Bool) (hexec : p.tables.exec = Jvm.exec) (hb : c.code = cc) (ht : ∀ w ∈ GW, w.before args st = true) (hown : st.vm.findClass own = some m.cls) (hw : Sk G A lc s z n0 u0 u st H locs) (hj : j < n0) (hlink : Cond.fieldLink own index ref "frozen" "Z" ∈ GW) (hsame : ref = "QuoteGraph$Node" ∨ Cond.sameField ref "QuoteGraph$Node" "frozen" "Z" ∈ GW) (hdg : decode cc pc = .ok (.putfield index, 3))
    (kk : ∀ (H1 : Heap) (locs1 : List Loc) (u1 : WT), Sk G A lc (qS_fr s (va_up (q_fr s) j x)) (z) n0 u0 u1 st H1 locs1 → W p l e R st m args below meth c H1 locs1 cells slots Q (F0 m (pc + 3) ls rest)) : W p l e R st m args below meth c H locs cells slots Q (F0 m pc ls (.int (bI x) :: .ref (lc (8 + j)) :: rest)) := by
  refine kp_N 5 (by decide) (qS_fr s (va_up (q_fr s) j x)) (z) (ty := .boolean) hexec hb ht hown hw hj hlink hsame rfl (by decide +kernel) (bI_nar x) (bI_fit x) hdg ?_ rfl hw.2.1.1 rfl ⟨rfl, rfl, rfl⟩ ⟨rfl, rfl, rfl, rfl⟩ rfl (fun i hi => ⟨?_, rfl⟩) (fun i hi k hk => hw.2.1.2.2.2 i (by rw [hw.2.2.2]; exact hi) k hk) kk
  · show ([.int (nI j), .ref (lc (24 + j)), .int (nI (np s j)), .long (q_am s j), .int (bI (q_va s j)), .int (bI (va_up (q_fr s) j x j)), .int (bI (q_mi s j)), .int (q_tw s j), .long (z_ra z j), .int (bI (z_rv z j))] : List Value) = _
    rw [va_up_self]; rfl
  · show ([.int (nI i), .ref (lc (24 + i)), .int (nI (np s i)), .long (q_am s i), .int (bI (q_va s i)), .int (bI (va_up (q_fr s) j x i)), .int (bI (q_mi s i)), .int (q_tw s i), .long (z_ra z i), .int (bI (z_rv z i))] : List Value) = _
    rw [va_up_ne _ _ hi]; rfl
theorem kp_missed (x : Bool) (hexec : p.tables.exec = Jvm.exec) (hb : c.code = cc) (ht : ∀ w ∈ GW, w.before args st = true) (hown : st.vm.findClass own = some m.cls) (hw : Sk G A lc s z n0 u0 u st H locs) (hj : j < n0) (hlink : Cond.fieldLink own index ref "missed" "Z" ∈ GW) (hsame : ref = "QuoteGraph$Node" ∨ Cond.sameField ref "QuoteGraph$Node" "missed" "Z" ∈ GW) (hdg : decode cc pc = .ok (.putfield index, 3))
    (kk : ∀ (H1 : Heap) (locs1 : List Loc) (u1 : WT), Sk G A lc (qS_mi s (va_up (q_mi s) j x)) (z) n0 u0 u1 st H1 locs1 → W p l e R st m args below meth c H1 locs1 cells slots Q (F0 m (pc + 3) ls rest)) : W p l e R st m args below meth c H locs cells slots Q (F0 m pc ls (.int (bI x) :: .ref (lc (8 + j)) :: rest)) := by
  refine kp_N 6 (by decide) (qS_mi s (va_up (q_mi s) j x)) (z) (ty := .boolean) hexec hb ht hown hw hj hlink hsame rfl (by decide +kernel) (bI_nar x) (bI_fit x) hdg ?_ rfl hw.2.1.1 rfl ⟨rfl, rfl, rfl⟩ ⟨rfl, rfl, rfl, rfl⟩ rfl (fun i hi => ⟨?_, rfl⟩) (fun i hi k hk => hw.2.1.2.2.2 i (by rw [hw.2.2.2]; exact hi) k hk) kk
  · show ([.int (nI j), .ref (lc (24 + j)), .int (nI (np s j)), .long (q_am s j), .int (bI (q_va s j)), .int (bI (q_fr s j)), .int (bI (va_up (q_mi s) j x j)), .int (q_tw s j), .long (z_ra z j), .int (bI (z_rv z j))] : List Value) = _
    rw [va_up_self]; rfl
  · show ([.int (nI i), .ref (lc (24 + i)), .int (nI (np s i)), .long (q_am s i), .int (bI (q_va s i)), .int (bI (q_fr s i)), .int (bI (va_up (q_mi s) j x i)), .int (q_tw s i), .long (z_ra z i), .int (bI (z_rv z i))] : List Value) = _
    rw [va_up_ne _ _ hi]; rfl
theorem kp_timesWorked (x : Int32) (hexec : p.tables.exec = Jvm.exec) (hb : c.code = cc) (ht : ∀ w ∈ GW, w.before args st = true) (hown : st.vm.findClass own = some m.cls) (hw : Sk G A lc s z n0 u0 u st H locs) (hj : j < n0) (hlink : Cond.fieldLink own index ref "timesWorked" "I" ∈ GW) (hsame : ref = "QuoteGraph$Node" ∨ Cond.sameField ref "QuoteGraph$Node" "timesWorked" "I" ∈ GW) (hdg : decode cc pc = .ok (.putfield index, 3))
    (kk : ∀ (H1 : Heap) (locs1 : List Loc) (u1 : WT), Sk G A lc (qS_tw s (va_up (q_tw s) j x)) (z) n0 u0 u1 st H1 locs1 → W p l e R st m args below meth c H1 locs1 cells slots Q (F0 m (pc + 3) ls rest)) : W p l e R st m args below meth c H locs cells slots Q (F0 m pc ls (.int (x) :: .ref (lc (8 + j)) :: rest)) := by
  refine kp_N 7 (by decide) (qS_tw s (va_up (q_tw s) j x)) (z) (ty := .int) hexec hb ht hown hw hj hlink hsame rfl (by decide +kernel) (rfl) (rfl) hdg ?_ rfl hw.2.1.1 rfl ⟨rfl, rfl, rfl⟩ ⟨rfl, rfl, rfl, rfl⟩ rfl (fun i hi => ⟨?_, rfl⟩) (fun i hi k hk => hw.2.1.2.2.2 i (by rw [hw.2.2.2]; exact hi) k hk) kk
  · show ([.int (nI j), .ref (lc (24 + j)), .int (nI (np s j)), .long (q_am s j), .int (bI (q_va s j)), .int (bI (q_fr s j)), .int (bI (q_mi s j)), .int (va_up (q_tw s) j x j), .long (z_ra z j), .int (bI (z_rv z j))] : List Value) = _
    rw [va_up_self]; rfl
  · show ([.int (nI i), .ref (lc (24 + i)), .int (nI (np s i)), .long (q_am s i), .int (bI (q_va s i)), .int (bI (q_fr s i)), .int (bI (q_mi s i)), .int (va_up (q_tw s) j x i), .long (z_ra z i), .int (bI (z_rv z i))] : List Value) = _
    rw [va_up_ne _ _ hi]; rfl
theorem kp_rememberedAmount (x : Int64) (hexec : p.tables.exec = Jvm.exec) (hb : c.code = cc) (ht : ∀ w ∈ GW, w.before args st = true) (hown : st.vm.findClass own = some m.cls) (hw : Sk G A lc s z n0 u0 u st H locs) (hj : j < n0) (hlink : Cond.fieldLink own index ref "rememberedAmount" "J" ∈ GW) (hsame : ref = "QuoteGraph$Node" ∨ Cond.sameField ref "QuoteGraph$Node" "rememberedAmount" "J" ∈ GW) (hdg : decode cc pc = .ok (.putfield index, 3))
    (kk : ∀ (H1 : Heap) (locs1 : List Loc) (u1 : WT), Sk G A lc (s) (zS_ra z (va_up (z_ra z) j x)) n0 u0 u1 st H1 locs1 → W p l e R st m args below meth c H1 locs1 cells slots Q (F0 m (pc + 3) ls rest)) : W p l e R st m args below meth c H locs cells slots Q (F0 m pc ls (.long (x) :: .ref (lc (8 + j)) :: rest)) := by
  refine kp_N 8 (by decide) (s) (zS_ra z (va_up (z_ra z) j x)) (ty := .long) hexec hb ht hown hw hj hlink hsame rfl (by decide +kernel) (rfl) (rfl) hdg ?_ rfl hw.2.1.1 rfl ⟨rfl, rfl, rfl⟩ ⟨rfl, rfl, rfl, rfl⟩ rfl (fun i hi => ⟨?_, rfl⟩) (fun i hi k hk => hw.2.1.2.2.2 i (by rw [hw.2.2.2]; exact hi) k hk) kk
  · show ([.int (nI j), .ref (lc (24 + j)), .int (nI (np s j)), .long (q_am s j), .int (bI (q_va s j)), .int (bI (q_fr s j)), .int (bI (q_mi s j)), .int (q_tw s j), .long (va_up (z_ra z) j x j), .int (bI (z_rv z j))] : List Value) = _
    rw [va_up_self]; rfl
  · show ([.int (nI i), .ref (lc (24 + i)), .int (nI (np s i)), .long (q_am s i), .int (bI (q_va s i)), .int (bI (q_fr s i)), .int (bI (q_mi s i)), .int (q_tw s i), .long (va_up (z_ra z) j x i), .int (bI (z_rv z i))] : List Value) = _
    rw [va_up_ne _ _ hi]; rfl
theorem kp_rememberedValid (x : Bool) (hexec : p.tables.exec = Jvm.exec) (hb : c.code = cc) (ht : ∀ w ∈ GW, w.before args st = true) (hown : st.vm.findClass own = some m.cls) (hw : Sk G A lc s z n0 u0 u st H locs) (hj : j < n0) (hlink : Cond.fieldLink own index ref "rememberedValid" "Z" ∈ GW) (hsame : ref = "QuoteGraph$Node" ∨ Cond.sameField ref "QuoteGraph$Node" "rememberedValid" "Z" ∈ GW) (hdg : decode cc pc = .ok (.putfield index, 3))
    (kk : ∀ (H1 : Heap) (locs1 : List Loc) (u1 : WT), Sk G A lc (s) (zS_rv z (va_up (z_rv z) j x)) n0 u0 u1 st H1 locs1 → W p l e R st m args below meth c H1 locs1 cells slots Q (F0 m (pc + 3) ls rest)) : W p l e R st m args below meth c H locs cells slots Q (F0 m pc ls (.int (bI x) :: .ref (lc (8 + j)) :: rest)) := by
  refine kp_N 9 (by decide) (s) (zS_rv z (va_up (z_rv z) j x)) (ty := .boolean) hexec hb ht hown hw hj hlink hsame rfl (by decide +kernel) (bI_nar x) (bI_fit x) hdg ?_ rfl hw.2.1.1 rfl ⟨rfl, rfl, rfl⟩ ⟨rfl, rfl, rfl, rfl⟩ rfl (fun i hi => ⟨?_, rfl⟩) (fun i hi k hk => hw.2.1.2.2.2 i (by rw [hw.2.2.2]; exact hi) k hk) kk
  · show ([.int (nI j), .ref (lc (24 + j)), .int (nI (np s j)), .long (q_am s j), .int (bI (q_va s j)), .int (bI (q_fr s j)), .int (bI (q_mi s j)), .int (q_tw s j), .long (z_ra z j), .int (bI (va_up (z_rv z) j x j))] : List Value) = _
    rw [va_up_self]; rfl
  · show ([.int (nI i), .ref (lc (24 + i)), .int (nI (np s i)), .long (q_am s i), .int (bI (q_va s i)), .int (bI (q_fr s i)), .int (bI (q_mi s i)), .int (q_tw s i), .long (z_ra z i), .int (bI (va_up (z_rv z) j x i))] : List Value) = _
    rw [va_up_ne _ _ hi]; rfl
end SRows
end
section
/-! 10.entry: a method's body gives its contract -/
theorem k_of {l : Launch} {y : MethodName} {b : ByteArray} {n : Nat} {ret : Option FieldType} {fr lo rc rs mc ms mx sx : Nat} {G : GT} {A : Nat → Prop} {u : WT} {As : List Value} {Qc : Array Value → State → Outcome → State → Prop} {px : String → WT → Prop} (hy : plainName y.cls = true) (hlen : (lg_sl As).length ≤ n)
    (body : ∀ (p : Program) (e : Env) (st : State) (m : MethodId) (below : List Frame) (meth : Method) (c : Code) (ls : Array Slot), p.tables.exec = Jvm.exec → c.code = b → meth.sig.returnType = ret → meth.locks = false → c.maxLocals = n → (∀ x ∈ c.exceptionTable.toList, False) → meth.name = y.name → st.vm.findClass y.cls = some m.cls → (∀ w ∈ GW, w.before As.toArray st = true) → Wk G A u st st.heap [] → lv_has ls n (lv_args 0 As) →
      W p l e { frames := fr, cells := rc, slots := rs, locals := lo } st m As.toArray below meth c st.heap [] 0 0 (ky_MQ below Qc (XX G A px) As.toArray st mc ms mx sx A) (F0 m 0 ls [])) : Kt l y b n ret fr lo rc rs mc ms mx sx G A u As Qc px := by
  refine MetFree.of_bodyS (code := b) (maxLocals := n) (ret := ret) hy ?_ ?_
  · intro args s m h hn
    obtain ⟨meth, c, h1, h2, h3, h4, h5, h6, -, -⟩ := Cond.code_spec hn (atoms_spec (ws := Cond.code y b n ret :: GW) h _ List.mem_cons_self)
    exact ⟨meth, c, h1, h2, h3, h4, h5, h6⟩
  · intro p e s m args below meth c s₁ B hml hP _
    obtain ⟨rfl, hWd⟩ := hP
    have hh0 : s₁.heap = s.heap := by rw [B.state]; rfl
    have hts := atoms_spec (ws := Cond.code y b n ret :: GW) B.pre
    have ht : ∀ x ∈ c.exceptionTable.toList, False := by
      obtain ⟨meth9, c9, h1, h2, -, -, -, -, h7, -⟩ := Cond.code_spec B.named (hts _ List.mem_cons_self)
      cases Option.some.inj (h1.symm.trans B.method)
      cases Option.some.inj (h2.symm.trans (Stand.of_body B).code)
      intro x hx
      rw [Array.isEmpty_iff.mp h7] at hx
      cases hx
    have K : W p l e { frames := fr, cells := rc, slots := rs, locals := lo } s m As.toArray below meth c s.heap [] 0 0 (ky_MQ below Qc (XX G A px) As.toArray s mc ms mx sx A) (entryFrame m As.toArray n) := by
      rw [lg_entry_eq]
      exact body p e s m below meth c _ B.exec B.bytes B.returns B.notSynchronized hml ht (name_of_methodNamed B.named B.method).1 (findClass_of_methodNamed B.named) (fun w h => hts w (List.mem_cons_of_mem _ h)) (Wk.start hWd) (lv_entry As hlen)
    obtain ⟨t, a1, o, b1, b2, b3⟩ := K s₁ hh0 (Stand.of_body B)
    exact ⟨t, o, a1, b1, b2, b3⟩
end
section
/-! 11.pure: small pure rows, the words of each throw -/
theorem at_Q_147 : ∀ w ∈ vx_atS R_Q 147 "java/lang/IllegalArgumentException" ["java/lang/RuntimeException", "java/lang/Exception"], w ∈ GW ∨ w ∈ EW := by
  intro w hw
  have h := List.all_eq_true.mp (show (vx_atS R_Q 147 "java/lang/IllegalArgumentException" ["java/lang/RuntimeException", "java/lang/Exception"]).all (fun w => decide (w ∈ lw_tbl) && (goodWord w || ewOk w)) = true by decide +kernel) w hw
  simp only [Bool.and_eq_true, Bool.or_eq_true, decide_eq_true_eq] at h
  exact h.2.imp (fun g => List.mem_filter.mpr ⟨h.1, g⟩) (fun g => List.mem_filter.mpr ⟨h.1, g⟩)
theorem at_Q_157 : ∀ w ∈ vx_atS R_Q 157 "java/lang/IllegalStateException" ["java/lang/RuntimeException", "java/lang/Exception"], w ∈ GW ∨ w ∈ EW := by
  intro w hw
  have h := List.all_eq_true.mp (show (vx_atS R_Q 157 "java/lang/IllegalStateException" ["java/lang/RuntimeException", "java/lang/Exception"]).all (fun w => decide (w ∈ lw_tbl) && (goodWord w || ewOk w)) = true by decide +kernel) w hw
  simp only [Bool.and_eq_true, Bool.or_eq_true, decide_eq_true_eq] at h
  exact h.2.imp (fun g => List.mem_filter.mpr ⟨h.1, g⟩) (fun g => List.mem_filter.mpr ⟨h.1, g⟩)
theorem at_Q_264 : ∀ w ∈ vx_atS R_Q 264 "java/lang/UnsupportedOperationException" ["java/lang/RuntimeException", "java/lang/Exception"], w ∈ GW ∨ w ∈ EW := by
  intro w hw
  have h := List.all_eq_true.mp (show (vx_atS R_Q 264 "java/lang/UnsupportedOperationException" ["java/lang/RuntimeException", "java/lang/Exception"]).all (fun w => decide (w ∈ lw_tbl) && (goodWord w || ewOk w)) = true by decide +kernel) w hw
  simp only [Bool.and_eq_true, Bool.or_eq_true, decide_eq_true_eq] at h
  exact h.2.imp (fun g => List.mem_filter.mpr ⟨h.1, g⟩) (fun g => List.mem_filter.mpr ⟨h.1, g⟩)
theorem at_Q_267 : ∀ w ∈ vx_atS R_Q 267 "java/lang/ArithmeticException" ["java/lang/RuntimeException", "java/lang/Exception"], w ∈ GW ∨ w ∈ EW := by
  intro w hw
  have h := List.all_eq_true.mp (show (vx_atS R_Q 267 "java/lang/ArithmeticException" ["java/lang/RuntimeException", "java/lang/Exception"]).all (fun w => decide (w ∈ lw_tbl) && (goodWord w || ewOk w)) = true by decide +kernel) w hw
  simp only [Bool.and_eq_true, Bool.or_eq_true, decide_eq_true_eq] at h
  exact h.2.imp (fun g => List.mem_filter.mpr ⟨h.1, g⟩) (fun g => List.mem_filter.mpr ⟨h.1, g⟩)
theorem at_Op_62 : ∀ w ∈ vx_atS R_Op 62 "java/lang/ArithmeticException" ["java/lang/RuntimeException", "java/lang/Exception"], w ∈ GW ∨ w ∈ EW := by
  intro w hw
  have h := List.all_eq_true.mp (show (vx_atS R_Op 62 "java/lang/ArithmeticException" ["java/lang/RuntimeException", "java/lang/Exception"]).all (fun w => decide (w ∈ lw_tbl) && (goodWord w || ewOk w)) = true by decide +kernel) w hw
  simp only [Bool.and_eq_true, Bool.or_eq_true, decide_eq_true_eq] at h
  exact h.2.imp (fun g => List.mem_filter.mpr ⟨h.1, g⟩) (fun g => List.mem_filter.mpr ⟨h.1, g⟩)
theorem at_Pa_19 : ∀ w ∈ vx_atS R_Pa 19 "java/lang/UnsupportedOperationException" ["java/lang/RuntimeException", "java/lang/Exception"], w ∈ GW ∨ w ∈ EW := by
  intro w hw
  have h := List.all_eq_true.mp (show (vx_atS R_Pa 19 "java/lang/UnsupportedOperationException" ["java/lang/RuntimeException", "java/lang/Exception"]).all (fun w => decide (w ∈ lw_tbl) && (goodWord w || ewOk w)) = true by decide +kernel) w hw
  simp only [Bool.and_eq_true, Bool.or_eq_true, decide_eq_true_eq] at h
  exact h.2.imp (fun g => List.mem_filter.mpr ⟨h.1, g⟩) (fun g => List.mem_filter.mpr ⟨h.1, g⟩)
theorem at_Ne_25 : ∀ w ∈ vx_atS R_Ne 25 "java/lang/ArithmeticException" ["java/lang/RuntimeException", "java/lang/Exception"], w ∈ GW ∨ w ∈ EW := by
  intro w hw
  have h := List.all_eq_true.mp (show (vx_atS R_Ne 25 "java/lang/ArithmeticException" ["java/lang/RuntimeException", "java/lang/Exception"]).all (fun w => decide (w ∈ lw_tbl) && (goodWord w || ewOk w)) = true by decide +kernel) w hw
  simp only [Bool.and_eq_true, Bool.or_eq_true, decide_eq_true_eq] at h
  exact h.2.imp (fun g => List.mem_filter.mpr ⟨h.1, g⟩) (fun g => List.mem_filter.mpr ⟨h.1, g⟩)
theorem i_nlt {x y : Int32} : ¬ x < y ↔ y ≤ x := by simp only [Int32.lt_iff_toInt_lt, Int32.le_iff_toInt_le]; omega
theorem i_nle {x y : Int32} : ¬ x ≤ y ↔ y < x := by simp only [Int32.lt_iff_toInt_lt, Int32.le_iff_toInt_le]; omega
/-- too large -/
def bigL (x : Int64) : Bool := decide (1024000000 < x) || decide (x < -1024000000)
/-- a node's number -/
def isN (n : Nat) (k : Int32) : Bool := decide (¬ k < 0) && decide (k < nI n)
theorem isN_t {n : Nat} {k : Int32} (h : isN n k = true) (hn : n ≤ 16) : ∃ j, j < n ∧ k = nI j := by
  simp only [isN, Bool.and_eq_true, decide_eq_true_eq] at h
  obtain ⟨j, hj, rfl⟩ := nI_of h.1
  exact ⟨j, (nI_ltI hj (by omega)).mp h.2, rfl⟩
theorem isN_f {n : Nat} {k : Int32} (h : isN n k = false) (hn : n ≤ 16) : ∀ j, j < n → k ≠ nI j := by
  intro j hj e
  subst e
  have : isN n (nI j) = true := by
    simp only [isN, Bool.and_eq_true, decide_eq_true_eq]
    exact ⟨nI_pos (by omega), nI_lt hj (by omega)⟩
  rw [this] at h
  cases h
theorem isN_nI {n j : Nat} (h : j < n) (hn : n ≤ 16) : isN n (nI j) = true := by
  simp only [isN, Bool.and_eq_true, decide_eq_true_eq]
  exact ⟨nI_pos (by omega), nI_lt h (by omega)⟩
def bitI (j : Nat) : Int32 := (1 : Int32) <<< (nI j &&& 31)
/-- ROUNDED, as the class works it out -/
def rndL (x : Int64) (b : Int32) : Int64 := (2 * x + (1 : Int64) <<< (b.toInt64 &&& 63)) >>> ((b + 1).toInt64 &&& 63)
end
section
/-! 12.leaf: contracts of small methods of the class -/
set_option maxHeartbeats 4000000 in
set_option maxRecDepth 100000 in
theorem c_Q_notTooLarge (l : Launch) (hl9 : l.stackTraces = false) (G : GT) (A : Nat → Prop) (u : WT) (x : Int64) : Kt l y_Q_notTooLarge b_Q_notTooLarge 2 (some .long) 6 100 1 6 0 0 1 6 G A u [.long x] (KQ G A (Rl (fun r u' => r = x ∧ bigL x = false ∧ u' = u))) (fun E u' => E = "java/lang/ArithmeticException" ∧ bigL x = true ∧ u' = u) := by
  refine k_of (by decide) (Nat.le_of_ble_eq_true rfl) (fun p e st m below meth c ls hx hb hr hlocks hml htab hname hown ht hw hl => ?_)
  have hl : lv_has ls 2 [(0, .long x)] := hl
  refine lv_lload_n hx hb d_Q_notTooLarge_0 rfl (lv_at hl 0 rfl) ?_
  refine lv_ldc2 (v := 1024000000) hx hb hown (ht _ gw_567) d_Q_notTooLarge_1 ?_
  refine W.lcmp hx hb d_Q_notTooLarge_4 ?_
  refine lv_if_gt (tgt := 16) hx hb d_Q_notTooLarge_5 (by decide) (fun c1 => ?_) (fun c1 => ?_)
  · exact kt_throwW (own := R_Q) (cls := "java/lang/ArithmeticException") (ik := 246) (is := 280) (ic := 267) 8 hl9 hx hb htab hlocks hml hl.1 ht hown hw (by decide) gw_548 gw_58 rfl at_Q_267 d_Q_notTooLarge_16 d_Q_notTooLarge_19 d_Q_notTooLarge_20 d_Q_notTooLarge_23 d_Q_notTooLarge_26 (by first | decide | (dsimp only; omega)) (Nat.le_of_ble_eq_true rfl) (by first | decide | (dsimp only; omega)) (by first | decide | (dsimp only; omega)) (by exact ⟨rfl, by simp only [bigL, Bool.or_eq_true, decide_eq_true_eq]; exact Or.inl ((lg_cmp_gt _ _).mp c1), rfl⟩) (by first | decide | (dsimp only; omega)) (by first | decide | (dsimp only; omega))
  · refine lv_lload_n hx hb d_Q_notTooLarge_8 rfl (lv_at hl 0 rfl) ?_
    refine lv_ldc2 (v := (-1024000000)) hx hb hown (ht _ gw_568) d_Q_notTooLarge_9 ?_
    refine W.lcmp hx hb d_Q_notTooLarge_12 ?_
    refine lv_if_ge (tgt := 27) hx hb d_Q_notTooLarge_13 (by decide) (fun c2 => ?_) (fun c2 => ?_)
    · refine lv_lload_n hx hb d_Q_notTooLarge_27 rfl (lv_at hl 0 rfl) ?_
      exact kt_l hx hb hr hlocks hw d_Q_notTooLarge_28 (by exact ⟨rfl, by simp only [bigL, Bool.or_eq_false_iff, decide_eq_false_iff_not]; exact ⟨fun h => c1 ((lg_cmp_gt _ _).mpr h), fun h => (by rw [← i_nlt] at c2; exact c2 ((lg_cmp_lt _ _).mpr h))⟩, rfl⟩) (by first | decide | (dsimp only; omega)) (by first | decide | (dsimp only; omega))
    · exact kt_throwW (own := R_Q) (cls := "java/lang/ArithmeticException") (ik := 246) (is := 280) (ic := 267) 8 hl9 hx hb htab hlocks hml hl.1 ht hown hw (by decide) gw_548 gw_58 rfl at_Q_267 d_Q_notTooLarge_16 d_Q_notTooLarge_19 d_Q_notTooLarge_20 d_Q_notTooLarge_23 d_Q_notTooLarge_26 (by first | decide | (dsimp only; omega)) (Nat.le_of_ble_eq_true rfl) (by first | decide | (dsimp only; omega)) (by first | decide | (dsimp only; omega)) (by exact ⟨rfl, by simp only [bigL, Bool.or_eq_true, decide_eq_true_eq]; exact Or.inr ((lg_cmp_lt _ _).mp (i_nle.mp c2)), rfl⟩) (by first | decide | (dsimp only; omega)) (by first | decide | (dsimp only; omega))
set_option maxHeartbeats 4000000 in
set_option maxRecDepth 100000 in
theorem c_Q_rounded (l : Launch) (hl9 : l.stackTraces = false) (G : GT) (A : Nat → Prop) (u : WT) (x : Int64) (k : Int32) : Kt l y_Q_rounded b_Q_rounded 3 (some .long) 7 121 1 6 0 0 1 6 G A u [.long x, .int k] (KQ G A (Rl (fun r u' => r = rndL x k ∧ bigL (rndL x k) = false ∧ u' = u))) (fun E u' => E = "java/lang/ArithmeticException" ∧ bigL (rndL x k) = true ∧ u' = u) := by
  refine k_of (by decide) (Nat.le_of_ble_eq_true rfl) (fun p e st m below meth c ls hx hb hr hlocks hml htab hname hown ht hw hl => ?_)
  have hl : lv_has ls 3 [(0, .long x), (2, .int k)] := hl
  refine lv_ldc2 (v := 2) hx hb hown (ht _ gw_563) d_Q_rounded_0 ?_
  refine lv_lload_n hx hb d_Q_rounded_3 rfl (lv_at hl 0 rfl) ?_
  refine lv_lmul hx hb d_Q_rounded_4 ?_
  refine lv_lconst (v := 1) hx hb d_Q_rounded_5 (by decide) ?_
  refine lv_iload_n hx hb d_Q_rounded_6 rfl (lv_at hl 1 rfl) ?_
  refine lv_lshl hx hb d_Q_rounded_7 rfl ?_
  refine lv_ladd hx hb d_Q_rounded_8 ?_
  refine lv_iload_n hx hb d_Q_rounded_9 rfl (lv_at hl 1 rfl) ?_
  refine lv_iconst (v := 1) hx hb d_Q_rounded_10 (by decide) ?_
  refine lv_iadd hx hb d_Q_rounded_11 ?_
  refine lv_lshr hx hb d_Q_rounded_12 rfl ?_
  refine kc_l (kr_S 1 (As := [.long ((((2 : Int64) * x) + ((1 : Int64) <<< (k.toInt64 &&& 63))) >>> ((k + (1 : Int32)).toInt64 &&& 63))]) (rest := []) (c_Q_notTooLarge l hl9 G A u _) hx hb hml hown ht hw gw_564 gw_565 gw_42 gw_566 ⟨⟨by decide, by decide⟩, by decide +kernel⟩ ⟨by first | decide | (dsimp only; omega), by first | decide | (dsimp only; omega)⟩ rfl hl.1 rfl (lv_room (Nat.le_of_ble_eq_true rfl)) d_Q_rounded_13 ⟨by first | decide | (dsimp only; omega), by first | decide | (dsimp only; omega)⟩) hw (fun E ce q9 u1 H1 locs1 hp hw1 hce hcv hcl => ?_) (fun r1 u1 H1 locs1 hp1 hw1 => ?_)
  · obtain ⟨rfl, hp, rfl⟩ := hp
    exact kt_out htab hlocks hw1 hce hcv hcl ⟨rfl, hp, rfl⟩ (by decide) (by decide)
  obtain ⟨er1, hb9, hq1⟩ := hp1
  replace hq1 := hq1.symm; subst hq1
  subst er1
  exact kt_l hx hb hr hlocks hw1 d_Q_rounded_16 (by exact ⟨rfl, hb9, rfl⟩) (by first | decide | (dsimp only; omega)) (by first | decide | (dsimp only; omega))
set_option maxHeartbeats 4000000 in
set_option maxRecDepth 100000 in
theorem c_Q_checkRange (l : Launch) (hl9 : l.stackTraces = false) (G : GT) (A : Nat → Prop) (u : WT) (x a b : Int32) : Kt l y_Q_checkRange b_Q_checkRange 3 none 6 100 1 6 0 0 1 6 G A u [.int x, .int a, .int b] (KQ G A (Rv (fun u' => ¬ x < a ∧ x ≤ b ∧ u' = u))) (fun E u' => E = "java/lang/IllegalArgumentException" ∧ (x < a ∨ b < x) ∧ u' = u) := by
  refine k_of (by decide) (Nat.le_of_ble_eq_true rfl) (fun p e st m below meth c ls hx hb hr hlocks hml htab hname hown ht hw hl => ?_)
  have hl : lv_has ls 3 [(0, .int x), (1, .int a), (2, .int b)] := hl
  refine lv_iload_n hx hb d_Q_checkRange_0 rfl (lv_at hl 0 rfl) ?_
  refine lv_iload_n hx hb d_Q_checkRange_1 rfl (lv_at hl 1 rfl) ?_
  refine lv_icmp_lt (tgt := 10) hx hb d_Q_checkRange_2 (by decide) (fun c1 => ?_) (fun c1 => ?_)
  · exact kt_throw (own := R_Q) (cls := "java/lang/IllegalArgumentException") (ik := 143) (is := 203) (ic := 147) 3 hl9 hx hb htab hlocks hml hl.1 ht hown hw (by decide) gw_159 gw_51 rfl at_Q_147 d_Q_checkRange_10 d_Q_checkRange_13 d_Q_checkRange_14 d_Q_checkRange_16 d_Q_checkRange_19 (by first | decide | (dsimp only; omega)) (Nat.le_of_ble_eq_true rfl) (by first | decide | (dsimp only; omega)) (by first | decide | (dsimp only; omega)) (by exact ⟨rfl, Or.inl c1, rfl⟩) (by first | decide | (dsimp only; omega)) (by first | decide | (dsimp only; omega))
  · refine lv_iload_n hx hb d_Q_checkRange_5 rfl (lv_at hl 0 rfl) ?_
    refine lv_iload_n hx hb d_Q_checkRange_6 rfl (lv_at hl 2 rfl) ?_
    refine lv_icmp_le (tgt := 20) hx hb d_Q_checkRange_7 (by decide) (fun c2 => ?_) (fun c2 => ?_)
    · exact kt_v hx hb hr hlocks hw d_Q_checkRange_20 (by exact ⟨c1, c2, rfl⟩) (by first | decide | (dsimp only; omega)) (by first | decide | (dsimp only; omega))
    · exact kt_throw (own := R_Q) (cls := "java/lang/IllegalArgumentException") (ik := 143) (is := 203) (ic := 147) 3 hl9 hx hb htab hlocks hml hl.1 ht hown hw (by decide) gw_159 gw_51 rfl at_Q_147 d_Q_checkRange_10 d_Q_checkRange_13 d_Q_checkRange_14 d_Q_checkRange_16 d_Q_checkRange_19 (by first | decide | (dsimp only; omega)) (Nat.le_of_ble_eq_true rfl) (by first | decide | (dsimp only; omega)) (by first | decide | (dsimp only; omega)) (by exact ⟨rfl, Or.inr (i_nle.mp c2), rfl⟩) (by first | decide | (dsimp only; omega)) (by first | decide | (dsimp only; omega))
set_option maxHeartbeats 4000000 in
set_option maxRecDepth 100000 in
theorem c_Q_isThere (l : Launch) (G : GT) (A : Nat → Prop) (lc : Nat → Nat) (s : QS) (z : ZS) (u : WT) (hR : rQ G lc s z u) (k : Int32) : Kt l y_Q_isThere b_Q_isThere 2 (some .boolean) 0 0 0 0 0 0 0 0 G A u [.ref (lc 0), .int k] (KQ G A (Ri (fun r u' => r = bI (isN (q_n s) k) ∧ u' = u))) (NX) := by
  refine k_of (by decide) (Nat.le_of_ble_eq_true rfl) (fun p e st m below meth c ls hx hb hr hlocks hml htab hname hown ht hw hl => ?_)
  have hl : lv_has ls 2 [(0, .ref (lc 0)), (1, .int k)] := hl
  obtain ⟨n0, hn0⟩ : ∃ n0, q_n s = n0 := ⟨_, rfl⟩
  have hw : Sk G A lc s z n0 u u st st.heap [] := ⟨hw, hR, fQ.rf, hn0⟩
  refine lv_iload_n hx hb d_Q_isThere_0 rfl (lv_at hl 1 rfl) ?_
  refine lv_if_lt (tgt := 16) hx hb d_Q_isThere_1 (by decide) (fun c1 => ?_) (fun c1 => ?_)
  · refine lv_iconst (v := 0) hx hb d_Q_isThere_16 (by decide) ?_
    exact kt_z hx hb hr hlocks hw.1 d_Q_isThere_17 (by exact ⟨by simp [isN, c1]; rfl, rfl⟩) (Or.inl rfl) (by first | decide | (dsimp only; omega)) (by first | decide | (dsimp only; omega))
  · refine lv_iload_n hx hb d_Q_isThere_4 rfl (lv_at hl 1 rfl) ?_
    refine lv_aload_n hx hb d_Q_isThere_5 rfl (lv_at hl 0 rfl) ?_
    refine kg_Q 2 (by decide) hx hb ht hown hw gw_123 rfl rfl d_Q_isThere_6 ?_
    refine lv_icmp_ge (tgt := 16) hx hb d_Q_isThere_9 (by decide) (fun c2 => ?_) (fun c2 => ?_)
    · refine lv_iconst (v := 0) hx hb d_Q_isThere_16 (by decide) ?_
      exact kt_z hx hb hr hlocks hw.1 d_Q_isThere_17 (by rw [hn0]; exact ⟨by simp [isN, i_nlt.mpr c2]; rfl, rfl⟩) (Or.inl rfl) (by first | decide | (dsimp only; omega)) (by first | decide | (dsimp only; omega))
    · refine lv_iconst (v := 1) hx hb d_Q_isThere_12 (by decide) ?_
      refine lv_goto (tgt := 17) hx hb d_Q_isThere_13 (by decide) ?_
      exact kt_z hx hb hr hlocks hw.1 d_Q_isThere_17 (by rw [hn0]; exact ⟨by rw [i_nle] at c2; simp [isN, c1, c2]; rfl, rfl⟩) (Or.inr rfl) (by first | decide | (dsimp only; omega)) (by first | decide | (dsimp only; omega))
set_option maxHeartbeats 4000000 in
set_option maxRecDepth 100000 in
theorem c_Q_checkRoom (l : Launch) (hl9 : l.stackTraces = false) (G : GT) (A : Nat → Prop) (lc : Nat → Nat) (s : QS) (z : ZS) (u : WT) (hR : rQ G lc s z u) : Kt l y_Q_checkRoom b_Q_checkRoom 1 none 6 100 1 6 0 0 1 6 G A u [.ref (lc 0)] (KQ G A (Rv (fun u' => q_n s < 16 ∧ u' = u))) (fun E u' => E = "java/lang/IllegalStateException" ∧ 16 ≤ q_n s ∧ u' = u) := by
  refine k_of (by decide) (Nat.le_of_ble_eq_true rfl) (fun p e st m below meth c ls hx hb hr hlocks hml htab hname hown ht hw hl => ?_)
  have hl : lv_has ls 1 [(0, .ref (lc 0))] := hl
  obtain ⟨n0, hn0⟩ : ∃ n0, q_n s = n0 := ⟨_, rfl⟩
  have hw : Sk G A lc s z n0 u u st st.heap [] := ⟨hw, hR, fQ.rf, hn0⟩
  have h16 : n0 ≤ 16 := by rw [← hn0]; exact hR.1.1
  refine lv_aload_n hx hb d_Q_checkRoom_0 rfl (lv_at hl 0 rfl) ?_
  refine kg_Q 2 (by decide) hx hb ht hown hw gw_123 rfl rfl d_Q_checkRoom_1 ?_
  refine lv_bipush (v := 16) hx hb d_Q_checkRoom_4 (by decide) ?_
  refine lv_icmp_lt (tgt := 19) hx hb d_Q_checkRoom_6 (by decide) (fun c1 => ?_) (fun c1 => ?_)
  · exact kt_v hx hb hr hlocks hw.1 d_Q_checkRoom_19 (by rw [hn0]; exact ⟨(nI_ltI (b := 16) (by omega) (by decide)).mp c1, rfl⟩) (by first | decide | (dsimp only; omega)) (by first | decide | (dsimp only; omega))
  · exact kt_throw (own := R_Q) (cls := "java/lang/IllegalStateException") (ik := 153) (is := 198) (ic := 157) 1 hl9 hx hb htab hlocks hml hl.1 ht hown hw.1 (by decide) gw_232 gw_52 rfl at_Q_157 d_Q_checkRoom_9 d_Q_checkRoom_12 d_Q_checkRoom_13 d_Q_checkRoom_15 d_Q_checkRoom_18 (by first | decide | (dsimp only; omega)) (Nat.le_of_ble_eq_true rfl) (by first | decide | (dsimp only; omega)) (by first | decide | (dsimp only; omega)) (by rw [hn0]; exact ⟨rfl, Nat.le_of_not_lt (fun h => c1 (nI_lt (b := 16) h (by decide))), rfl⟩) (by first | decide | (dsimp only; omega)) (by first | decide | (dsimp only; omega))
set_option maxHeartbeats 4000000 in
set_option maxRecDepth 100000 in
theorem c_Nd_bit (l : Launch) (G : GT) (A : Nat → Prop) (lc : Nat → Nat) (s : QS) (z : ZS) (u : WT) (hR : rQ G lc s z u) (j : Nat) (hj : j < q_n s) : Kt l y_Nd_bit b_Nd_bit 1 (some .int) 0 0 0 0 0 0 0 0 G A u [.ref (lc (8 + j))] (KQ G A (Ri (fun r u' => r = bitI j ∧ u' = u))) (NX) := by
  refine k_of (by decide) (Nat.le_of_ble_eq_true rfl) (fun p e st m below meth c ls hx hb hr hlocks hml htab hname hown ht hw hl => ?_)
  have hl : lv_has ls 1 [(0, .ref (lc (8 + j)))] := hl
  obtain ⟨n0, hn0⟩ : ∃ n0, q_n s = n0 := ⟨_, rfl⟩
  have hw : Sk G A lc s z n0 u u st st.heap [] := ⟨hw, hR, fQ.rf, hn0⟩
  rw [hn0] at hj
  refine lv_iconst (v := 1) hx hb d_Nd_bit_0 (by decide) ?_
  refine lv_aload_n hx hb d_Nd_bit_1 rfl (lv_at hl 0 rfl) ?_
  refine kg_N (j := j) 0 (by decide) hx hb ht hown hw hj gw_258 (Or.inl rfl) rfl d_Nd_bit_2 ?_
  refine lv_ishl hx hb d_Nd_bit_5 ?_
  exact kt_i hx hb hr hlocks hw.1 d_Nd_bit_6 (by exact ⟨rfl, rfl⟩) (by first | decide | (dsimp only; omega)) (by first | decide | (dsimp only; omega))
set_option maxHeartbeats 4000000 in
set_option maxRecDepth 100000 in
theorem c_Q_nodeAt (l : Launch) (hl9 : l.stackTraces = false) (G : GT) (A : Nat → Prop) (lc : Nat → Nat) (s : QS) (z : ZS) (u : WT) (hR : rQ G lc s z u) (k : Int32) : Kt l y_Q_nodeAt b_Q_nodeAt 2 (some (.object "QuoteGraph$Node")) 6 100 1 6 0 0 1 6 G A u [.ref (lc 0), .int k] (KQ G A (Ra (fun r u' => ∃ j, j < q_n s ∧ k = nI j ∧ r = lc (8 + j) ∧ u' = u))) (fun E u' => E = "java/lang/IllegalArgumentException" ∧ isN (q_n s) k = false ∧ u' = u) := by
  refine k_of (by decide) (Nat.le_of_ble_eq_true rfl) (fun p e st m below meth c ls hx hb hr hlocks hml htab hname hown ht hw hl => ?_)
  have hl : lv_has ls 2 [(0, .ref (lc 0)), (1, .int k)] := hl
  obtain ⟨n0, hn0⟩ : ∃ n0, q_n s = n0 := ⟨_, rfl⟩
  have hw : Sk G A lc s z n0 u u st st.heap [] := ⟨hw, hR, fQ.rf, hn0⟩
  refine lv_aload_n hx hb d_Q_nodeAt_0 rfl (lv_at hl 0 rfl) ?_
  refine lv_iload_n hx hb d_Q_nodeAt_1 rfl (lv_at hl 1 rfl) ?_
  refine kc_i (kr_V 1 (C := "QuoteGraph") (As := [.int k]) (rest := []) (c_Q_isThere l G A lc s z u hR k) hx hb hml hown ht hw.1 gw_328 gw_330 gw_4 gw_42 gw_331 ⟨⟨by decide, by decide⟩, by decide +kernel⟩ ⟨by first | decide | (dsimp only; omega), by first | decide | (dsimp only; omega)⟩ (kr_Q hw) rfl hl.1 rfl (lv_room (Nat.le_of_ble_eq_true rfl)) d_Q_nodeAt_2 ⟨by first | decide | (dsimp only; omega), by first | decide | (dsimp only; omega)⟩) hw.1 (fun _ _ _ _ _ _ h => h.elim) (fun r1 u1 H1 locs1 hp1 hw1 => ?_)
  obtain ⟨er1, hq1⟩ := hp1
  replace hq1 := hq1.symm; subst hq1
  subst er1
  have hw : Sk G A lc s z n0 u u st H1 locs1 := ⟨hw1, hw.2⟩
  refine lv_if_eq (tgt := 15) hx hb d_Q_nodeAt_5 (by decide) (fun c2 => ?_) (fun c2 => ?_)
  · exact kt_throw (own := R_Q) (cls := "java/lang/IllegalArgumentException") (ik := 143) (is := 215) (ic := 147) 2 hl9 hx hb htab hlocks hml hl.1 ht hown hw.1 (by decide) gw_159 gw_51 rfl at_Q_147 d_Q_nodeAt_15 d_Q_nodeAt_18 d_Q_nodeAt_19 d_Q_nodeAt_21 d_Q_nodeAt_24 (by first | decide | (dsimp only; omega)) (Nat.le_of_ble_eq_true rfl) (by first | decide | (dsimp only; omega)) (by first | decide | (dsimp only; omega)) (by exact ⟨rfl, (bI_eq _).mp c2, rfl⟩) (by first | decide | (dsimp only; omega)) (by first | decide | (dsimp only; omega))
  · obtain ⟨j, hj, rfl⟩ := isN_t ((bI_ne _).mp c2) hR.1.1
    rw [hn0] at hj
    refine lv_aload_n hx hb d_Q_nodeAt_8 rfl (lv_at hl 0 rfl) ?_
    refine kg_Q 0 (by decide) hx hb ht hown hw gw_121 rfl rfl d_Q_nodeAt_9 ?_
    refine lv_iload_n hx hb d_Q_nodeAt_12 rfl (lv_at hl 1 rfl) ?_
    refine ka_nodes (k := j) rfl hj hx hb hw d_Q_nodeAt_13 ?_
    exact kt_a hx hb hr hlocks hw.1 d_Q_nodeAt_14 (by exact ⟨j, by rw [hn0]; exact hj, rfl, rfl, rfl⟩) (by first | decide | (dsimp only; omega)) (by first | decide | (dsimp only; omega))
end
section
/-! 13.loops: loops that count, and loops with a measure; parts' numbers -/
section KLoops
variable {p : Program} {l : Launch} {e : Env} {R : Room} {st : State} {m : MethodId} {args : Array Value} {below : List Frame} {meth : Method} {c : Code} {H : Heap} {locs : List Loc} {cells slots : Nat} {Q : State → Prop} {pc : Nat}
/-- k goes up to N; nothing of the heap turns -/
theorem k_cnt (N : Nat) (J : Nat → Array Slot → Prop) {k0 : Nat} (h0 : k0 ≤ N) {ls0 : Array Slot} (hi : J k0 ls0)
    (hend : ∀ ls, J N ls → W p l e R st m args below meth c H locs cells slots Q (F0 m pc ls []))
    (hstep : ∀ k ls, k < N → J k ls → (∀ ls', J (k + 1) ls' → W p l e R st m args below meth c H locs cells slots Q (F0 m pc ls' [])) → W p l e R st m args below meth c H locs cells slots Q (F0 m pc ls [])) : W p l e R st m args below meth c H locs cells slots Q (F0 m pc ls0 []) := by
  have key : ∀ (d k : Nat) (ls : Array Slot), k + d = N → J k ls → W p l e R st m args below meth c H locs cells slots Q (F0 m pc ls []) := by
    intro d
    induction d with
    | zero => intro k ls hk hJ; have : k = N := by omega
              subst this; exact hend ls hJ
    | succ d ih => intro k ls hk hJ; exact hstep k ls (by omega) hJ (fun ls' h' => ih (k + 1) ls' (by omega) h')
  exact key (N - k0) k0 ls0 (by omega) hi
/-- the same over a heap that turns -/
theorem k_cntH (N : Nat) (J : Nat → Array Slot → Heap → List Loc → Prop) {k0 : Nat} (h0 : k0 ≤ N) {ls0 : Array Slot} (hi : J k0 ls0 H locs)
    (hend : ∀ ls H locs, J N ls H locs → W p l e R st m args below meth c H locs cells slots Q (F0 m pc ls []))
    (hstep : ∀ k ls H locs, k < N → J k ls H locs → (∀ ls' H' locs', J (k + 1) ls' H' locs' → W p l e R st m args below meth c H' locs' cells slots Q (F0 m pc ls' [])) → W p l e R st m args below meth c H locs cells slots Q (F0 m pc ls [])) : W p l e R st m args below meth c H locs cells slots Q (F0 m pc ls0 []) := by
  have key : ∀ (d k : Nat) (ls : Array Slot) (H : Heap) (locs : List Loc), k + d = N → J k ls H locs → W p l e R st m args below meth c H locs cells slots Q (F0 m pc ls []) := by
    intro d
    induction d with
    | zero => intro k ls H locs hk hJ; have : k = N := by omega
              subst this; exact hend ls H locs hJ
    | succ d ih => intro k ls H locs hk hJ; exact hstep k ls H locs (by omega) hJ (fun ls' H' locs' h' => ih (k + 1) ls' H' locs' (by omega) h')
  exact key (N - k0) k0 ls0 H locs (by omega) hi
/-- a loop with a measure -/
theorem k_whl {σ : Type} (μ : σ → Nat) (J : σ → Array Slot → Heap → List Loc → Prop) {x0 : σ} {ls0 : Array Slot} (hi : J x0 ls0 H locs)
    (hstep : ∀ x ls H locs, J x ls H locs → (∀ x' ls' H' locs', μ x' < μ x → J x' ls' H' locs' → W p l e R st m args below meth c H' locs' cells slots Q (F0 m pc ls' [])) → W p l e R st m args below meth c H locs cells slots Q (F0 m pc ls [])) : W p l e R st m args below meth c H locs cells slots Q (F0 m pc ls0 []) := by
  have key : ∀ (d : Nat) (x : σ) (ls : Array Slot) (H : Heap) (locs : List Loc), μ x < d → J x ls H locs → W p l e R st m args below meth c H locs cells slots Q (F0 m pc ls []) := by
    intro d
    induction d with
    | zero => intro x ls H locs hk; omega
    | succ d ih => intro x ls H locs hk hJ; exact hstep x ls H locs hJ (fun x' ls' H' locs' hx h' => ih x' ls' H' locs' (by omega) h')
  exact key (μ x0 + 1) x0 ls0 H locs (by omega) hi
end KLoops
theorem np_le {s : QS} (h : okQ s) {j : Nat} (hj : j < q_n s) : np s j ≤ 4 := by unfold np; split <;> split <;> split <;> omega
theorem cp_lt {s : QS} (h : okQ s) {j k : Nat} (hj : j < q_n s) (hk : k < np s j) : cp s j k < q_n s := by
  obtain ⟨h1, h2, h3, h4, h5, -⟩ := h.2 j hj
  have g : ∀ i x, q_pt s j i = some x → (q_pt s j i).getD 0 < q_n s := fun i x hx => by rw [hx]; exact h5 i x hx
  unfold cp
  by_cases h0 : q_so s j = 0
  · unfold np at hk; rw [if_pos h0, h3 h0 2, h3 h0 3] at hk; simp at hk
  · split
    · rename_i hk2
      obtain ⟨x, hx, hl⟩ := h2 k hk2 h0
      rw [hx]; exact hl
    · split
      · cases hq : q_pt s j 2 with
        | some x => exact h5 2 x hq
        | none =>
          show (q_pt s j 3).getD 0 < q_n s
          cases hq3 : q_pt s j 3 with
          | some x => exact h5 3 x hq3
          | none => unfold np at hk; rw [if_neg h0, hq, hq3] at hk; simp at hk; omega
      · cases hq3 : q_pt s j 3 with
        | some x => exact h5 3 x hq3
        | none =>
          unfold np at hk; rw [if_neg h0, hq3] at hk
          cases hq : q_pt s j 2 with
          | some x => rw [hq] at hk; simp at hk; omega
          | none => rw [hq] at hk; simp at hk; omega
/-- the bits of node j's parts -/
def pb (s : QS) (j : Nat) : Nat → Int32
  | 0 => 0
  | k + 1 => pb s j k ||| bitI (cp s j k)
def pbits (s : QS) (j : Nat) : Int32 := pb s j (np s j)
/-- one round over the nodes, then all rounds -/
def ibs (s : QS) (b : Int32) : Nat → Int32
  | 0 => b
  | i + 1 => if ibs s b i &&& bitI i = 0 then ibs s b i else ibs s b i ||| pbits s i
def obs (s : QS) (b : Int32) : Nat → Int32
  | 0 => b
  | r + 1 => ibs s (obs s b r) (q_n s)
def ubits (s : QS) (j : Nat) : Int32 := obs s (pbits s j) (q_n s)
/-- node a USES node b, as the class finds it -/
def usesC (s : QS) (a b : Nat) : Bool := decide (¬ ubits s a &&& bitI b = 0)
theorem sel_bit : ∀ t, t < 4 → Cond.selects (ndC t) y_Nd_bit y_Nd_bit ∈ GW := by
  intro t ht
  have h5 : t = 0 ∨ t = 1 ∨ t = 2 ∨ t = 3 := by omega
  rcases h5 with h | h | h | h <;> subst h
  · exact gw_496
  · exact gw_493
  · exact gw_494
  · exact gw_495
theorem sel_partBits : ∀ t, t < 4 → Cond.selects (ndC t) y_Nd_partBits y_Nd_partBits ∈ GW := by
  intro t ht
  have h5 : t = 0 ∨ t = 1 ∨ t = 2 ∨ t = 3 := by omega
  rcases h5 with h | h | h | h <;> subst h
  · exact gw_488
  · exact gw_485
  · exact gw_486
  · exact gw_487
theorem sel_remember : ∀ t, t < 4 → Cond.selects (ndC t) y_Nd_remember y_Nd_remember ∈ GW := by
  intro t ht
  have h5 : t = 0 ∨ t = 1 ∨ t = 2 ∨ t = 3 := by omega
  rcases h5 with h | h | h | h <;> subst h
  · exact gw_743
  · exact gw_740
  · exact gw_741
  · exact gw_742
theorem sel_restore : ∀ t, t < 4 → Cond.selects (ndC t) y_Nd_restore y_Nd_restore ∈ GW := by
  intro t ht
  have h5 : t = 0 ∨ t = 1 ∨ t = 2 ∨ t = 3 := by omega
  rcases h5 with h | h | h | h <;> subst h
  · exact gw_759
  · exact gw_756
  · exact gw_757
  · exact gw_758
end
section
/-! 14.reads: contracts of the methods that read the graph -/
set_option maxHeartbeats 4000000 in
set_option maxRecDepth 100000 in
theorem c_Nd_partBits (l : Launch) (G : GT) (A : Nat → Prop) (lc : Nat → Nat) (s : QS) (z : ZS) (u : WT) (hR : rQ G lc s z u) (j : Nat) (hj : j < q_n s) : Kt l y_Nd_partBits b_Nd_partBits 3 (some .int) 1 20 0 0 0 0 0 0 G A u [.ref (lc (8 + j))] (KQ G A (Ri (fun r u' => r = pbits s j ∧ u' = u))) (NX) := by
  refine k_of (by decide) (Nat.le_of_ble_eq_true rfl) (fun p e st m below meth c ls hx hb hr hlocks hml htab hname hown ht hw hl => ?_)
  have hl : lv_has ls 3 [(0, .ref (lc (8 + j)))] := hl
  obtain ⟨n0, hn0⟩ : ∃ n0, q_n s = n0 := ⟨_, rfl⟩
  have hw : Sk G A lc s z n0 u u st st.heap [] := ⟨hw, hR, fQ.rf, hn0⟩
  have h4 := np_le hR.1 hj
  rw [hn0] at hj
  refine lv_iconst (v := 0) hx hb d_Nd_partBits_0 (by decide) ?_
  refine lv_istore_n (lv' := [(1, .int (0 : Int32)), (0, .ref (lc (8 + j)))]) hx hb d_Nd_partBits_1 rfl hl (by decide) rfl (fun ls hl => ?_)
  refine lv_iconst (v := 0) hx hb d_Nd_partBits_2 (by decide) ?_
  refine lv_istore_n (lv' := [(2, .int (0 : Int32)), (1, .int (0 : Int32)), (0, .ref (lc (8 + j)))]) hx hb d_Nd_partBits_3 rfl hl (by decide) rfl (fun ls hl => ?_)
  refine k_cntH (np s j) (fun k ls H locs => lv_has ls 3 [(0, .ref (lc (8 + j))), (1, .int (pb s j k)), (2, .int (nI k))] ∧ Sk G A lc s z n0 u u st H locs) (k0 := 0) (Nat.zero_le _) (⟨lv_sub hl [2, 1, 0] rfl, hw⟩) (fun ls H locs hJ => ?_) (fun k ls H locs hk hJ ih => ?_)
  · obtain ⟨hl, hw⟩ := hJ
    refine lv_iload_n hx hb d_Nd_partBits_4 rfl (lv_at hl 2 rfl) ?_
    refine lv_aload_n hx hb d_Nd_partBits_5 rfl (lv_at hl 0 rfl) ?_
    refine kg_N (j := j) 2 (by decide) hx hb ht hown hw hj gw_268 (Or.inl rfl) rfl d_Nd_partBits_6 ?_
    refine lv_icmp_ge (tgt := 30) hx hb d_Nd_partBits_9 (by decide) (fun c1 => ?_) (fun c1 => ?_)
    · refine lv_iload_n hx hb d_Nd_partBits_30 rfl (lv_at hl 1 rfl) ?_
      exact kt_i hx hb hr hlocks hw.1 d_Nd_partBits_31 (by exact ⟨rfl, rfl⟩) (by first | decide | (dsimp only; omega)) (by first | decide | (dsimp only; omega))
    · exact absurd (nI_le (Nat.le_refl _) (by omega)) c1
  · obtain ⟨hl, hw⟩ := hJ
    refine lv_iload_n hx hb d_Nd_partBits_4 rfl (lv_at hl 2 rfl) ?_
    refine lv_aload_n hx hb d_Nd_partBits_5 rfl (lv_at hl 0 rfl) ?_
    refine kg_N (j := j) 2 (by decide) hx hb ht hown hw hj gw_268 (Or.inl rfl) rfl d_Nd_partBits_6 ?_
    refine lv_icmp_ge (tgt := 30) hx hb d_Nd_partBits_9 (by decide) (fun c1 => ?_) (fun c1 => ?_)
    · exact absurd c1 (nI_ge hk (by omega))
    · refine lv_iload_n hx hb d_Nd_partBits_12 rfl (lv_at hl 1 rfl) ?_
      refine lv_aload_n hx hb d_Nd_partBits_13 rfl (lv_at hl 0 rfl) ?_
      refine kg_N (j := j) 1 (by decide) hx hb ht hown hw hj gw_260 (Or.inl rfl) rfl d_Nd_partBits_14 ?_
      refine lv_iload_n hx hb d_Nd_partBits_17 rfl (lv_at hl 2 rfl) ?_
      refine ka_parts (j := j) (k := k) rfl hj hk hx hb hw d_Nd_partBits_18 ?_
      refine kc_i (kr_V 0 (C := ndC (q_so s (cp s j k))) (As := []) (rest := [.int (pb s j k)]) (c_Nd_bit l G A lc s z u hR (cp s j k) (cp_lt hR.1 (by rw [hn0]; exact hj) hk)) hx hb hml hown ht hw.1 gw_490 gw_491 (sel_bit _ (hw.nj (by rw [← hn0]; exact cp_lt hR.1 (by rw [hn0]; exact hj) hk)).2.2) gw_53 gw_497 ⟨⟨by decide, by decide⟩, by decide +kernel⟩ ⟨by first | decide | (dsimp only; omega), by first | decide | (dsimp only; omega)⟩ (kr_N hw (by rw [← hn0]; exact cp_lt hR.1 (by rw [hn0]; exact hj) hk)) rfl hl.1 rfl (lv_room (Nat.le_of_ble_eq_true rfl)) d_Nd_partBits_19 ⟨by first | decide | (dsimp only; omega), by first | decide | (dsimp only; omega)⟩) hw.1 (fun _ _ _ _ _ _ h => h.elim) (fun r1 u1 H1 locs1 hp1 hw1 => ?_)
      obtain ⟨er1, hq1⟩ := hp1
      replace hq1 := hq1.symm; subst hq1
      subst er1
      have hw : Sk G A lc s z n0 u u st H1 locs1 := ⟨hw1, hw.2⟩
      refine lv_ior hx hb d_Nd_partBits_22 ?_
      refine lv_istore_n (lv' := [(1, .int ((pb s j k) ||| (bitI (cp s j k)))), (0, .ref (lc (8 + j))), (2, .int (nI k))]) hx hb d_Nd_partBits_23 rfl hl (by decide) rfl (fun ls hl => ?_)
      obtain ⟨i2, ei2⟩ : ∃ y : Int32, y = (nI k) + 1 := ⟨_, rfl⟩
      refine lv_iinc (v := i2) (lv' := [(2, .int i2), (1, .int ((pb s j k) ||| (bitI (cp s j k)))), (0, .ref (lc (8 + j)))]) hx hb d_Nd_partBits_24 hl (k := 2) rfl (by rw [ei2]; rfl) (by decide) rfl (fun ls hl => ?_)
      rw [nI_1] at ei2; subst ei2
      refine lv_goto (tgt := 4) hx hb d_Nd_partBits_27 (by decide) ?_
      exact ih ls H1 locs1 ⟨lv_sub hl [2, 1, 0] rfl, hw⟩
set_option maxHeartbeats 4000000 in
set_option maxRecDepth 100000 in
theorem c_Q_bitsUsedBy (l : Launch) (G : GT) (A : Nat → Prop) (lc : Nat → Nat) (s : QS) (z : ZS) (u : WT) (hR : rQ G lc s z u) (j : Nat) (hj : j < q_n s) : Kt l y_Q_bitsUsedBy b_Q_bitsUsedBy 5 (some .int) 2 42 0 0 0 0 0 0 G A u [.ref (lc 0), .ref (lc (8 + j))] (KQ G A (Ri (fun r u' => r = ubits s j ∧ u' = u))) (NX) := by
  refine k_of (by decide) (Nat.le_of_ble_eq_true rfl) (fun p e st m below meth c ls hx hb hr hlocks hml htab hname hown ht hw hl => ?_)
  have hl : lv_has ls 5 [(0, .ref (lc 0)), (1, .ref (lc (8 + j)))] := hl
  obtain ⟨n0, hn0⟩ : ∃ n0, q_n s = n0 := ⟨_, rfl⟩
  have hw : Sk G A lc s z n0 u u st st.heap [] := ⟨hw, hR, fQ.rf, hn0⟩
  have h16 : n0 ≤ 16 := by rw [← hn0]; exact hR.1.1
  rw [hn0] at hj
  refine lv_aload_n hx hb d_Q_bitsUsedBy_0 rfl (lv_at hl 1 rfl) ?_
  refine kc_i (kr_V 0 (C := ndC (q_so s j)) (As := []) (rest := []) (c_Nd_partBits l G A lc s z u hR j (by rw [hn0]; exact hj)) hx hb hml hown ht hw.1 gw_482 gw_483 (sel_partBits _ (hw.nj hj).2.2) gw_53 gw_489 ⟨⟨by decide, by decide⟩, by decide +kernel⟩ ⟨by first | decide | (dsimp only; omega), by first | decide | (dsimp only; omega)⟩ (kr_N hw hj) rfl hl.1 rfl (lv_room (Nat.le_of_ble_eq_true rfl)) d_Q_bitsUsedBy_1 ⟨by first | decide | (dsimp only; omega), by first | decide | (dsimp only; omega)⟩) hw.1 (fun _ _ _ _ _ _ h => h.elim) (fun r1 u1 H1 locs1 hp1 hw1 => ?_)
  obtain ⟨er1, hq1⟩ := hp1
  replace hq1 := hq1.symm; subst hq1
  subst er1
  have hw : Sk G A lc s z n0 u u st H1 locs1 := ⟨hw1, hw.2⟩
  refine lv_istore_n (lv' := [(2, .int (pbits s j)), (0, .ref (lc 0)), (1, .ref (lc (8 + j)))]) hx hb d_Q_bitsUsedBy_4 rfl hl (by decide) rfl (fun ls hl => ?_)
  refine lv_iconst (v := 0) hx hb d_Q_bitsUsedBy_5 (by decide) ?_
  refine lv_istore_n (lv' := [(3, .int (0 : Int32)), (2, .int (pbits s j)), (0, .ref (lc 0)), (1, .ref (lc (8 + j)))]) hx hb d_Q_bitsUsedBy_6 rfl hl (by decide) rfl (fun ls hl => ?_)
  refine k_cntH (n0) (fun r ls H locs => lv_has ls 5 [(0, .ref (lc 0)), (1, .ref (lc (8 + j))), (2, .int (obs s (pbits s j) r)), (3, .int (nI r))] ∧ Sk G A lc s z n0 u u st H locs) (k0 := 0) (Nat.zero_le _) (⟨lv_sub hl [2, 3, 1, 0] rfl, hw⟩) (fun ls H locs hJ => ?_) (fun r ls H locs hr9 hJ ih => ?_)
  · obtain ⟨hl, hw⟩ := hJ
    refine lv_iload_n hx hb d_Q_bitsUsedBy_7 rfl (lv_at hl 3 rfl) ?_
    refine lv_aload_n hx hb d_Q_bitsUsedBy_8 rfl (lv_at hl 0 rfl) ?_
    refine kg_Q 2 (by decide) hx hb ht hown hw gw_123 rfl rfl d_Q_bitsUsedBy_9 ?_
    refine lv_icmp_ge (tgt := 67) hx hb d_Q_bitsUsedBy_12 (by decide) (fun c1 => ?_) (fun c1 => ?_)
    · refine lv_iload_n hx hb d_Q_bitsUsedBy_67 rfl (lv_at hl 2 rfl) ?_
      exact kt_i hx hb hr hlocks hw.1 d_Q_bitsUsedBy_68 (by exact ⟨by unfold ubits; rw [hn0], rfl⟩) (by first | decide | (dsimp only; omega)) (by first | decide | (dsimp only; omega))
    · exact absurd (nI_le (Nat.le_refl _) (by omega)) c1
  · obtain ⟨hl, hw⟩ := hJ
    refine lv_iload_n hx hb d_Q_bitsUsedBy_7 rfl (lv_at hl 3 rfl) ?_
    refine lv_aload_n hx hb d_Q_bitsUsedBy_8 rfl (lv_at hl 0 rfl) ?_
    refine kg_Q 2 (by decide) hx hb ht hown hw gw_123 rfl rfl d_Q_bitsUsedBy_9 ?_
    refine lv_icmp_ge (tgt := 67) hx hb d_Q_bitsUsedBy_12 (by decide) (fun c1 => ?_) (fun c1 => ?_)
    · exact absurd c1 (nI_ge hr9 (by omega))
    · refine lv_iconst (v := 0) hx hb d_Q_bitsUsedBy_15 (by decide) ?_
      refine lv_istore (lv' := [(4, .int (0 : Int32)), (0, .ref (lc 0)), (1, .ref (lc (8 + j))), (2, .int (obs s (pbits s j) r)), (3, .int (nI r))]) hx hb d_Q_bitsUsedBy_16 hl (by decide) rfl (fun ls hl => ?_)
      refine k_cntH (n0) (fun i ls H locs => lv_has ls 5 [(0, .ref (lc 0)), (1, .ref (lc (8 + j))), (2, .int (ibs s (obs s (pbits s j) r) i)), (3, .int (nI r)), (4, .int (nI i))] ∧ Sk G A lc s z n0 u u st H locs) (k0 := 0) (Nat.zero_le _) (⟨lv_sub hl [1, 2, 3, 4, 0] rfl, hw⟩) (fun ls H locs hJ => ?_) (fun i ls H locs hi hJ ih2 => ?_)
      · obtain ⟨hl, hw⟩ := hJ
        refine lv_iload hx hb d_Q_bitsUsedBy_18 (lv_at hl 4 rfl) ?_
        refine lv_aload_n hx hb d_Q_bitsUsedBy_20 rfl (lv_at hl 0 rfl) ?_
        refine kg_Q 2 (by decide) hx hb ht hown hw gw_123 rfl rfl d_Q_bitsUsedBy_21 ?_
        refine lv_icmp_ge (tgt := 61) hx hb d_Q_bitsUsedBy_24 (by decide) (fun c2 => ?_) (fun c2 => ?_)
        · obtain ⟨i2, ei2⟩ : ∃ y : Int32, y = (nI r) + 1 := ⟨_, rfl⟩
          refine lv_iinc (v := i2) (lv' := [(3, .int i2), (0, .ref (lc 0)), (1, .ref (lc (8 + j))), (2, .int (ibs s (obs s (pbits s j) r) n0)), (4, .int (nI n0))]) hx hb d_Q_bitsUsedBy_61 hl (k := 3) rfl (by rw [ei2]; rfl) (by decide) rfl (fun ls hl => ?_)
          rw [nI_1] at ei2; subst ei2
          refine lv_goto (tgt := 7) hx hb d_Q_bitsUsedBy_64 (by decide) ?_
          have e9 : obs s (pbits s j) (r + 1) = ibs s (obs s (pbits s j) r) n0 := by show ibs s _ (q_n s) = _; rw [hn0]
          rw [← e9] at hl
          exact ih ls H locs ⟨lv_sub hl [1, 2, 3, 0] rfl, hw⟩
        · exact absurd (nI_le (Nat.le_refl _) (by omega)) c2
      · obtain ⟨hl, hw⟩ := hJ
        refine lv_iload hx hb d_Q_bitsUsedBy_18 (lv_at hl 4 rfl) ?_
        refine lv_aload_n hx hb d_Q_bitsUsedBy_20 rfl (lv_at hl 0 rfl) ?_
        refine kg_Q 2 (by decide) hx hb ht hown hw gw_123 rfl rfl d_Q_bitsUsedBy_21 ?_
        refine lv_icmp_ge (tgt := 61) hx hb d_Q_bitsUsedBy_24 (by decide) (fun c2 => ?_) (fun c2 => ?_)
        · exact absurd c2 (nI_ge hi (by omega))
        · refine lv_iload_n hx hb d_Q_bitsUsedBy_27 rfl (lv_at hl 2 rfl) ?_
          refine lv_aload_n hx hb d_Q_bitsUsedBy_28 rfl (lv_at hl 0 rfl) ?_
          refine kg_Q 0 (by decide) hx hb ht hown hw gw_121 rfl rfl d_Q_bitsUsedBy_29 ?_
          refine lv_iload hx hb d_Q_bitsUsedBy_32 (lv_at hl 4 rfl) ?_
          refine ka_nodes (k := i) rfl hi hx hb hw d_Q_bitsUsedBy_34 ?_
          refine kc_i (kr_V 0 (C := ndC (q_so s i)) (As := []) (rest := [.int (ibs s (obs s (pbits s j) r) i)]) (c_Nd_bit l G A lc s z u hR i (by rw [hn0]; exact hi)) hx hb hml hown ht hw.1 gw_498 gw_491 (sel_bit _ (hw.nj hi).2.2) gw_53 gw_497 ⟨⟨by decide, by decide⟩, by decide +kernel⟩ ⟨by first | decide | (dsimp only; omega), by first | decide | (dsimp only; omega)⟩ (kr_N hw hi) rfl hl.1 rfl (lv_room (Nat.le_of_ble_eq_true rfl)) d_Q_bitsUsedBy_35 ⟨by first | decide | (dsimp only; omega), by first | decide | (dsimp only; omega)⟩) hw.1 (fun _ _ _ _ _ _ h => h.elim) (fun r3 u3 H3 locs3 hp3 hw3 => ?_)
          obtain ⟨er3, hq3⟩ := hp3
          replace hq3 := hq3.symm; subst hq3
          subst er3
          have hw : Sk G A lc s z n0 u u st H3 locs3 := ⟨hw3, hw.2⟩
          refine lv_iand hx hb d_Q_bitsUsedBy_38 ?_
          refine lv_if_eq (tgt := 55) hx hb d_Q_bitsUsedBy_39 (by decide) (fun c4 => ?_) (fun c4 => ?_)
          · obtain ⟨i5, ei5⟩ : ∃ y : Int32, y = (nI i) + 1 := ⟨_, rfl⟩
            refine lv_iinc (v := i5) (lv' := [(4, .int i5), (0, .ref (lc 0)), (1, .ref (lc (8 + j))), (2, .int (ibs s (obs s (pbits s j) r) i)), (3, .int (nI r))]) hx hb d_Q_bitsUsedBy_55 hl (k := 4) rfl (by rw [ei5]; rfl) (by decide) rfl (fun ls hl => ?_)
            rw [nI_1] at ei5; subst ei5
            refine lv_goto (tgt := 18) hx hb d_Q_bitsUsedBy_58 (by decide) ?_
            have e8 : ibs s (obs s (pbits s j) r) i = ibs s (obs s (pbits s j) r) (i + 1) := by show _ = (if _ then _ else _); rw [if_pos c4]
            rw [e8] at hl
            exact ih2 ls H3 locs3 ⟨lv_sub hl [1, 2, 3, 4, 0] rfl, hw⟩
          · refine lv_iload_n hx hb d_Q_bitsUsedBy_42 rfl (lv_at hl 2 rfl) ?_
            refine lv_aload_n hx hb d_Q_bitsUsedBy_43 rfl (lv_at hl 0 rfl) ?_
            refine kg_Q 0 (by decide) hx hb ht hown hw gw_121 rfl rfl d_Q_bitsUsedBy_44 ?_
            refine lv_iload hx hb d_Q_bitsUsedBy_47 (lv_at hl 4 rfl) ?_
            refine ka_nodes (k := i) rfl hi hx hb hw d_Q_bitsUsedBy_49 ?_
            refine kc_i (kr_V 0 (C := ndC (q_so s i)) (As := []) (rest := [.int (ibs s (obs s (pbits s j) r) i)]) (c_Nd_partBits l G A lc s z u hR i (by rw [hn0]; exact hi)) hx hb hml hown ht hw.1 gw_482 gw_483 (sel_partBits _ (hw.nj hi).2.2) gw_53 gw_489 ⟨⟨by decide, by decide⟩, by decide +kernel⟩ ⟨by first | decide | (dsimp only; omega), by first | decide | (dsimp only; omega)⟩ (kr_N hw hi) rfl hl.1 rfl (lv_room (Nat.le_of_ble_eq_true rfl)) d_Q_bitsUsedBy_50 ⟨by first | decide | (dsimp only; omega), by first | decide | (dsimp only; omega)⟩) hw.1 (fun _ _ _ _ _ _ h => h.elim) (fun r6 u6 H6 locs6 hp6 hw6 => ?_)
            obtain ⟨er6, hq6⟩ := hp6
            replace hq6 := hq6.symm; subst hq6
            subst er6
            have hw : Sk G A lc s z n0 u u st H6 locs6 := ⟨hw6, hw.2⟩
            refine lv_ior hx hb d_Q_bitsUsedBy_53 ?_
            refine lv_istore_n (lv' := [(2, .int ((ibs s (obs s (pbits s j) r) i) ||| (pbits s i))), (0, .ref (lc 0)), (1, .ref (lc (8 + j))), (3, .int (nI r)), (4, .int (nI i))]) hx hb d_Q_bitsUsedBy_54 rfl hl (by decide) rfl (fun ls hl => ?_)
            obtain ⟨i7, ei7⟩ : ∃ y : Int32, y = (nI i) + 1 := ⟨_, rfl⟩
            refine lv_iinc (v := i7) (lv' := [(4, .int i7), (2, .int ((ibs s (obs s (pbits s j) r) i) ||| (pbits s i))), (0, .ref (lc 0)), (1, .ref (lc (8 + j))), (3, .int (nI r))]) hx hb d_Q_bitsUsedBy_55 hl (k := 4) rfl (by rw [ei7]; rfl) (by decide) rfl (fun ls hl => ?_)
            rw [nI_1] at ei7; subst ei7
            refine lv_goto (tgt := 18) hx hb d_Q_bitsUsedBy_58 (by decide) ?_
            have e8 : ibs s (obs s (pbits s j) r) i ||| pbits s i = ibs s (obs s (pbits s j) r) (i + 1) := by show _ = (if _ then _ else _); rw [if_neg c4]
            rw [e8] at hl
            exact ih2 ls H6 locs6 ⟨lv_sub hl [2, 3, 1, 4, 0] rfl, hw⟩
set_option maxHeartbeats 4000000 in
set_option maxRecDepth 100000 in
theorem c_Q_hangsOn (l : Launch) (G : GT) (A : Nat → Prop) (lc : Nat → Nat) (s : QS) (z : ZS) (u : WT) (hR : rQ G lc s z u) (i j : Nat) (hi : i < q_n s) (hj : j < q_n s) : Kt l y_Q_hangsOn b_Q_hangsOn 3 (some .boolean) 3 66 0 0 0 0 0 0 G A u [.ref (lc 0), .ref (lc (8 + i)), .ref (lc (8 + j))] (KQ G A (Ri (fun r u' => r = bI (usesC s i j) ∧ u' = u))) (NX) := by
  refine k_of (by decide) (Nat.le_of_ble_eq_true rfl) (fun p e st m below meth c ls hx hb hr hlocks hml htab hname hown ht hw hl => ?_)
  have hl : lv_has ls 3 [(0, .ref (lc 0)), (1, .ref (lc (8 + i))), (2, .ref (lc (8 + j)))] := hl
  obtain ⟨n0, hn0⟩ : ∃ n0, q_n s = n0 := ⟨_, rfl⟩
  have hw : Sk G A lc s z n0 u u st st.heap [] := ⟨hw, hR, fQ.rf, hn0⟩
  refine lv_aload_n hx hb d_Q_hangsOn_0 rfl (lv_at hl 0 rfl) ?_
  refine lv_aload_n hx hb d_Q_hangsOn_1 rfl (lv_at hl 1 rfl) ?_
  refine kc_i (kr_V 1 (C := "QuoteGraph") (As := [.ref (lc (8 + i))]) (rest := []) (c_Q_bitsUsedBy l G A lc s z u hR i hi) hx hb hml hown ht hw.1 gw_478 gw_480 gw_8 gw_42 gw_481 ⟨⟨by decide, by decide⟩, by decide +kernel⟩ ⟨by first | decide | (dsimp only; omega), by first | decide | (dsimp only; omega)⟩ (kr_Q hw) rfl hl.1 rfl (lv_room (Nat.le_of_ble_eq_true rfl)) d_Q_hangsOn_2 ⟨by first | decide | (dsimp only; omega), by first | decide | (dsimp only; omega)⟩) hw.1 (fun _ _ _ _ _ _ h => h.elim) (fun r1 u1 H1 locs1 hp1 hw1 => ?_)
  obtain ⟨er1, hq1⟩ := hp1
  replace hq1 := hq1.symm; subst hq1
  subst er1
  have hw : Sk G A lc s z n0 u u st H1 locs1 := ⟨hw1, hw.2⟩
  refine lv_aload_n hx hb d_Q_hangsOn_5 rfl (lv_at hl 2 rfl) ?_
  refine kc_i (kr_V 0 (C := ndC (q_so s j)) (As := []) (rest := [.int (ubits s i)]) (c_Nd_bit l G A lc s z u hR j hj) hx hb hml hown ht hw.1 gw_498 gw_491 (sel_bit _ (hw.nj (by rw [← hn0]; exact hj)).2.2) gw_53 gw_497 ⟨⟨by decide, by decide⟩, by decide +kernel⟩ ⟨by first | decide | (dsimp only; omega), by first | decide | (dsimp only; omega)⟩ (kr_N hw (by rw [← hn0]; exact hj)) rfl hl.1 rfl (lv_room (Nat.le_of_ble_eq_true rfl)) d_Q_hangsOn_6 ⟨by first | decide | (dsimp only; omega), by first | decide | (dsimp only; omega)⟩) hw.1 (fun _ _ _ _ _ _ h => h.elim) (fun r2 u2 H2 locs2 hp2 hw2 => ?_)
  obtain ⟨er2, hq2⟩ := hp2
  replace hq2 := hq2.symm; subst hq2
  subst er2
  have hw : Sk G A lc s z n0 u u st H2 locs2 := ⟨hw2, hw.2⟩
  refine lv_iand hx hb d_Q_hangsOn_9 ?_
  refine lv_if_eq (tgt := 17) hx hb d_Q_hangsOn_10 (by decide) (fun c3 => ?_) (fun c3 => ?_)
  · refine lv_iconst (v := 0) hx hb d_Q_hangsOn_17 (by decide) ?_
    exact kt_z hx hb hr hlocks hw.1 d_Q_hangsOn_18 (by exact ⟨by simp [usesC, c3]; rfl, rfl⟩) (Or.inl rfl) (by first | decide | (dsimp only; omega)) (by first | decide | (dsimp only; omega))
  · refine lv_iconst (v := 1) hx hb d_Q_hangsOn_13 (by decide) ?_
    refine lv_goto (tgt := 18) hx hb d_Q_hangsOn_14 (by decide) ?_
    exact kt_z hx hb hr hlocks hw.1 d_Q_hangsOn_18 (by exact ⟨by simp [usesC, c3]; rfl, rfl⟩) (Or.inr rfl) (by first | decide | (dsimp only; omega)) (by first | decide | (dsimp only; omega))
end
section
/-! 15.rows2: the counters of the object; the tale of a change as mathematics -/
section SRows2
variable {p : Program} {l : Launch} {e : Env} {R : Room} {st : State} {m : MethodId} {args : Array Value} {below : List Frame} {meth : Method} {c : Code} {H : Heap} {locs : List Loc} {cells slots : Nat} {Q : State → Prop}
variable {cc : ByteArray} {pc : Nat} {ls : Array Slot} {rest : List Value} {G : GT} {A : Nat → Prop} {u0 u : WT} {lc : Nat → Nat} {s : QS} {z : ZS} {j n0 index : Nat} {own ref : String}
theorem kp_toldCount (x : Int32) (hexec : p.tables.exec = Jvm.exec) (hb : c.code = cc) (ht : ∀ w ∈ GW, w.before args st = true) (hown : st.vm.findClass own = some m.cls) (hw : Sk G A lc s z n0 u0 u st H locs) (hlink : Cond.fieldLink own index "QuoteGraph" "toldCount" "I" ∈ GW) (hdg : decode cc pc = .ok (.putfield index, 3))
    (kk : ∀ (H1 : Heap) (locs1 : List Loc) (u1 : WT), Sk G A lc (qS_tl s x) z n0 u0 u1 st H1 locs1 → W p l e R st m args below meth c H1 locs1 cells slots Q (F0 m (pc + 3) ls rest)) : W p l e R st m args below meth c H locs cells slots Q (F0 m pc ls (.int x :: .ref (lc 0) :: rest)) := by
  obtain ⟨ha, he⟩ := hw.2.1.at (liv_s (k := 0) (by omega))
  refine k_put hexec hb ht i_Q t_Q t_Q_ok n_Q hown hw.1 ha he rfl 3 (by decide) hlink (fun _ h => h) rfl (ty := .int) (by decide +kernel) rfl rfl (Nat.le_of_ble_eq_true rfl) hdg (fun H1 locs1 hw1 => ?_)
  have r := hw.2.1.put (s' := qS_tl s x) (z' := z) (liv_s (k := 0) (by omega)) (x := .inr (0, [.ref (lc 1), .ref (lc 2), .int (nI (q_n s)), .int x, .int (q_wk s), .int (q_fl s)])) rfl hw.2.1.1 rfl (fun i _ hi => by unfold cQ; rw [if_neg hi, if_neg hi]; rfl) (fun j hj k hk => hw.2.1.2.2.2 j hj k hk)
  exact kk H1 locs1 _ ⟨hw1, r.1, hw.2.2.1.tr (by rw [← hw.2.2.2]; exact r.2), hw.2.2.2⟩
theorem kp_workedCount (x : Int32) (hexec : p.tables.exec = Jvm.exec) (hb : c.code = cc) (ht : ∀ w ∈ GW, w.before args st = true) (hown : st.vm.findClass own = some m.cls) (hw : Sk G A lc s z n0 u0 u st H locs) (hlink : Cond.fieldLink own index "QuoteGraph" "workedCount" "I" ∈ GW) (hdg : decode cc pc = .ok (.putfield index, 3))
    (kk : ∀ (H1 : Heap) (locs1 : List Loc) (u1 : WT), Sk G A lc (qS_wk s x) z n0 u0 u1 st H1 locs1 → W p l e R st m args below meth c H1 locs1 cells slots Q (F0 m (pc + 3) ls rest)) : W p l e R st m args below meth c H locs cells slots Q (F0 m pc ls (.int x :: .ref (lc 0) :: rest)) := by
  obtain ⟨ha, he⟩ := hw.2.1.at (liv_s (k := 0) (by omega))
  refine k_put hexec hb ht i_Q t_Q t_Q_ok n_Q hown hw.1 ha he rfl 4 (by decide) hlink (fun _ h => h) rfl (ty := .int) (by decide +kernel) rfl rfl (Nat.le_of_ble_eq_true rfl) hdg (fun H1 locs1 hw1 => ?_)
  have r := hw.2.1.put (s' := qS_wk s x) (z' := z) (liv_s (k := 0) (by omega)) (x := .inr (0, [.ref (lc 1), .ref (lc 2), .int (nI (q_n s)), .int (q_tl s), .int x, .int (q_fl s)])) rfl hw.2.1.1 rfl (fun i _ hi => by unfold cQ; rw [if_neg hi, if_neg hi]; rfl) (fun j hj k hk => hw.2.1.2.2.2 j hj k hk)
  exact kk H1 locs1 _ ⟨hw1, r.1, hw.2.2.1.tr (by rw [← hw.2.2.2]; exact r.2), hw.2.2.2⟩
theorem kp_failureCount (x : Int32) (hexec : p.tables.exec = Jvm.exec) (hb : c.code = cc) (ht : ∀ w ∈ GW, w.before args st = true) (hown : st.vm.findClass own = some m.cls) (hw : Sk G A lc s z n0 u0 u st H locs) (hlink : Cond.fieldLink own index "QuoteGraph" "failureCount" "I" ∈ GW) (hdg : decode cc pc = .ok (.putfield index, 3))
    (kk : ∀ (H1 : Heap) (locs1 : List Loc) (u1 : WT), Sk G A lc (qS_fl s x) z n0 u0 u1 st H1 locs1 → W p l e R st m args below meth c H1 locs1 cells slots Q (F0 m (pc + 3) ls rest)) : W p l e R st m args below meth c H locs cells slots Q (F0 m pc ls (.int x :: .ref (lc 0) :: rest)) := by
  obtain ⟨ha, he⟩ := hw.2.1.at (liv_s (k := 0) (by omega))
  refine k_put hexec hb ht i_Q t_Q t_Q_ok n_Q hown hw.1 ha he rfl 5 (by decide) hlink (fun _ h => h) rfl (ty := .int) (by decide +kernel) rfl rfl (Nat.le_of_ble_eq_true rfl) hdg (fun H1 locs1 hw1 => ?_)
  have r := hw.2.1.put (s' := qS_fl s x) (z' := z) (liv_s (k := 0) (by omega)) (x := .inr (0, [.ref (lc 1), .ref (lc 2), .int (nI (q_n s)), .int (q_tl s), .int (q_wk s), .int x])) rfl hw.2.1.1 rfl (fun i _ hi => by unfold cQ; rw [if_neg hi, if_neg hi]; rfl) (fun j hj k hk => hw.2.1.2.2.2 j hj k hk)
  exact kk H1 locs1 _ ⟨hw1, r.1, hw.2.2.1.tr (by rw [← hw.2.2.2]; exact r.2), hw.2.2.2⟩
end SRows2
/-- how many of the first k -/
def vc (f : Nat → Bool) : Nat → Nat
  | 0 => 0
  | k + 1 => vc f k + (if f k then 1 else 0)
theorem vc_le (f : Nat → Bool) : ∀ n, vc f n ≤ n
  | 0 => Nat.le_refl _
  | n + 1 => by have := vc_le f n; show vc f n + _ ≤ _; split <;> omega
theorem vc_mono {f g : Nat → Bool} : ∀ {n : Nat}, (∀ i, i < n → f i = true → g i = true) → vc f n ≤ vc g n
  | 0, _ => Nat.le_refl _
  | n + 1, h => by
    have h1 := vc_mono (n := n) (fun i hi => h i (by omega))
    have h2 := h n (by omega)
    show vc f n + _ ≤ vc g n + _
    cases hf : f n
    · simp; omega
    · rw [h2 hf]; simp; exact h1
theorem vc_congr {f g : Nat → Bool} : ∀ {n : Nat}, (∀ i, i < n → f i = g i) → vc f n = vc g n
  | 0, _ => rfl
  | n + 1, h => by show vc f n + _ = vc g n + _; rw [vc_congr (n := n) (fun i hi => h i (by omega)), h n (by omega)]
theorem vc_off {f : Nat → Bool} {j : Nat} : ∀ {n : Nat}, j < n → f j = true → vc (va_up f j false) n + 1 = vc f n
  | 0, h, _ => absurd h (by omega)
  | n + 1, h, hf => by
    show vc (va_up f j false) n + (if va_up f j false n = true then 1 else 0) + 1 = vc f n + _
    by_cases hj : j = n
    · subst hj
      rw [va_up_self, vc_congr (f := va_up f j false) (g := f) (fun i hi => va_up_ne _ _ (by omega)), hf]; simp
    · have := vc_off (n := n) (by omega) hf
      rw [va_up_ne _ _ (fun e => hj e.symm)]; omega
/-- node j's users are told, by f, in their order -/
def tellU (f : QS → Nat → QS) (j : Nat) (s : QS) : Nat → QS
  | 0 => s
  | i + 1 => if pbits (tellU f j s i) i &&& bitI j = 0 then tellU f j s i else f (tellU f j s i) i
/-- node j is told (d: more than the nodes that are valid) -/
def tellF : Nat → QS → Nat → QS
  | 0, s, _ => s
  | d + 1, s, j => if q_va s j = false then s else if q_fr s j = true then qS_mi s (va_up (q_mi s) j true) else tellU (tellF d) j (qS_tl (qS_va s (va_up (q_va s) j false)) (q_tl s + 1)) (q_n s)
/-- what telling leaves as it was; valid ones only get fewer -/
def tlK (s s' : QS) : Prop := (q_n s' = q_n s ∧ q_so s' = q_so s ∧ q_am s' = q_am s ∧ q_fr s' = q_fr s ∧ q_tw s' = q_tw s ∧ q_pt s' = q_pt s ∧ q_wa s' = q_wa s ∧ q_wb s' = q_wb s ∧ q_kd s' = q_kd s ∧ q_sp s' = q_sp s ∧ q_ch s' = q_ch s ∧ q_us s' = q_us s ∧ q_en s' = q_en s ∧ q_sz s' = q_sz s ∧ q_wk s' = q_wk s ∧ q_fl s' = q_fl s) ∧ ∀ i, q_va s' i = true → q_va s i = true
theorem tlK.rf {s : QS} : tlK s s := ⟨⟨rfl, rfl, rfl, rfl, rfl, rfl, rfl, rfl, rfl, rfl, rfl, rfl, rfl, rfl, rfl, rfl⟩, fun _ h => h⟩
theorem tlK.tr {s s' s'' : QS} (h : tlK s s') (h' : tlK s' s'') : tlK s s'' := by
  obtain ⟨⟨a1, a2, a3, a4, a5, a6, a7, a8, a9, a10, a11, a12, a13, a14, a15, a16⟩, a⟩ := h
  obtain ⟨⟨b1, b2, b3, b4, b5, b6, b7, b8, b9, b10, b11, b12, b13, b14, b15, b16⟩, b⟩ := h'
  exact ⟨⟨b1.trans a1, b2.trans a2, b3.trans a3, b4.trans a4, b5.trans a5, b6.trans a6, b7.trans a7, b8.trans a8, b9.trans a9, b10.trans a10, b11.trans a11, b12.trans a12, b13.trans a13, b14.trans a14, b15.trans a15, b16.trans a16⟩, fun i hi => a i (b i hi)⟩
theorem tellU_K {f : QS → Nat → QS} (hf : ∀ s i, tlK s (f s i)) {j : Nat} {s : QS} : ∀ k, tlK s (tellU f j s k)
  | 0 => tlK.rf
  | k + 1 => by
    show tlK s (if _ then _ else _)
    split
    · exact tellU_K hf k
    · exact (tellU_K hf k).tr (hf _ _)
theorem tlK_off {s : QS} {j : Nat} : tlK s (qS_tl (qS_va s (va_up (q_va s) j false)) (q_tl s + 1)) := ⟨⟨rfl, rfl, rfl, rfl, rfl, rfl, rfl, rfl, rfl, rfl, rfl, rfl, rfl, rfl, rfl, rfl⟩, fun i h => by
  have h : va_up (q_va s) j false i = true := h
  by_cases hij : i = j
  · subst hij; rw [va_up_self] at h; cases h
  · rwa [va_up_ne _ _ hij] at h⟩
theorem tellF_K : ∀ (d : Nat) (s : QS) (j : Nat), tlK s (tellF d s j)
  | 0, _, _ => tlK.rf
  | d + 1, s, j => by
    show tlK s (if _ then _ else if _ then _ else _)
    split
    · exact tlK.rf
    · split
      · exact ⟨⟨rfl, rfl, rfl, rfl, rfl, rfl, rfl, rfl, rfl, rfl, rfl, rfl, rfl, rfl, rfl, rfl⟩, fun _ h => h⟩
      · exact tlK_off.tr (tellU_K (fun s i => tellF_K d s i) _)
theorem tlK.vc {s s' : QS} (h : tlK s s') : vc (q_va s') (q_n s') ≤ vc (q_va s) (q_n s) := by rw [h.1.1]; exact vc_mono (fun i _ hi => h.2 i hi)
theorem tlK.ok {s s' : QS} (h : tlK s s') (ho : okQ s) : okQ s' := by
  obtain ⟨⟨a1, a2, a3, a4, a5, a6, a7, a8, a9, a10, a11, a12, a13, a14, a15, a16⟩, a⟩ := h
  unfold okQ; rw [a1, a2, a6, a13]; exact ho
end
section
/-! 16.tell: contracts of tell and tellUsersOf, by induction on a depth -/
abbrev T_tell (l : Launch) (G : GT) (A : Nat → Prop) (lc : Nat → Nat) (d : Nat) : Prop := ∀ (s : QS) (z : ZS) (u : WT), rQ G lc s z u → vc (q_va s) (q_n s) < d → ∀ j, j < q_n s → Kt l y_Q_tell b_Q_tell 2 none (2 * d + 2) (50 * d + 50) (0) (0) (0) (0) (0) (0) G A u [.ref (lc 0), .ref (lc (8 + j))] (KQ G A (Rv (fun u' => rQ G lc (tellF d s j) z u' ∧ fQ lc (q_n s) u u'))) NX
abbrev T_tellU (l : Launch) (G : GT) (A : Nat → Prop) (lc : Nat → Nat) (d : Nat) : Prop := ∀ (s : QS) (z : ZS) (u : WT), rQ G lc s z u → vc (q_va s) (q_n s) < d → ∀ j, j < q_n s → Kt l y_Q_tellUsersOf b_Q_tellUsersOf 3 none (2 * d + 3) (50 * d + 75) (0) (0) (0) (0) (0) (0) G A u [.ref (lc 0), .ref (lc (8 + j))] (KQ G A (Rv (fun u' => rQ G lc (tellU (tellF d) j s (q_n s)) z u' ∧ fQ lc (q_n s) u u'))) NX
set_option maxHeartbeats 4000000 in
set_option maxRecDepth 100000 in
theorem c_tellU_of (l : Launch) (G : GT) (A : Nat → Prop) (lc : Nat → Nat) (d : Nat) (ihd : T_tell l G A lc d) (s : QS) (z : ZS) (u : WT) (hR : rQ G lc s z u) (hv : vc (q_va s) (q_n s) < d) (j : Nat) (hj : j < q_n s) : Kt l y_Q_tellUsersOf b_Q_tellUsersOf 3 none (2 * d + 3) (50 * d + 75) 0 0 0 0 0 0 G A u [.ref (lc 0), .ref (lc (8 + j))] (KQ G A (Rv (fun u' => rQ G lc (tellU (tellF d) j s (q_n s)) z u' ∧ fQ lc (q_n s) u u'))) (NX) := by
  refine k_of (by decide) (Nat.le_of_ble_eq_true rfl) (fun p e st m below meth c ls hx hb hr hlocks hml htab hname hown ht hw hl => ?_)
  have hl : lv_has ls 3 [(0, .ref (lc 0)), (1, .ref (lc (8 + j)))] := hl
  obtain ⟨n0, hn0⟩ : ∃ n0, q_n s = n0 := ⟨_, rfl⟩
  have hw : Sk G A lc s z n0 u u st st.heap [] := ⟨hw, hR, fQ.rf, hn0⟩
  have h16 : n0 ≤ 16 := by rw [← hn0]; exact hR.1.1
  rw [hn0] at hj
  refine lv_iconst (v := 0) hx hb d_Q_tellUsersOf_0 (by decide) ?_
  refine lv_istore_n (lv' := [(2, .int (0 : Int32)), (0, .ref (lc 0)), (1, .ref (lc (8 + j)))]) hx hb d_Q_tellUsersOf_1 rfl hl (by decide) rfl (fun ls hl => ?_)
  refine k_cntH (n0) (fun i ls H locs => lv_has ls 3 [(0, .ref (lc 0)), (1, .ref (lc (8 + j))), (2, .int (nI i))] ∧ ∃ u9, Sk G A lc (tellU (tellF d) j s i) z n0 u u9 st H locs) (k0 := 0) (Nat.zero_le _) (⟨lv_sub hl [1, 2, 0] rfl, u, hw⟩) (fun ls H locs hJ => ?_) (fun i ls H locs hi hJ ih => ?_)
  · obtain ⟨hl, hw⟩ := hJ
    obtain ⟨u9, hw⟩ := hw
    refine lv_iload_n hx hb d_Q_tellUsersOf_2 rfl (lv_at hl 2 rfl) ?_
    refine lv_aload_n hx hb d_Q_tellUsersOf_3 rfl (lv_at hl 0 rfl) ?_
    refine kg_Q 2 (by decide) hx hb ht hown hw gw_123 rfl rfl d_Q_tellUsersOf_4 ?_
    refine lv_icmp_ge (tgt := 43) hx hb d_Q_tellUsersOf_7 (by decide) (fun c1 => ?_) (fun c1 => ?_)
    · exact kt_v hx hb hr hlocks hw.1 d_Q_tellUsersOf_43 (by rw [hn0]; exact ⟨hw.2.1, hw.2.2.1⟩) (by first | decide | (dsimp only; omega)) (by first | decide | (dsimp only; omega))
    · exact absurd (nI_le (Nat.le_refl _) (by omega)) c1
  · obtain ⟨hl, hw⟩ := hJ
    obtain ⟨u9, hw⟩ := hw
    have hK : tlK s (tellU (tellF d) j s i) := tellU_K (fun s i => tellF_K d s i) i
    have hN : q_n (tellU (tellF d) j s i) = n0 := by rw [hK.1.1]; exact hn0
    refine lv_iload_n hx hb d_Q_tellUsersOf_2 rfl (lv_at hl 2 rfl) ?_
    refine lv_aload_n hx hb d_Q_tellUsersOf_3 rfl (lv_at hl 0 rfl) ?_
    refine kg_Q 2 (by decide) hx hb ht hown hw gw_123 rfl rfl d_Q_tellUsersOf_4 ?_
    refine lv_icmp_ge (tgt := 43) hx hb d_Q_tellUsersOf_7 (by decide) (fun c1 => ?_) (fun c1 => ?_)
    · exact absurd c1 (nI_ge hi (by omega))
    · refine lv_aload_n hx hb d_Q_tellUsersOf_10 rfl (lv_at hl 0 rfl) ?_
      refine kg_Q 0 (by decide) hx hb ht hown hw gw_121 rfl rfl d_Q_tellUsersOf_11 ?_
      refine lv_iload_n hx hb d_Q_tellUsersOf_14 rfl (lv_at hl 2 rfl) ?_
      refine ka_nodes (k := i) rfl hi hx hb hw d_Q_tellUsersOf_15 ?_
      refine kc_i (kr_V 0 (C := ndC (q_so (tellU (tellF d) j s i) i)) (As := []) (rest := []) (c_Nd_partBits l G A lc _ z u9 hw.2.1 i (by rw [hN]; exact hi)) hx hb hml hown ht hw.1 gw_482 gw_483 (sel_partBits _ (hw.nj hi).2.2) gw_53 gw_489 ⟨⟨by decide, by decide⟩, by decide +kernel⟩ ⟨by first | decide | (dsimp only; omega), by first | decide | (dsimp only; omega)⟩ (kr_N hw hi) rfl hl.1 rfl (lv_room (Nat.le_of_ble_eq_true rfl)) d_Q_tellUsersOf_16 ⟨by first | decide | (dsimp only; omega), by first | decide | (dsimp only; omega)⟩) hw.1 (fun _ _ _ _ _ _ h => h.elim) (fun r1 u1 H1 locs1 hp1 hw1 => ?_)
      obtain ⟨er1, hq1⟩ := hp1
      replace hq1 := hq1.symm; subst hq1
      subst er1
      have hw : Sk G A lc (tellU (tellF d) j s i) z n0 u u9 st H1 locs1 := ⟨hw1, hw.2⟩
      refine lv_aload_n hx hb d_Q_tellUsersOf_19 rfl (lv_at hl 1 rfl) ?_
      refine kc_i (kr_V 0 (C := ndC (q_so (tellU (tellF d) j s i) j)) (As := []) (rest := [.int (pbits (tellU (tellF d) j s i) i)]) (c_Nd_bit l G A lc _ z u9 hw.2.1 j (by rw [hN]; exact hj)) hx hb hml hown ht hw.1 gw_498 gw_491 (sel_bit _ (hw.nj hj).2.2) gw_53 gw_497 ⟨⟨by decide, by decide⟩, by decide +kernel⟩ ⟨by first | decide | (dsimp only; omega), by first | decide | (dsimp only; omega)⟩ (kr_N hw hj) rfl hl.1 rfl (lv_room (Nat.le_of_ble_eq_true rfl)) d_Q_tellUsersOf_20 ⟨by first | decide | (dsimp only; omega), by first | decide | (dsimp only; omega)⟩) hw.1 (fun _ _ _ _ _ _ h => h.elim) (fun r2 u2 H2 locs2 hp2 hw2 => ?_)
      obtain ⟨er2, hq2⟩ := hp2
      replace hq2 := hq2.symm; subst hq2
      subst er2
      have hw : Sk G A lc (tellU (tellF d) j s i) z n0 u u9 st H2 locs2 := ⟨hw2, hw.2⟩
      refine lv_iand hx hb d_Q_tellUsersOf_23 ?_
      refine lv_if_eq (tgt := 37) hx hb d_Q_tellUsersOf_24 (by decide) (fun c3 => ?_) (fun c3 => ?_)
      · obtain ⟨i4, ei4⟩ : ∃ y : Int32, y = (nI i) + 1 := ⟨_, rfl⟩
        refine lv_iinc (v := i4) (lv' := [(2, .int i4), (0, .ref (lc 0)), (1, .ref (lc (8 + j)))]) hx hb d_Q_tellUsersOf_37 hl (k := 2) rfl (by rw [ei4]; rfl) (by decide) rfl (fun ls hl => ?_)
        rw [nI_1] at ei4; subst ei4
        refine lv_goto (tgt := 2) hx hb d_Q_tellUsersOf_40 (by decide) ?_
        have e8 : tellU (tellF d) j s i = tellU (tellF d) j s (i + 1) := by show _ = (if _ then _ else _); rw [if_pos c3]
        rw [e8] at hw
        exact ih ls H2 locs2 ⟨lv_sub hl [1, 2, 0] rfl, u9, hw⟩
      · refine lv_aload_n hx hb d_Q_tellUsersOf_27 rfl (lv_at hl 0 rfl) ?_
        refine lv_aload_n hx hb d_Q_tellUsersOf_28 rfl (lv_at hl 0 rfl) ?_
        refine kg_Q 0 (by decide) hx hb ht hown hw gw_121 rfl rfl d_Q_tellUsersOf_29 ?_
        refine lv_iload_n hx hb d_Q_tellUsersOf_32 rfl (lv_at hl 2 rfl) ?_
        refine ka_nodes (k := i) rfl hi hx hb hw d_Q_tellUsersOf_33 ?_
        refine kc_v (kr_V 1 (C := "QuoteGraph") (As := [.ref (lc (8 + i))]) (rest := []) (ihd (tellU (tellF d) j s i) z u9 hw.2.1 (Nat.lt_of_le_of_lt hK.vc hv) i (by rw [hN]; exact hi)) hx hb hml hown ht hw.1 gw_508 gw_510 gw_9 gw_42 gw_511 ⟨⟨by decide, by decide⟩, by decide +kernel⟩ ⟨by first | decide | (dsimp only; omega), by first | decide | (dsimp only; omega)⟩ (kr_Q hw) rfl hl.1 rfl (lv_room (Nat.le_of_ble_eq_true rfl)) d_Q_tellUsersOf_34 ⟨by first | decide | (dsimp only; omega), by first | decide | (dsimp only; omega)⟩) hw.1 (fun _ _ _ _ _ _ h => h.elim) (fun u5 H5 locs5 hp5 hw5 => ?_)
        obtain ⟨g1, g2⟩ := hp5
        have e8 : tellF d (tellU (tellF d) j s i) i = tellU (tellF d) j s (i + 1) := by show _ = (if _ then _ else _); rw [if_neg c3]
        rw [e8] at g1
        have hw : Sk G A lc (tellU (tellF d) j s (i + 1)) z n0 u u5 st H5 locs5 := ⟨hw5, g1, hw.2.2.1.tr (by rw [← hN]; exact g2), by rw [(tellU_K (fun s i => tellF_K d s i) (i + 1)).1.1]; exact hn0⟩
        obtain ⟨i6, ei6⟩ : ∃ y : Int32, y = (nI i) + 1 := ⟨_, rfl⟩
        refine lv_iinc (v := i6) (lv' := [(2, .int i6), (0, .ref (lc 0)), (1, .ref (lc (8 + j)))]) hx hb d_Q_tellUsersOf_37 hl (k := 2) rfl (by rw [ei6]; rfl) (by decide) rfl (fun ls hl => ?_)
        rw [nI_1] at ei6; subst ei6
        refine lv_goto (tgt := 2) hx hb d_Q_tellUsersOf_40 (by decide) ?_
        exact ih ls H5 locs5 ⟨lv_sub hl [1, 2, 0] rfl, u5, hw⟩
set_option maxHeartbeats 4000000 in
set_option maxRecDepth 100000 in
theorem c_tell_of (l : Launch) (G : GT) (A : Nat → Prop) (lc : Nat → Nat) (d : Nat) (ihU : T_tellU l G A lc d) (s : QS) (z : ZS) (u : WT) (hR : rQ G lc s z u) (hv : vc (q_va s) (q_n s) < d + 1) (j : Nat) (hj : j < q_n s) : Kt l y_Q_tell b_Q_tell 2 none (2 * (d + 1) + 2) (50 * (d + 1) + 50) 0 0 0 0 0 0 G A u [.ref (lc 0), .ref (lc (8 + j))] (KQ G A (Rv (fun u' => rQ G lc (tellF (d + 1) s j) z u' ∧ fQ lc (q_n s) u u'))) (NX) := by
  refine k_of (by decide) (Nat.le_of_ble_eq_true rfl) (fun p e st m below meth c ls hx hb hr hlocks hml htab hname hown ht hw hl => ?_)
  have hl : lv_has ls 2 [(0, .ref (lc 0)), (1, .ref (lc (8 + j)))] := hl
  obtain ⟨n0, hn0⟩ : ∃ n0, q_n s = n0 := ⟨_, rfl⟩
  have hw : Sk G A lc s z n0 u u st st.heap [] := ⟨hw, hR, fQ.rf, hn0⟩
  have h16 : n0 ≤ 16 := by rw [← hn0]; exact hR.1.1
  rw [hn0] at hj
  refine lv_aload_n hx hb d_Q_tell_0 rfl (lv_at hl 1 rfl) ?_
  refine kg_N (j := j) 4 (by decide) hx hb ht hown hw hj gw_284 (Or.inl rfl) rfl d_Q_tell_1 ?_
  refine lv_if_ne (tgt := 8) hx hb d_Q_tell_4 (by decide) (fun c1 => ?_) (fun c1 => ?_)
  · have hva : q_va s j = true := (bI_ne _).mp c1
    refine lv_aload_n hx hb d_Q_tell_8 rfl (lv_at hl 1 rfl) ?_
    refine kg_N (j := j) 5 (by decide) hx hb ht hown hw hj gw_285 (Or.inl rfl) rfl d_Q_tell_9 ?_
    refine lv_if_eq (tgt := 21) hx hb d_Q_tell_12 (by decide) (fun c2 => ?_) (fun c2 => ?_)
    · have hfr : q_fr s j = false := (bI_eq _).mp c2
      refine lv_aload_n hx hb d_Q_tell_21 rfl (lv_at hl 1 rfl) ?_
      refine lv_iconst (v := 0) hx hb d_Q_tell_22 (by decide) ?_
      refine kp_valid (j := j) false hx hb ht hown hw hj gw_284 (Or.inl rfl) d_Q_tell_23 (fun H3 locs3 u3 hw => ?_)
      refine lv_aload_n hx hb d_Q_tell_26 rfl (lv_at hl 0 rfl) ?_
      refine lv_dup hx hb d_Q_tell_27 rfl ?_
      refine kg_Q 3 (by decide) hx hb ht hown hw gw_124 rfl rfl d_Q_tell_28 ?_
      refine lv_iconst (v := 1) hx hb d_Q_tell_31 (by decide) ?_
      refine lv_iadd hx hb d_Q_tell_32 ?_
      refine kp_toldCount ((q_tl (qS_va s (va_up (q_va s) j false))) + (1 : Int32)) hx hb ht hown hw gw_124 d_Q_tell_33 (fun H4 locs4 u4 hw => ?_)
      refine lv_aload_n hx hb d_Q_tell_36 rfl (lv_at hl 0 rfl) ?_
      refine lv_aload_n hx hb d_Q_tell_37 rfl (lv_at hl 1 rfl) ?_
      refine kc_v (kr_V 1 (C := "QuoteGraph") (As := [.ref (lc (8 + j))]) (rest := []) (ihU (qS_tl (qS_va s (va_up (q_va s) j false)) ((q_tl (qS_va s (va_up (q_va s) j false))) + (1 : Int32))) z u4 hw.2.1 (by have := vc_off (f := q_va s) (j := j) (n := q_n s) (by rw [hn0]; exact hj) hva; show vc (va_up (q_va s) j false) (q_n s) < d; omega) j (by show j < q_n s; rw [hn0]; exact hj)) hx hb hml hown ht hw.1 gw_512 gw_514 gw_10 gw_42 gw_515 ⟨⟨by decide, by decide⟩, by decide +kernel⟩ ⟨by first | decide | (dsimp only; omega), by first | decide | (dsimp only; omega)⟩ (kr_Q hw) rfl hl.1 rfl (lv_room (Nat.le_of_ble_eq_true rfl)) d_Q_tell_38 ⟨by first | decide | (dsimp only; omega), by first | decide | (dsimp only; omega)⟩) hw.1 (fun _ _ _ _ _ _ h => h.elim) (fun u5 H5 locs5 hp5 hw5 => ?_)
      obtain ⟨g1, g2⟩ := hp5
      exact kt_v hx hb hr hlocks hw5 d_Q_tell_41 (by refine ⟨?_, by rw [hn0]; exact hw.2.2.1.tr (by rw [← hn0]; exact g2)⟩; show rQ G lc (if _ then _ else if _ then _ else _) z _; rw [if_neg (by rw [hva]; decide), if_neg (by rw [hfr]; decide)]; exact g1) (by first | decide | (dsimp only; omega)) (by first | decide | (dsimp only; omega))
    · have hfr : q_fr s j = true := (bI_ne _).mp c2
      refine lv_aload_n hx hb d_Q_tell_15 rfl (lv_at hl 1 rfl) ?_
      refine lv_iconst (v := 1) hx hb d_Q_tell_16 (by decide) ?_
      refine kp_missed (j := j) true hx hb ht hown hw hj gw_288 (Or.inl rfl) d_Q_tell_17 (fun H6 locs6 u6 hw => ?_)
      exact kt_v hx hb hr hlocks hw.1 d_Q_tell_20 (by refine ⟨?_, by rw [hn0]; exact hw.2.2.1⟩; show rQ G lc (if _ then _ else if _ then _ else _) z _; rw [if_neg (by rw [hva]; decide), if_pos hfr]; exact hw.2.1) (by first | decide | (dsimp only; omega)) (by first | decide | (dsimp only; omega))
  · have hva : q_va s j = false := (bI_eq _).mp c1
    exact kt_v hx hb hr hlocks hw.1 d_Q_tell_7 (by refine ⟨?_, by rw [hn0]; exact hw.2.2.1⟩; show rQ G lc (if _ then _ else if _ then _ else _) z _; rw [if_pos hva]; exact hw.2.1) (by first | decide | (dsimp only; omega)) (by first | decide | (dsimp only; omega))
theorem c_tell (l : Launch) (G : GT) (A : Nat → Prop) (lc : Nat → Nat) : ∀ d, T_tell l G A lc d
  | 0 => fun _ _ _ _ hv => absurd hv (Nat.not_lt_zero _)
  | d + 1 => fun s z u hR hv j hj => c_tell_of l G A lc d (fun s z u hR hv j hj => c_tellU_of l G A lc d (c_tell l G A lc d) s z u hR hv j hj) s z u hR hv j hj
theorem c_tellU (l : Launch) (G : GT) (A : Nat → Prop) (lc : Nat → Nat) (d : Nat) : T_tellU l G A lc d := fun s z u hR hv j hj => c_tellU_of l G A lc d (c_tell l G A lc d) s z u hR hv j hj
end
section
/-! 17.optpure: an option's numbers -/
def mxL (x y : Int64) : Int64 := if y < x then x else y
theorem sw_out3 {x : Int32} (h0 : ¬ x = 0) (h1 : ¬ x = 1) (h2 : ¬ x = 2) : x.toInt < 0 ∨ 2 < x.toInt := by
  have a0 : x.toInt ≠ 0 := fun h => h0 (Int32.toInt_inj.mp (h.trans (by decide)))
  have a1 : x.toInt ≠ 1 := fun h => h1 (Int32.toInt_inj.mp (h.trans (by decide)))
  have a2 : x.toInt ≠ 2 := fun h => h2 (Int32.toInt_inj.mp (h.trans (by decide)))
  omega
theorem sw_out4 {x : Int32} (h0 : ¬ x = 0) (h1 : ¬ x = 1) (h2 : ¬ x = 2) (h3 : ¬ x = 3) : x.toInt < 0 ∨ 3 < x.toInt := by
  have a3 : x.toInt ≠ 3 := fun h => h3 (Int32.toInt_inj.mp (h.trans (by decide)))
  have := sw_out3 h0 h1 h2
  omega
theorem sw_out6 {x : Int32} (h0 : ¬ x = 0) (h1 : ¬ x = 1) (h2 : ¬ x = 2) (h3 : ¬ x = 3) (h4 : ¬ x = 4) (h5 : ¬ x = 5) : x.toInt < 0 ∨ 5 < x.toInt := by
  have a4 : x.toInt ≠ 4 := fun h => h4 (Int32.toInt_inj.mp (h.trans (by decide)))
  have a5 : x.toInt ≠ 5 := fun h => h5 (Int32.toInt_inj.mp (h.trans (by decide)))
  have := sw_out4 h0 h1 h2 h3
  omega
/-- spot, move -/
def oS (s : QS) (o : Nat) : Int64 := q_am s ((q_pt s o 0).getD 0)
def oM (s : QS) (o : Nat) : Int64 := q_am s ((q_pt s o 1).getD 0)
def oP (s : QS) (o : Nat) (m : Int32) : Int64 := oS s o + m.toInt64 * oM s o
/-- the price is out -/
def oOut (s : QS) (o : Nat) (x : Int64) : Bool := match q_pt s o 3 with
  | none => false
  | some k => decide (¬ x < q_am s k)
/-- the payoff of a price that isn't out -/
def oPI (s : QS) (o : Nat) (x : Int64) : Int64 := if q_kd s o = 0 then mxL (x - q_wa s o) 0 else if q_kd s o = 1 then mxL (q_wa s o - x) 0 else if q_kd s o = 2 then (if x < q_wa s o then 0 else 102400) else x - q_wa s o
def oPay (s : QS) (o : Nat) (x : Int64) : Int64 := if oOut s o x = true then 0 else oPI s o x
def oHeld (s : QS) (o : Nat) (x v : Int64) : Int64 := if oOut s o x = true then 0 else if q_us s o = true then mxL v (oPI s o x) else v
/-- what the rate takes of 1024 -/
def oTak (s : QS) (o : Nat) : Int64 := match q_pt s o 2 with
  | none => 0
  | some k => q_am s k >>> ((10 : Int32).toInt64 &&& 63)
theorem opt_p {s : QS} (h : okQ s) {o : Nat} (ho : o < q_n s) (h3 : q_so s o = 3) : (q_pt s o 0).getD 0 < q_n s ∧ (q_pt s o 1).getD 0 < q_n s := by
  obtain ⟨-, h2, -⟩ := h.2 o ho
  obtain ⟨x, hx, hl⟩ := h2 0 (by omega) (by omega)
  obtain ⟨y, hy, hm⟩ := h2 1 (by omega) (by omega)
  rw [hx, hy]; exact ⟨hl, hm⟩
theorem opt_k {s : QS} (h : okQ s) {o : Nat} (ho : o < q_n s) {k x : Nat} (hx : q_pt s o k = some x) : x < q_n s := (h.2 o ho).2.2.2.2.1 k x hx
end
section
/-! 18.option: contracts of an option's own methods -/
set_option maxHeartbeats 4000000 in
set_option maxRecDepth 100000 in
theorem c_Op_priceAt (l : Launch) (G : GT) (A : Nat → Prop) (lc : Nat → Nat) (s : QS) (z : ZS) (u : WT) (hR : rQ G lc s z u) (o : Nat) (ho : o < q_n s) (h3 : q_so s o = 3) (m9 : Int32) : Kt l y_Op_priceAt b_Op_priceAt 2 (some .long) 0 0 0 0 0 0 0 0 G A u [.ref (lc (8 + o)), .int m9] (KQ G A (Rl (fun r u' => r = oP s o m9 ∧ u' = u))) (NX) := by
  refine k_of (by decide) (Nat.le_of_ble_eq_true rfl) (fun p e st m below meth c ls hx hb hr hlocks hml htab hname hown ht hw hl => ?_)
  have hl : lv_has ls 2 [(0, .ref (lc (8 + o))), (1, .int m9)] := hl
  obtain ⟨n0, hn0⟩ : ∃ n0, q_n s = n0 := ⟨_, rfl⟩
  have hw : Sk G A lc s z n0 u u st st.heap [] := ⟨hw, hR, fQ.rf, hn0⟩
  have hp0 := (opt_p hR.1 ho h3).1
  have hp1 := (opt_p hR.1 ho h3).2
  have hok := hR.1
  have hkk : ∀ {k x : Nat}, q_pt s o k = some x → x < n0 := fun hx => by rw [← hn0]; exact opt_k hok (by first | exact ho | (rw [hn0]; exact ho)) hx
  rw [hn0] at ho hp0 hp1
  refine lv_aload_n hx hb d_Op_priceAt_0 rfl (lv_at hl 0 rfl) ?_
  refine kg_O (j := o) 10 (by decide) (by decide) hx hb ht hown hw ho h3 gw_400 rfl (by rw [ndX_O h3]; rfl) d_Op_priceAt_1 ?_
  refine kg_N (j := ((q_pt s o 0).getD 0)) 3 (by decide) hx hb ht hown hw hp0 gw_277 (Or.inl rfl) rfl d_Op_priceAt_4 ?_
  refine lv_iload_n hx hb d_Op_priceAt_7 rfl (lv_at hl 1 rfl) ?_
  refine lv_i2l hx hb d_Op_priceAt_8 rfl ?_
  refine lv_aload_n hx hb d_Op_priceAt_9 rfl (lv_at hl 0 rfl) ?_
  refine kg_O (j := o) 11 (by decide) (by decide) hx hb ht hown hw ho h3 gw_402 rfl (by rw [ndX_O h3]; rfl) d_Op_priceAt_10 ?_
  refine kg_N (j := ((q_pt s o 1).getD 0)) 3 (by decide) hx hb ht hown hw hp1 gw_277 (Or.inl rfl) rfl d_Op_priceAt_13 ?_
  refine lv_lmul hx hb d_Op_priceAt_16 ?_
  refine lv_ladd hx hb d_Op_priceAt_17 ?_
  exact kt_l hx hb hr hlocks hw.1 d_Op_priceAt_18 (by exact ⟨rfl, rfl⟩) (by first | decide | (dsimp only; omega)) (by first | decide | (dsimp only; omega))
set_option maxHeartbeats 4000000 in
set_option maxRecDepth 100000 in
theorem c_Op_isOut (l : Launch) (G : GT) (A : Nat → Prop) (lc : Nat → Nat) (s : QS) (z : ZS) (u : WT) (hR : rQ G lc s z u) (o : Nat) (ho : o < q_n s) (h3 : q_so s o = 3) (x : Int64) : Kt l y_Op_isOut b_Op_isOut 3 (some .boolean) 0 0 0 0 0 0 0 0 G A u [.ref (lc (8 + o)), .long x] (KQ G A (Ri (fun r u' => r = bI (oOut s o x) ∧ u' = u))) (NX) := by
  refine k_of (by decide) (Nat.le_of_ble_eq_true rfl) (fun p e st m below meth c ls hx hb hr hlocks hml htab hname hown ht hw hl => ?_)
  have hl : lv_has ls 3 [(0, .ref (lc (8 + o))), (1, .long x)] := hl
  obtain ⟨n0, hn0⟩ : ∃ n0, q_n s = n0 := ⟨_, rfl⟩
  have hw : Sk G A lc s z n0 u u st st.heap [] := ⟨hw, hR, fQ.rf, hn0⟩
  have hp0 := (opt_p hR.1 ho h3).1
  have hp1 := (opt_p hR.1 ho h3).2
  have hok := hR.1
  have hkk : ∀ {k x : Nat}, q_pt s o k = some x → x < n0 := fun hx => by rw [← hn0]; exact opt_k hok (by first | exact ho | (rw [hn0]; exact ho)) hx
  rw [hn0] at ho hp0 hp1
  refine lv_aload_n hx hb d_Op_isOut_0 rfl (lv_at hl 0 rfl) ?_
  refine kg_O (j := o) 16 (by decide) (by decide) hx hb ht hown hw ho h3 gw_411 rfl (by rw [ndX_O h3]; rfl) d_Op_isOut_1 ?_
  rcases hq1 : q_pt s o 3 with _ | k9
  · refine lv_ifnullN (tgt := 23) hx hb d_Op_isOut_4 (by decide) ?_
    refine lv_iconst (v := 0) hx hb d_Op_isOut_23 (by decide) ?_
    exact kt_z hx hb hr hlocks hw.1 d_Op_isOut_24 (by exact ⟨by simp only [oOut, hq1]; rfl, rfl⟩) (Or.inl rfl) (by first | decide | (dsimp only; omega)) (by first | decide | (dsimp only; omega))
  · refine lv_ifnull hx hb d_Op_isOut_4 ?_
    refine lv_lload_n hx hb d_Op_isOut_7 rfl (lv_at hl 1 rfl) ?_
    refine lv_aload_n hx hb d_Op_isOut_8 rfl (lv_at hl 0 rfl) ?_
    refine kg_O (j := o) 16 (by decide) (by decide) hx hb ht hown hw ho h3 gw_411 rfl (by rw [ndX_O h3]; rfl) d_Op_isOut_9 ?_
    rw [hq1]
    refine kg_N (j := k9) 3 (by decide) hx hb ht hown hw (hkk hq1) gw_277 (Or.inl rfl) rfl d_Op_isOut_12 ?_
    refine W.lcmp hx hb d_Op_isOut_15 ?_
    refine lv_if_lt (tgt := 23) hx hb d_Op_isOut_16 (by decide) (fun c2 => ?_) (fun c2 => ?_)
    · refine lv_iconst (v := 0) hx hb d_Op_isOut_23 (by decide) ?_
      exact kt_z hx hb hr hlocks hw.1 d_Op_isOut_24 (by exact ⟨by simp only [oOut, hq1]; rw [(lg_cmp_lt _ _)] at c2; simp [c2]; rfl, rfl⟩) (Or.inl rfl) (by first | decide | (dsimp only; omega)) (by first | decide | (dsimp only; omega))
    · refine lv_iconst (v := 1) hx hb d_Op_isOut_19 (by decide) ?_
      refine lv_goto (tgt := 24) hx hb d_Op_isOut_20 (by decide) ?_
      exact kt_z hx hb hr hlocks hw.1 d_Op_isOut_24 (by exact ⟨by simp only [oOut, hq1]; rw [(lg_cmp_lt _ _)] at c2; simp [c2]; rfl, rfl⟩) (Or.inr rfl) (by first | decide | (dsimp only; omega)) (by first | decide | (dsimp only; omega))
set_option maxHeartbeats 4000000 in
set_option maxRecDepth 100000 in
theorem c_Op_payoffInside (l : Launch) (G : GT) (A : Nat → Prop) (lc : Nat → Nat) (s : QS) (z : ZS) (u : WT) (hR : rQ G lc s z u) (o : Nat) (ho : o < q_n s) (h3 : q_so s o = 3) (x : Int64) : Kt l y_Op_payoffInside b_Op_payoffInside 3 (some .long) 1 40 0 0 0 0 0 0 G A u [.ref (lc (8 + o)), .long x] (KQ G A (Rl (fun r u' => r = oPI s o x ∧ u' = u))) (NX) := by
  refine k_of (by decide) (Nat.le_of_ble_eq_true rfl) (fun p e st m below meth c ls hx hb hr hlocks hml htab hname hown ht hw hl => ?_)
  have hl : lv_has ls 3 [(0, .ref (lc (8 + o))), (1, .long x)] := hl
  obtain ⟨n0, hn0⟩ : ∃ n0, q_n s = n0 := ⟨_, rfl⟩
  have hw : Sk G A lc s z n0 u u st st.heap [] := ⟨hw, hR, fQ.rf, hn0⟩
  have hp0 := (opt_p hR.1 ho h3).1
  have hp1 := (opt_p hR.1 ho h3).2
  have hok := hR.1
  have hkk : ∀ {k x : Nat}, q_pt s o k = some x → x < n0 := fun hx => by rw [← hn0]; exact opt_k hok (by first | exact ho | (rw [hn0]; exact ho)) hx
  rw [hn0] at ho hp0 hp1
  refine lv_aload_n hx hb d_Op_payoffInside_0 rfl (lv_at hl 0 rfl) ?_
  refine kg_O (j := o) 12 (by decide) (by decide) hx hb ht hown hw ho h3 gw_404 rfl (by rw [ndX_O h3]; rfl) d_Op_payoffInside_1 ?_
  by_cases hk0 : q_kd s o = 0
  · refine lv_tableIn (tgt := 32) hx hb d_Op_payoffInside_4 (by rw [hk0]; decide) (by rw [hk0]; decide) (by rw [hk0]; rfl) (by decide) ?_
    refine lv_lload_n hx hb d_Op_payoffInside_32 rfl (lv_at hl 1 rfl) ?_
    refine lv_aload_n hx hb d_Op_payoffInside_33 rfl (lv_at hl 0 rfl) ?_
    refine kg_O (j := o) 13 (by decide) (by decide) hx hb ht hown hw ho h3 gw_405 rfl (by rw [ndX_O h3]; rfl) d_Op_payoffInside_34 ?_
    refine lv_lsub hx hb d_Op_payoffInside_37 ?_
    refine lv_lconst (v := 0) hx hb d_Op_payoffInside_38 (by decide) ?_
    refine va_mmax_long hx hb (hml.trans hl.1.symm) hown (ht _ gw_655) (ht _ gw_588) (ht _ gw_59) (ht _ gw_589) (by first | decide | (dsimp only; omega)) (Nat.le_of_ble_eq_true rfl) (by first | decide | (dsimp only; omega)) (by first | decide | (dsimp only; omega)) d_Op_payoffInside_39 ?_
    exact kt_l hx hb hr hlocks hw.1 d_Op_payoffInside_42 (by exact ⟨by unfold oPI; rw [if_pos hk0]; rfl, rfl⟩) (by first | decide | (dsimp only; omega)) (by first | decide | (dsimp only; omega))
  by_cases hk1 : q_kd s o = 1
  · refine lv_tableIn (tgt := 43) hx hb d_Op_payoffInside_4 (by rw [hk1]; decide) (by rw [hk1]; decide) (by rw [hk1]; rfl) (by decide) ?_
    refine lv_aload_n hx hb d_Op_payoffInside_43 rfl (lv_at hl 0 rfl) ?_
    refine kg_O (j := o) 13 (by decide) (by decide) hx hb ht hown hw ho h3 gw_405 rfl (by rw [ndX_O h3]; rfl) d_Op_payoffInside_44 ?_
    refine lv_lload_n hx hb d_Op_payoffInside_47 rfl (lv_at hl 1 rfl) ?_
    refine lv_lsub hx hb d_Op_payoffInside_48 ?_
    refine lv_lconst (v := 0) hx hb d_Op_payoffInside_49 (by decide) ?_
    refine va_mmax_long hx hb (hml.trans hl.1.symm) hown (ht _ gw_655) (ht _ gw_588) (ht _ gw_59) (ht _ gw_589) (by first | decide | (dsimp only; omega)) (Nat.le_of_ble_eq_true rfl) (by first | decide | (dsimp only; omega)) (by first | decide | (dsimp only; omega)) d_Op_payoffInside_50 ?_
    exact kt_l hx hb hr hlocks hw.1 d_Op_payoffInside_53 (by exact ⟨by unfold oPI; rw [if_neg hk0, if_pos hk1]; rfl, rfl⟩) (by first | decide | (dsimp only; omega)) (by first | decide | (dsimp only; omega))
  by_cases hk2 : q_kd s o = 2
  · refine lv_tableIn (tgt := 54) hx hb d_Op_payoffInside_4 (by rw [hk2]; decide) (by rw [hk2]; decide) (by rw [hk2]; rfl) (by decide) ?_
    refine lv_lload_n hx hb d_Op_payoffInside_54 rfl (lv_at hl 1 rfl) ?_
    refine lv_aload_n hx hb d_Op_payoffInside_55 rfl (lv_at hl 0 rfl) ?_
    refine kg_O (j := o) 13 (by decide) (by decide) hx hb ht hown hw ho h3 gw_405 rfl (by rw [ndX_O h3]; rfl) d_Op_payoffInside_56 ?_
    refine W.lcmp hx hb d_Op_payoffInside_59 ?_
    refine lv_if_lt (tgt := 69) hx hb d_Op_payoffInside_60 (by decide) (fun c1 => ?_) (fun c1 => ?_)
    · refine lv_lconst (v := 0) hx hb d_Op_payoffInside_69 (by decide) ?_
      exact kt_l hx hb hr hlocks hw.1 d_Op_payoffInside_70 (by exact ⟨by unfold oPI; rw [if_neg hk0, if_neg hk1, if_pos hk2, if_pos ((lg_cmp_lt _ _).mp c1)], rfl⟩) (by first | decide | (dsimp only; omega)) (by first | decide | (dsimp only; omega))
    · refine lv_ldc2 (v := 102400) hx hb hown (ht _ gw_656) d_Op_payoffInside_63 ?_
      refine lv_goto (tgt := 70) hx hb d_Op_payoffInside_66 (by decide) ?_
      exact kt_l hx hb hr hlocks hw.1 d_Op_payoffInside_70 (by exact ⟨by unfold oPI; rw [if_neg hk0, if_neg hk1, if_pos hk2, if_neg (fun h => c1 ((lg_cmp_lt _ _).mpr h))], rfl⟩) (by first | decide | (dsimp only; omega)) (by first | decide | (dsimp only; omega))
  · refine lv_tableOut (tgt := 71) hx hb d_Op_payoffInside_4 (sw_out3 hk0 hk1 hk2) (by decide) ?_
    refine lv_lload_n hx hb d_Op_payoffInside_71 rfl (lv_at hl 1 rfl) ?_
    refine lv_aload_n hx hb d_Op_payoffInside_72 rfl (lv_at hl 0 rfl) ?_
    refine kg_O (j := o) 13 (by decide) (by decide) hx hb ht hown hw ho h3 gw_405 rfl (by rw [ndX_O h3]; rfl) d_Op_payoffInside_73 ?_
    refine lv_lsub hx hb d_Op_payoffInside_76 ?_
    exact kt_l hx hb hr hlocks hw.1 d_Op_payoffInside_77 (by exact ⟨by unfold oPI; rw [if_neg hk0, if_neg hk1, if_neg hk2], rfl⟩) (by first | decide | (dsimp only; omega)) (by first | decide | (dsimp only; omega))
set_option maxHeartbeats 4000000 in
set_option maxRecDepth 100000 in
theorem c_Op_payoff (l : Launch) (G : GT) (A : Nat → Prop) (lc : Nat → Nat) (s : QS) (z : ZS) (u : WT) (hR : rQ G lc s z u) (o : Nat) (ho : o < q_n s) (h3 : q_so s o = 3) (x : Int64) : Kt l y_Op_payoff b_Op_payoff 3 (some .long) 2 62 0 0 0 0 0 0 G A u [.ref (lc (8 + o)), .long x] (KQ G A (Rl (fun r u' => r = oPay s o x ∧ u' = u))) (NX) := by
  refine k_of (by decide) (Nat.le_of_ble_eq_true rfl) (fun p e st m below meth c ls hx hb hr hlocks hml htab hname hown ht hw hl => ?_)
  have hl : lv_has ls 3 [(0, .ref (lc (8 + o))), (1, .long x)] := hl
  obtain ⟨n0, hn0⟩ : ∃ n0, q_n s = n0 := ⟨_, rfl⟩
  have hw : Sk G A lc s z n0 u u st st.heap [] := ⟨hw, hR, fQ.rf, hn0⟩
  have hp0 := (opt_p hR.1 ho h3).1
  have hp1 := (opt_p hR.1 ho h3).2
  have hok := hR.1
  have hkk : ∀ {k x : Nat}, q_pt s o k = some x → x < n0 := fun hx => by rw [← hn0]; exact opt_k hok (by first | exact ho | (rw [hn0]; exact ho)) hx
  rw [hn0] at ho hp0 hp1
  refine lv_aload_n hx hb d_Op_payoff_0 rfl (lv_at hl 0 rfl) ?_
  refine lv_lload_n hx hb d_Op_payoff_1 rfl (lv_at hl 1 rfl) ?_
  refine kc_i (kr_V 1 (C := "QuoteGraph$Option") (As := [.long x]) (rest := []) (c_Op_isOut l G A lc s z u hR o (by rw [hn0]; exact ho) h3 x) hx hb hml hown ht hw.1 gw_647 gw_648 gw_649 gw_57 gw_650 ⟨⟨by decide, by decide⟩, by decide +kernel⟩ ⟨by first | decide | (dsimp only; omega), by first | decide | (dsimp only; omega)⟩ (by have h := kr_N hw ho; rw [h3] at h; exact h) rfl hl.1 rfl (lv_room (Nat.le_of_ble_eq_true rfl)) d_Op_payoff_2 ⟨by first | decide | (dsimp only; omega), by first | decide | (dsimp only; omega)⟩) hw.1 (fun _ _ _ _ _ _ h => h.elim) (fun r1 u1 H1 locs1 hp1 hw1 => ?_)
  obtain ⟨er1, hq1⟩ := hp1
  replace hq1 := hq1.symm; subst hq1
  subst er1
  have hw : Sk G A lc s z n0 u u st H1 locs1 := ⟨hw1, hw.2⟩
  refine lv_if_eq (tgt := 12) hx hb d_Op_payoff_5 (by decide) (fun c2 => ?_) (fun c2 => ?_)
  · refine lv_aload_n hx hb d_Op_payoff_12 rfl (lv_at hl 0 rfl) ?_
    refine lv_lload_n hx hb d_Op_payoff_13 rfl (lv_at hl 1 rfl) ?_
    refine kc_l (kr_V 1 (C := "QuoteGraph$Option") (As := [.long x]) (rest := []) (c_Op_payoffInside l G A lc s z u hR o (by rw [hn0]; exact ho) h3 x) hx hb hml hown ht hw.1 gw_651 gw_652 gw_653 gw_57 gw_654 ⟨⟨by decide, by decide⟩, by decide +kernel⟩ ⟨by first | decide | (dsimp only; omega), by first | decide | (dsimp only; omega)⟩ (by have h := kr_N hw ho; rw [h3] at h; exact h) rfl hl.1 rfl (lv_room (Nat.le_of_ble_eq_true rfl)) d_Op_payoff_14 ⟨by first | decide | (dsimp only; omega), by first | decide | (dsimp only; omega)⟩) hw.1 (fun _ _ _ _ _ _ h => h.elim) (fun r3 u3 H3 locs3 hp3 hw3 => ?_)
    obtain ⟨er3, hq3⟩ := hp3
    replace hq3 := hq3.symm; subst hq3
    subst er3
    have hw : Sk G A lc s z n0 u u st H3 locs3 := ⟨hw3, hw.2⟩
    exact kt_l hx hb hr hlocks hw.1 d_Op_payoff_17 (by exact ⟨by unfold oPay; rw [if_neg (by rw [(bI_eq _).mp c2]; decide)], rfl⟩) (by first | decide | (dsimp only; omega)) (by first | decide | (dsimp only; omega))
  · refine lv_lconst (v := 0) hx hb d_Op_payoff_8 (by decide) ?_
    refine lv_goto (tgt := 17) hx hb d_Op_payoff_9 (by decide) ?_
    exact kt_l hx hb hr hlocks hw.1 d_Op_payoff_17 (by exact ⟨by unfold oPay; rw [if_pos ((bI_ne _).mp c2)], rfl⟩) (by first | decide | (dsimp only; omega)) (by first | decide | (dsimp only; omega))
set_option maxHeartbeats 4000000 in
set_option maxRecDepth 100000 in
theorem c_Op_heldAt (l : Launch) (G : GT) (A : Nat → Prop) (lc : Nat → Nat) (s : QS) (z : ZS) (u : WT) (hR : rQ G lc s z u) (o : Nat) (ho : o < q_n s) (h3 : q_so s o = 3) (x v : Int64) : Kt l y_Op_heldAt b_Op_heldAt 5 (some .long) 2 62 0 0 0 0 0 0 G A u [.ref (lc (8 + o)), .long x, .long v] (KQ G A (Rl (fun r u' => r = oHeld s o x v ∧ u' = u))) (NX) := by
  refine k_of (by decide) (Nat.le_of_ble_eq_true rfl) (fun p e st m below meth c ls hx hb hr hlocks hml htab hname hown ht hw hl => ?_)
  have hl : lv_has ls 5 [(0, .ref (lc (8 + o))), (1, .long x), (3, .long v)] := hl
  obtain ⟨n0, hn0⟩ : ∃ n0, q_n s = n0 := ⟨_, rfl⟩
  have hw : Sk G A lc s z n0 u u st st.heap [] := ⟨hw, hR, fQ.rf, hn0⟩
  have hp0 := (opt_p hR.1 ho h3).1
  have hp1 := (opt_p hR.1 ho h3).2
  have hok := hR.1
  have hkk : ∀ {k x : Nat}, q_pt s o k = some x → x < n0 := fun hx => by rw [← hn0]; exact opt_k hok (by first | exact ho | (rw [hn0]; exact ho)) hx
  rw [hn0] at ho hp0 hp1
  refine lv_aload_n hx hb d_Op_heldAt_0 rfl (lv_at hl 0 rfl) ?_
  refine lv_lload_n hx hb d_Op_heldAt_1 rfl (lv_at hl 1 rfl) ?_
  refine kc_i (kr_V 1 (C := "QuoteGraph$Option") (As := [.long x]) (rest := []) (c_Op_isOut l G A lc s z u hR o (by rw [hn0]; exact ho) h3 x) hx hb hml hown ht hw.1 gw_647 gw_648 gw_649 gw_57 gw_650 ⟨⟨by decide, by decide⟩, by decide +kernel⟩ ⟨by first | decide | (dsimp only; omega), by first | decide | (dsimp only; omega)⟩ (by have h := kr_N hw ho; rw [h3] at h; exact h) rfl hl.1 rfl (lv_room (Nat.le_of_ble_eq_true rfl)) d_Op_heldAt_2 ⟨by first | decide | (dsimp only; omega), by first | decide | (dsimp only; omega)⟩) hw.1 (fun _ _ _ _ _ _ h => h.elim) (fun r1 u1 H1 locs1 hp1 hw1 => ?_)
  obtain ⟨er1, hq1⟩ := hp1
  replace hq1 := hq1.symm; subst hq1
  subst er1
  have hw : Sk G A lc s z n0 u u st H1 locs1 := ⟨hw1, hw.2⟩
  refine lv_if_eq (tgt := 10) hx hb d_Op_heldAt_5 (by decide) (fun c2 => ?_) (fun c2 => ?_)
  · refine lv_aload_n hx hb d_Op_heldAt_10 rfl (lv_at hl 0 rfl) ?_
    refine kg_O (j := o) 18 (by decide) (by decide) hx hb ht hown hw ho h3 gw_419 rfl (by rw [ndX_O h3]; rfl) d_Op_heldAt_11 ?_
    refine lv_if_eq (tgt := 29) hx hb d_Op_heldAt_14 (by decide) (fun c3 => ?_) (fun c3 => ?_)
    · refine lv_lload_n hx hb d_Op_heldAt_29 rfl (lv_at hl 2 rfl) ?_
      exact kt_l hx hb hr hlocks hw.1 d_Op_heldAt_30 (by exact ⟨by unfold oHeld; rw [if_neg (by rw [(bI_eq _).mp c2]; decide), if_neg (by rw [(bI_eq _).mp c3]; decide)], rfl⟩) (by first | decide | (dsimp only; omega)) (by first | decide | (dsimp only; omega))
    · refine lv_lload_n hx hb d_Op_heldAt_17 rfl (lv_at hl 2 rfl) ?_
      refine lv_aload_n hx hb d_Op_heldAt_18 rfl (lv_at hl 0 rfl) ?_
      refine lv_lload_n hx hb d_Op_heldAt_19 rfl (lv_at hl 1 rfl) ?_
      refine kc_l (kr_V 1 (C := "QuoteGraph$Option") (As := [.long x]) (rest := [.long v]) (c_Op_payoffInside l G A lc s z u hR o (by rw [hn0]; exact ho) h3 x) hx hb hml hown ht hw.1 gw_651 gw_652 gw_653 gw_57 gw_654 ⟨⟨by decide, by decide⟩, by decide +kernel⟩ ⟨by first | decide | (dsimp only; omega), by first | decide | (dsimp only; omega)⟩ (by have h := kr_N hw ho; rw [h3] at h; exact h) rfl hl.1 rfl (lv_room (Nat.le_of_ble_eq_true rfl)) d_Op_heldAt_20 ⟨by first | decide | (dsimp only; omega), by first | decide | (dsimp only; omega)⟩) hw.1 (fun _ _ _ _ _ _ h => h.elim) (fun r4 u4 H4 locs4 hp4 hw4 => ?_)
      obtain ⟨er4, hq4⟩ := hp4
      replace hq4 := hq4.symm; subst hq4
      subst er4
      have hw : Sk G A lc s z n0 u u st H4 locs4 := ⟨hw4, hw.2⟩
      refine va_mmax_long hx hb (hml.trans hl.1.symm) hown (ht _ gw_655) (ht _ gw_588) (ht _ gw_59) (ht _ gw_589) (by first | decide | (dsimp only; omega)) (Nat.le_of_ble_eq_true rfl) (by first | decide | (dsimp only; omega)) (by first | decide | (dsimp only; omega)) d_Op_heldAt_23 ?_
      refine lv_goto (tgt := 30) hx hb d_Op_heldAt_26 (by decide) ?_
      exact kt_l hx hb hr hlocks hw.1 d_Op_heldAt_30 (by exact ⟨by show mxL v (oPI s o x) = oHeld s o x v; unfold oHeld; rw [if_neg (by rw [(bI_eq _).mp c2]; decide), if_pos ((bI_ne _).mp c3)], rfl⟩) (by first | decide | (dsimp only; omega)) (by first | decide | (dsimp only; omega))
  · refine lv_lconst (v := 0) hx hb d_Op_heldAt_8 (by decide) ?_
    exact kt_l hx hb hr hlocks hw.1 d_Op_heldAt_9 (by exact ⟨by unfold oHeld; rw [if_pos ((bI_ne _).mp c2)], rfl⟩) (by first | decide | (dsimp only; omega)) (by first | decide | (dsimp only; omega))
set_option maxHeartbeats 4000000 in
set_option maxRecDepth 100000 in
theorem c_Op_discount (l : Launch) (hl9 : l.stackTraces = false) (G : GT) (A : Nat → Prop) (lc : Nat → Nat) (s : QS) (z : ZS) (u : WT) (hR : rQ G lc s z u) (o : Nat) (ho : o < q_n s) (h3 : q_so s o = 3) : Kt l y_Op_discount b_Op_discount 3 (some .long) 6 100 1 6 0 0 1 6 G A u [.ref (lc (8 + o))] (KQ G A (Rl (fun r u' => r = 1024 - oTak s o ∧ ¬ oTak s o < 0 ∧ oTak s o ≤ 1024 ∧ u' = u))) (fun E u' => E = "java/lang/ArithmeticException" ∧ (oTak s o < 0 ∨ 1024 < oTak s o) ∧ u' = u) := by
  refine k_of (by decide) (Nat.le_of_ble_eq_true rfl) (fun p e st m below meth c ls hx hb hr hlocks hml htab hname hown ht hw hl => ?_)
  have hl : lv_has ls 3 [(0, .ref (lc (8 + o)))] := hl
  obtain ⟨n0, hn0⟩ : ∃ n0, q_n s = n0 := ⟨_, rfl⟩
  have hw : Sk G A lc s z n0 u u st st.heap [] := ⟨hw, hR, fQ.rf, hn0⟩
  have hp0 := (opt_p hR.1 ho h3).1
  have hp1 := (opt_p hR.1 ho h3).2
  have hok := hR.1
  have hkk : ∀ {k x : Nat}, q_pt s o k = some x → x < n0 := fun hx => by rw [← hn0]; exact opt_k hok (by first | exact ho | (rw [hn0]; exact ho)) hx
  rw [hn0] at ho hp0 hp1
  refine lv_aload_n hx hb d_Op_discount_0 rfl (lv_at hl 0 rfl) ?_
  refine kg_O (j := o) 15 (by decide) (by decide) hx hb ht hown hw ho h3 gw_410 rfl (by rw [ndX_O h3]; rfl) d_Op_discount_1 ?_
  rcases hq1 : q_pt s o 2 with _ | k9
  · refine lv_ifnonnullN hx hb d_Op_discount_4 ?_
    refine lv_lconst (v := 0) hx hb d_Op_discount_7 (by decide) ?_
    refine lv_goto (tgt := 21) hx hb d_Op_discount_8 (by decide) ?_
    refine lv_lstore_n (lv' := [(1, .long (0 : Int64)), (0, .ref (lc (8 + o)))]) hx hb d_Op_discount_21 rfl hl (by decide) rfl (fun ls hl => ?_)
    have et : oTak s o = (0 : Int64) := by unfold oTak; rw [hq1]
    rw [← et] at hl
    refine lv_lload_n hx hb d_Op_discount_22 rfl (lv_at hl 0 rfl) ?_
    refine lv_lconst (v := 0) hx hb d_Op_discount_23 (by decide) ?_
    refine W.lcmp hx hb d_Op_discount_24 ?_
    refine lv_if_lt (tgt := 36) hx hb d_Op_discount_25 (by decide) (fun c2 => ?_) (fun c2 => ?_)
    · exact kt_throw (own := R_Op) (cls := "java/lang/ArithmeticException") (ik := 58) (is := 75) (ic := 62) 12 hl9 hx hb htab hlocks hml hl.1 ht hown hw.1 (by decide) gw_624 gw_58 rfl at_Op_62 d_Op_discount_36 d_Op_discount_39 d_Op_discount_40 d_Op_discount_42 d_Op_discount_45 (by first | decide | (dsimp only; omega)) (Nat.le_of_ble_eq_true rfl) (by first | decide | (dsimp only; omega)) (by first | decide | (dsimp only; omega)) (by exact ⟨rfl, Or.inl ((lg_cmp_lt _ _).mp c2), rfl⟩) (by first | decide | (dsimp only; omega)) (by first | decide | (dsimp only; omega))
    · refine lv_lload_n hx hb d_Op_discount_28 rfl (lv_at hl 0 rfl) ?_
      refine lv_ldc2 (v := 1024) hx hb hown (ht _ gw_631) d_Op_discount_29 ?_
      refine W.lcmp hx hb d_Op_discount_32 ?_
      refine lv_if_le (tgt := 46) hx hb d_Op_discount_33 (by decide) (fun c3 => ?_) (fun c3 => ?_)
      · refine lv_ldc2 (v := 1024) hx hb hown (ht _ gw_631) d_Op_discount_46 ?_
        refine lv_lload_n hx hb d_Op_discount_49 rfl (lv_at hl 0 rfl) ?_
        refine lv_lsub hx hb d_Op_discount_50 ?_
        exact kt_l hx hb hr hlocks hw.1 d_Op_discount_51 (by exact ⟨rfl, fun h => c2 ((lg_cmp_lt _ _).mpr h), (lg_cmp_le _ _).mp c3, rfl⟩) (by first | decide | (dsimp only; omega)) (by first | decide | (dsimp only; omega))
      · exact kt_throw (own := R_Op) (cls := "java/lang/ArithmeticException") (ik := 58) (is := 75) (ic := 62) 12 hl9 hx hb htab hlocks hml hl.1 ht hown hw.1 (by decide) gw_624 gw_58 rfl at_Op_62 d_Op_discount_36 d_Op_discount_39 d_Op_discount_40 d_Op_discount_42 d_Op_discount_45 (by first | decide | (dsimp only; omega)) (Nat.le_of_ble_eq_true rfl) (by first | decide | (dsimp only; omega)) (by first | decide | (dsimp only; omega)) (by exact ⟨rfl, Or.inr (by rw [lg_cmp_le] at c3; simp only [Int64.le_iff_toInt_le, Int64.lt_iff_toInt_lt] at *; omega), rfl⟩) (by first | decide | (dsimp only; omega)) (by first | decide | (dsimp only; omega))
  · refine lv_ifnonnull (tgt := 11) hx hb d_Op_discount_4 (by decide) ?_
    refine lv_aload_n hx hb d_Op_discount_11 rfl (lv_at hl 0 rfl) ?_
    refine kg_O (j := o) 15 (by decide) (by decide) hx hb ht hown hw ho h3 gw_410 rfl (by rw [ndX_O h3]; rfl) d_Op_discount_12 ?_
    rw [hq1]
    refine kg_N (j := k9) 3 (by decide) hx hb ht hown hw (hkk hq1) gw_277 (Or.inl rfl) rfl d_Op_discount_15 ?_
    refine lv_bipush (v := 10) hx hb d_Op_discount_18 (by decide) ?_
    refine lv_lshr hx hb d_Op_discount_20 rfl ?_
    refine lv_lstore_n (lv' := [(1, .long ((q_am s k9) >>> ((10 : Int32).toInt64 &&& 63))), (0, .ref (lc (8 + o)))]) hx hb d_Op_discount_21 rfl hl (by decide) rfl (fun ls hl => ?_)
    have et : oTak s o = q_am s k9 >>> ((10 : Int32).toInt64 &&& 63) := by unfold oTak; rw [hq1]
    rw [← et] at hl
    refine lv_lload_n hx hb d_Op_discount_22 rfl (lv_at hl 0 rfl) ?_
    refine lv_lconst (v := 0) hx hb d_Op_discount_23 (by decide) ?_
    refine W.lcmp hx hb d_Op_discount_24 ?_
    refine lv_if_lt (tgt := 36) hx hb d_Op_discount_25 (by decide) (fun c4 => ?_) (fun c4 => ?_)
    · exact kt_throw (own := R_Op) (cls := "java/lang/ArithmeticException") (ik := 58) (is := 75) (ic := 62) 12 hl9 hx hb htab hlocks hml hl.1 ht hown hw.1 (by decide) gw_624 gw_58 rfl at_Op_62 d_Op_discount_36 d_Op_discount_39 d_Op_discount_40 d_Op_discount_42 d_Op_discount_45 (by first | decide | (dsimp only; omega)) (Nat.le_of_ble_eq_true rfl) (by first | decide | (dsimp only; omega)) (by first | decide | (dsimp only; omega)) (by exact ⟨rfl, Or.inl ((lg_cmp_lt _ _).mp c4), rfl⟩) (by first | decide | (dsimp only; omega)) (by first | decide | (dsimp only; omega))
    · refine lv_lload_n hx hb d_Op_discount_28 rfl (lv_at hl 0 rfl) ?_
      refine lv_ldc2 (v := 1024) hx hb hown (ht _ gw_631) d_Op_discount_29 ?_
      refine W.lcmp hx hb d_Op_discount_32 ?_
      refine lv_if_le (tgt := 46) hx hb d_Op_discount_33 (by decide) (fun c5 => ?_) (fun c5 => ?_)
      · refine lv_ldc2 (v := 1024) hx hb hown (ht _ gw_631) d_Op_discount_46 ?_
        refine lv_lload_n hx hb d_Op_discount_49 rfl (lv_at hl 0 rfl) ?_
        refine lv_lsub hx hb d_Op_discount_50 ?_
        exact kt_l hx hb hr hlocks hw.1 d_Op_discount_51 (by exact ⟨rfl, fun h => c4 ((lg_cmp_lt _ _).mpr h), (lg_cmp_le _ _).mp c5, rfl⟩) (by first | decide | (dsimp only; omega)) (by first | decide | (dsimp only; omega))
      · exact kt_throw (own := R_Op) (cls := "java/lang/ArithmeticException") (ik := 58) (is := 75) (ic := 62) 12 hl9 hx hb htab hlocks hml hl.1 ht hown hw.1 (by decide) gw_624 gw_58 rfl at_Op_62 d_Op_discount_36 d_Op_discount_39 d_Op_discount_40 d_Op_discount_42 d_Op_discount_45 (by first | decide | (dsimp only; omega)) (Nat.le_of_ble_eq_true rfl) (by first | decide | (dsimp only; omega)) (by first | decide | (dsimp only; omega)) (by exact ⟨rfl, Or.inr (by rw [lg_cmp_le] at c5; simp only [Int64.le_iff_toInt_le, Int64.lt_iff_toInt_lt] at *; omega), rfl⟩) (by first | decide | (dsimp only; omega)) (by first | decide | (dsimp only; omega))
end
section
/-! 19.rows3: the engines' own cells -/
section SRows3
variable {p : Program} {l : Launch} {e : Env} {R : Room} {st : State} {m : MethodId} {args : Array Value} {below : List Frame} {meth : Method} {c : Code} {H : Heap} {locs : List Loc} {cells slots : Nat} {Q : State → Prop}
variable {cc : ByteArray} {pc : Nat} {ls : Array Slot} {rest : List Value} {G : GT} {A : Nat → Prop} {u0 u : WT} {lc : Nat → Nat} {s : QS} {z : ZS} {j n0 index : Nat} {own ref : String}
theorem kg_La (k : Nat) (hk : k < 3) {v : Value} (hexec : p.tables.exec = Jvm.exec) (hb : c.code = cc) (ht : ∀ w ∈ GW, w.before args st = true) (hown : st.vm.findClass own = some m.cls) (hw : Sk G A lc s z n0 u0 u st H locs) (hlink : Cond.fieldLink own index ref (F_La k).2.1 (F_La k).2.2.1 ∈ GW) (hdec : (F_La k).1 = ref) (hv : ([.int 0, .int 0, .ref (lc 3)] : List Value)[k]? = some v) (hdg : decode cc pc = .ok (.getfield index, 3))
    (kk : W p l e R st m args below meth c H locs cells slots Q (F0 m (pc + 3) ls (v :: rest))) : W p l e R st m args below meth c H locs cells slots Q (F0 m pc ls (.ref (lc 5) :: rest)) := by
  obtain ⟨ha, he⟩ := hw.2.1.at (liv_s (k := 5) (by omega))
  exact k_get hexec hb ht i_La hown hw.1 ha he rfl k hk hlink (by rw [hdec]; exact fun _ h => h) hv hdg kk
theorem kr_La (hw : Sk G A lc s z n0 u0 u st H locs) : ∃ cell : Cell, H[lc 5]? = some cell ∧ cell.vm.isStatics = false ∧ st.vm.findClass R_La = some cell.cls := by
  obtain ⟨ha, he⟩ := hw.2.1.at (liv_s (k := 5) (by omega))
  exact k_recv hw.1 ha he rfl
theorem kg_Pa (k : Nat) (hk : k < 3) {v : Value} (hexec : p.tables.exec = Jvm.exec) (hb : c.code = cc) (ht : ∀ w ∈ GW, w.before args st = true) (hown : st.vm.findClass own = some m.cls) (hw : Sk G A lc s z n0 u0 u st H locs) (hlink : Cond.fieldLink own index ref (F_Pa k).2.1 (F_Pa k).2.2.1 ∈ GW) (hdec : (F_Pa k).1 = ref) (hv : ([.int 0, .int 6, .long (z_dw z)] : List Value)[k]? = some v) (hdg : decode cc pc = .ok (.getfield index, 3))
    (kk : W p l e R st m args below meth c H locs cells slots Q (F0 m (pc + 3) ls (v :: rest))) : W p l e R st m args below meth c H locs cells slots Q (F0 m pc ls (.ref (lc 6) :: rest)) := by
  obtain ⟨ha, he⟩ := hw.2.1.at (liv_s (k := 6) (by omega))
  exact k_get hexec hb ht i_Pa hown hw.1 ha he rfl k hk hlink (by rw [hdec]; exact fun _ h => h) hv hdg kk
theorem kr_Pa (hw : Sk G A lc s z n0 u0 u st H locs) : ∃ cell : Cell, H[lc 6]? = some cell ∧ cell.vm.isStatics = false ∧ st.vm.findClass R_Pa = some cell.cls := by
  obtain ⟨ha, he⟩ := hw.2.1.at (liv_s (k := 6) (by omega))
  exact k_recv hw.1 ha he rfl
theorem kg_Ne (k : Nat) (hk : k < 3) {v : Value} (hexec : p.tables.exec = Jvm.exec) (hb : c.code = cc) (ht : ∀ w ∈ GW, w.before args st = true) (hown : st.vm.findClass own = some m.cls) (hw : Sk G A lc s z n0 u0 u st H locs) (hlink : Cond.fieldLink own index ref (F_Ne k).2.1 (F_Ne k).2.2.1 ∈ GW) (hdec : (F_Ne k).1 = ref) (hv : ([.int 1, .int 20, .ref (lc 4)] : List Value)[k]? = some v) (hdg : decode cc pc = .ok (.getfield index, 3))
    (kk : W p l e R st m args below meth c H locs cells slots Q (F0 m (pc + 3) ls (v :: rest))) : W p l e R st m args below meth c H locs cells slots Q (F0 m pc ls (.ref (lc 7) :: rest)) := by
  obtain ⟨ha, he⟩ := hw.2.1.at (liv_s (k := 7) (by omega))
  exact k_get hexec hb ht i_Ne hown hw.1 ha he rfl k hk hlink (by rw [hdec]; exact fun _ h => h) hv hdg kk
theorem kr_Ne (hw : Sk G A lc s z n0 u0 u st H locs) : ∃ cell : Cell, H[lc 7]? = some cell ∧ cell.vm.isStatics = false ∧ st.vm.findClass R_Ne = some cell.cls := by
  obtain ⟨ha, he⟩ := hw.2.1.at (liv_s (k := 7) (by omega))
  exact k_recv hw.1 ha he rfl
theorem ka_lr {i : Int32} {k : Nat} (hi : i = nI k) (hk : k < 21) (hexec : p.tables.exec = Jvm.exec) (hb : c.code = cc) (hw : Sk G A lc s z n0 u0 u st H locs) (hdg : decode cc pc = .ok (.laload, 1))
    (kk : W p l e R st m args below meth c H locs cells slots Q (F0 m (pc + 1) ls (.long (z_lr z k) :: rest))) : W p l e R st m args below meth c H locs cells slots Q (F0 m pc ls (.int i :: .ref (lc 3) :: rest)) := by
  obtain ⟨ha, he⟩ := hw.2.1.at (liv_s (k := 3) (by omega))
  subst hi
  refine k_lald hexec hb hw.1 ha he (vp_in_nI hk (by omega)) hdg ?_
  rw [nI_clamp (by omega)]
  exact kk
theorem kp_lr {i : Int32} {x : Int64} {k : Nat} (hi : i = nI k) (hk : k < 21) (hexec : p.tables.exec = Jvm.exec) (hb : c.code = cc) (hw : Sk G A lc s z n0 u0 u st H locs) (hdg : decode cc pc = .ok (.lastore, 1))
    (kk : ∀ (H1 : Heap) (locs1 : List Loc) (u1 : WT), Sk G A lc s (zS_lr z (vp_updL (z_lr z) k x)) n0 u0 u1 st H1 locs1 → W p l e R st m args below meth c H1 locs1 cells slots Q (F0 m (pc + 1) ls rest)) : W p l e R st m args below meth c H locs cells slots Q (F0 m pc ls (.long x :: .int i :: .ref (lc 3) :: rest)) := by
  obtain ⟨ha, he⟩ := hw.2.1.at (liv_s (k := 3) (by omega))
  subst hi
  refine k_last hexec hb hw.1 ha he (vp_in_nI hk (by omega)) hdg (fun H1 locs1 hw1 => ?_)
  rw [nI_clamp (by omega)] at hw1
  have r := hw.2.1.put (s' := s) (z' := zS_lr z (vp_updL (z_lr z) k x)) (liv_s (k := 3) (by omega)) (x := .inl (G.2.1 0, 21, lgs (vp_updL (z_lr z) k x))) rfl hw.2.1.1 rfl (fun i _ hi => by unfold cQ; simp only [hi, if_false]; rfl) (fun j hj k hk => hw.2.1.2.2.2 j hj k hk)
  exact kk H1 locs1 _ ⟨hw1, r.1, hw.2.2.1.tr (by rw [← hw.2.2.2]; exact r.2), hw.2.2.2⟩
theorem ka_nr {i : Int32} {k : Nat} (hi : i = nI k) (hk : k < 41) (hexec : p.tables.exec = Jvm.exec) (hb : c.code = cc) (hw : Sk G A lc s z n0 u0 u st H locs) (hdg : decode cc pc = .ok (.laload, 1))
    (kk : W p l e R st m args below meth c H locs cells slots Q (F0 m (pc + 1) ls (.long (z_nr z k) :: rest))) : W p l e R st m args below meth c H locs cells slots Q (F0 m pc ls (.int i :: .ref (lc 4) :: rest)) := by
  obtain ⟨ha, he⟩ := hw.2.1.at (liv_s (k := 4) (by omega))
  subst hi
  refine k_lald hexec hb hw.1 ha he (vp_in_nI hk (by omega)) hdg ?_
  rw [nI_clamp (by omega)]
  exact kk
theorem kp_nr {i : Int32} {x : Int64} {k : Nat} (hi : i = nI k) (hk : k < 41) (hexec : p.tables.exec = Jvm.exec) (hb : c.code = cc) (hw : Sk G A lc s z n0 u0 u st H locs) (hdg : decode cc pc = .ok (.lastore, 1))
    (kk : ∀ (H1 : Heap) (locs1 : List Loc) (u1 : WT), Sk G A lc s (zS_nr z (vp_updL (z_nr z) k x)) n0 u0 u1 st H1 locs1 → W p l e R st m args below meth c H1 locs1 cells slots Q (F0 m (pc + 1) ls rest)) : W p l e R st m args below meth c H locs cells slots Q (F0 m pc ls (.long x :: .int i :: .ref (lc 4) :: rest)) := by
  obtain ⟨ha, he⟩ := hw.2.1.at (liv_s (k := 4) (by omega))
  subst hi
  refine k_last hexec hb hw.1 ha he (vp_in_nI hk (by omega)) hdg (fun H1 locs1 hw1 => ?_)
  rw [nI_clamp (by omega)] at hw1
  have r := hw.2.1.put (s' := s) (z' := zS_nr z (vp_updL (z_nr z) k x)) (liv_s (k := 4) (by omega)) (x := .inl (G.2.1 0, 41, lgs (vp_updL (z_nr z) k x))) rfl hw.2.1.1 rfl (fun i _ hi => by unfold cQ; simp only [hi, if_false]; rfl) (fun j hj k hk => hw.2.1.2.2.2 j hj k hk)
  exact kk H1 locs1 _ ⟨hw1, r.1, hw.2.2.1.tr (by rw [← hw.2.2.2]; exact r.2), hw.2.2.2⟩
theorem kp_draw (x : Int64) (hexec : p.tables.exec = Jvm.exec) (hb : c.code = cc) (ht : ∀ w ∈ GW, w.before args st = true) (hown : st.vm.findClass own = some m.cls) (hw : Sk G A lc s z n0 u0 u st H locs) (hlink : Cond.fieldLink own index "QuoteGraph$Paths" "draw" "J" ∈ GW) (hdg : decode cc pc = .ok (.putfield index, 3))
    (kk : ∀ (H1 : Heap) (locs1 : List Loc) (u1 : WT), Sk G A lc s (zS_dw z x) n0 u0 u1 st H1 locs1 → W p l e R st m args below meth c H1 locs1 cells slots Q (F0 m (pc + 3) ls rest)) : W p l e R st m args below meth c H locs cells slots Q (F0 m pc ls (.long x :: .ref (lc 6) :: rest)) := by
  obtain ⟨ha, he⟩ := hw.2.1.at (liv_s (k := 6) (by omega))
  refine k_put hexec hb ht i_Pa t_Pa t_Pa_ok n_Pa hown hw.1 ha he rfl 2 (by decide) hlink (fun _ h => h) rfl (ty := .long) (by decide +kernel) rfl rfl (Nat.le_of_ble_eq_true rfl) hdg (fun H1 locs1 hw1 => ?_)
  have r := hw.2.1.put (s' := s) (z' := zS_dw z x) (liv_s (k := 6) (by omega)) (x := .inr (6, [.int 0, .int 6, .long x])) rfl hw.2.1.1 rfl (fun i _ hi => by unfold cQ; simp only [hi, if_false]; rfl) (fun j hj k hk => hw.2.1.2.2.2 j hj k hk)
  exact kk H1 locs1 _ ⟨hw1, r.1, hw.2.2.1.tr (by rw [← hw.2.2.2]; exact r.2), hw.2.2.2⟩
end SRows3
/-- the lattice's last row, k places of it -/
def lat0 (s : QS) (o : Nat) (f : Nat → Int64) : Nat → (Nat → Int64)
  | 0 => f
  | k + 1 => vp_updL (lat0 s o f k) k (oPay s o (oP s o (2 * nI k - q_sp s o)))
/-- ROUNDED(D * y), in the numbers of the class -/
def lstp (s : QS) (o : Nat) (D a b : Int64) : Int64 := rndL (D * ((q_ch s o).toInt64 * a + (16 - q_ch s o).toInt64 * b)) 14
/-- one time back, k places of it; none: TOO LARGE -/
def lsb (s : QS) (o : Nat) (D : Int64) (t : Int32) (f : Nat → Int64) : Nat → Option (Nat → Int64)
  | 0 => some f
  | k + 1 => match lsb s o D t f k with
    | none => none
    | some g => if bigL (lstp s o D (g (k + 1)) (g k)) = true then none else some (vp_updL g k (oHeld s o (oP s o (2 * nI k - t)) (lstp s o D (g (k + 1)) (g k))))
theorem lsb_none {s : QS} {o : Nat} {D : Int64} {t : Int32} {f : Nat → Int64} {k : Nat} (h : lsb s o D t f k = none) : ∀ d, lsb s o D t f (k + d) = none
  | 0 => h
  | d + 1 => by show (match lsb s o D t f (k + d) with | none => none | some g => _) = none; rw [lsb_none h d]
/-- i times back from N -/
def lts (s : QS) (o : Nat) (D : Int64) (N : Nat) (f : Nat → Int64) : Nat → Option (Nat → Int64)
  | 0 => some f
  | i + 1 => match lts s o D N f i with
    | none => none
    | some g => lsb s o D (nI (N - 1 - i)) g (N - i)
theorem lts_none {s : QS} {o : Nat} {D : Int64} {N : Nat} {f : Nat → Int64} {k : Nat} (h : lts s o D N f k = none) : ∀ d, lts s o D N f (k + d) = none
  | 0 => h
  | d + 1 => by show (match lts s o D N f (k + d) with | none => none | some g => _) = none; rw [lts_none h d]
def latV (s : QS) (o : Nat) (D : Int64) (N : Nat) (f : Nat → Int64) : Option Int64 := (lts s o D N (lat0 s o f (N + 1)) N).map (fun g => g 0)
end
section
/-! 20.lattice: contracts of the lattice -/
theorem i_rng1 (a : Int32) : a - 1 - a = -1 := by grind
theorem i_rng2 (a b : Int32) : a - 1 - b + (-1) = a - 1 - (b + 1) := by grind
set_option maxHeartbeats 4000000 in
set_option maxRecDepth 100000 in
theorem c_La_checkSuits (l : Launch) (G : GT) (A : Nat → Prop) (u : WT) (a b : Nat) : Kt l y_La_checkSuits b_La_checkSuits 2 none 0 0 0 0 0 0 0 0 G A u [.ref a, .ref b] (KQ G A (Rv (fun u' => u' = u))) (NX) := by
  refine k_of (by decide) (Nat.le_of_ble_eq_true rfl) (fun p e st m below meth c ls hx hb hr hlocks hml htab hname hown ht hw hl => ?_)
  have hl : lv_has ls 2 [(0, .ref a), (1, .ref b)] := hl
  exact kt_v hx hb hr hlocks hw d_La_checkSuits_0 (by exact rfl) (by first | decide | (dsimp only; omega)) (by first | decide | (dsimp only; omega))
set_option maxHeartbeats 4000000 in
set_option maxRecDepth 100000 in
theorem c_La_stepBack (l : Launch) (hl9 : l.stackTraces = false) (G : GT) (A : Nat → Prop) (lc : Nat → Nat) (s : QS) (z : ZS) (u : WT) (hR : rQ G lc s z u) (o : Nat) (ho : o < q_n s) (h3 : q_so s o = 3) (D : Int64) (T : Nat) (hT : T < 20) : Kt l y_La_stepBack b_La_stepBack 11 none 8 143 1 6 0 0 1 6 G A u [.ref (lc 5), .ref (lc (8 + o)), .long D, .int (nI T)] (KQ G A (Rv (fun u' => ∃ g, lsb s o D (nI T) (z_lr z) (T + 1) = some g ∧ rQ G lc s (zS_lr z g) u' ∧ fQ lc (q_n s) u u'))) (fun E u' => E = "java/lang/ArithmeticException" ∧ lsb s o D (nI T) (z_lr z) (T + 1) = none ∧ (∃ g, rQ G lc s (zS_lr z g) u') ∧ fQ lc (q_n s) u u') := by
  refine k_of (by decide) (Nat.le_of_ble_eq_true rfl) (fun p e st m below meth c ls hx hb hr hlocks hml htab hname hown ht hw hl => ?_)
  have hl : lv_has ls 11 [(0, .ref (lc 5)), (1, .ref (lc (8 + o))), (2, .long D), (4, .int (nI T))] := hl
  obtain ⟨n0, hn0⟩ : ∃ n0, q_n s = n0 := ⟨_, rfl⟩
  have hw : Sk G A lc s z n0 u u st st.heap [] := ⟨hw, hR, fQ.rf, hn0⟩
  have hp0 := (opt_p hR.1 ho h3).1
  have hp1 := (opt_p hR.1 ho h3).2
  rw [hn0] at ho hp0 hp1
  refine lv_aload_n hx hb d_La_stepBack_0 rfl (lv_at hl 1 rfl) ?_
  refine kg_O (j := o) 17 (by decide) (by decide) hx hb ht hown hw ho h3 gw_414 rfl (by rw [ndX_O h3]; rfl) d_La_stepBack_1 ?_
  refine lv_istore (lv' := [(5, .int (q_ch s o)), (0, .ref (lc 5)), (1, .ref (lc (8 + o))), (2, .long D), (4, .int (nI T))]) hx hb d_La_stepBack_4 hl (by decide) rfl (fun ls hl => ?_)
  refine lv_iconst (v := 0) hx hb d_La_stepBack_6 (by decide) ?_
  refine lv_istore (lv' := [(6, .int (0 : Int32)), (5, .int (q_ch s o)), (0, .ref (lc 5)), (1, .ref (lc (8 + o))), (2, .long D), (4, .int (nI T))]) hx hb d_La_stepBack_7 hl (by decide) rfl (fun ls hl => ?_)
  refine k_cntH (T + 1) (fun k ls H locs => lv_has ls 11 [(0, .ref (lc 5)), (1, .ref (lc (8 + o))), (2, .long D), (4, .int (nI T)), (5, .int (q_ch s o)), (6, .int (nI k))] ∧ ∃ g u9, lsb s o D (nI T) (z_lr z) k = some g ∧ Sk G A lc s (zS_lr z g) n0 u u9 st H locs) (k0 := 0) (Nat.zero_le _) (⟨lv_sub hl [2, 3, 4, 5, 1, 0] rfl, _, u, rfl, hw⟩) (fun ls H locs hJ => ?_) (fun k ls H locs hk hJ ih => ?_)
  · obtain ⟨hl, hw⟩ := hJ
    obtain ⟨g, u9, hg, hw⟩ := hw
    refine lv_iload hx hb d_La_stepBack_9 (lv_at hl 5 rfl) ?_
    refine lv_iload hx hb d_La_stepBack_11 (lv_at hl 3 rfl) ?_
    refine lv_icmp_gt (tgt := 87) hx hb d_La_stepBack_13 (by decide) (fun c1 => ?_) (fun c1 => ?_)
    · exact kt_v hx hb hr hlocks hw.1 d_La_stepBack_87 (by exact ⟨g, hg, hw.2.1, by rw [hn0]; exact hw.2.2.1⟩) (by first | decide | (dsimp only; omega)) (by first | decide | (dsimp only; omega))
    · exact absurd (nI_lt (by omega) (by omega)) c1
  · obtain ⟨hl, hw⟩ := hJ
    obtain ⟨g, u9, hg, hw⟩ := hw
    refine lv_iload hx hb d_La_stepBack_9 (lv_at hl 5 rfl) ?_
    refine lv_iload hx hb d_La_stepBack_11 (lv_at hl 3 rfl) ?_
    refine lv_icmp_gt (tgt := 87) hx hb d_La_stepBack_13 (by decide) (fun c1 => ?_) (fun c1 => ?_)
    · exact absurd c1 (nI_nlt (by omega) (by omega))
    · refine lv_iload hx hb d_La_stepBack_16 (lv_at hl 4 rfl) ?_
      refine lv_i2l hx hb d_La_stepBack_18 rfl ?_
      refine lv_aload_n hx hb d_La_stepBack_19 rfl (lv_at hl 0 rfl) ?_
      refine kg_La 2 (by decide) hx hb ht hown hw gw_84 rfl rfl d_La_stepBack_20 ?_
      refine lv_iload hx hb d_La_stepBack_23 (lv_at hl 5 rfl) ?_
      refine lv_iconst (v := 1) hx hb d_La_stepBack_25 (by decide) ?_
      refine lv_iadd hx hb d_La_stepBack_26 ?_
      refine ka_lr (k := (k + 1)) (nI_1 k) (by omega) hx hb hw d_La_stepBack_27 ?_
      refine lv_lmul hx hb d_La_stepBack_28 ?_
      refine lv_bipush (v := 16) hx hb d_La_stepBack_29 (by decide) ?_
      refine lv_iload hx hb d_La_stepBack_31 (lv_at hl 4 rfl) ?_
      refine lv_isub hx hb d_La_stepBack_33 ?_
      refine lv_i2l hx hb d_La_stepBack_34 rfl ?_
      refine lv_aload_n hx hb d_La_stepBack_35 rfl (lv_at hl 0 rfl) ?_
      refine kg_La 2 (by decide) hx hb ht hown hw gw_84 rfl rfl d_La_stepBack_36 ?_
      refine lv_iload hx hb d_La_stepBack_39 (lv_at hl 5 rfl) ?_
      refine ka_lr (k := k) rfl (by omega) hx hb hw d_La_stepBack_41 ?_
      refine lv_lmul hx hb d_La_stepBack_42 ?_
      refine lv_ladd hx hb d_La_stepBack_43 ?_
      refine lv_lstore (lv' := [(7, .long ((((q_ch s o).toInt64) * (g (k + 1))) + ((((16 : Int32) - (q_ch s o)).toInt64) * (g k)))), (0, .ref (lc 5)), (1, .ref (lc (8 + o))), (2, .long D), (4, .int (nI T)), (5, .int (q_ch s o)), (6, .int (nI k))]) hx hb d_La_stepBack_44 hl (by decide) rfl (fun ls hl => ?_)
      refine lv_lload_n hx hb d_La_stepBack_46 rfl (lv_at hl 3 rfl) ?_
      refine lv_lload hx hb d_La_stepBack_47 (lv_at hl 0 rfl) ?_
      refine lv_lmul hx hb d_La_stepBack_49 ?_
      refine lv_bipush (v := 14) hx hb d_La_stepBack_50 (by decide) ?_
      refine kc_l (kr_SN 2 (host := "QuoteGraph") (As := [.long (D * ((((q_ch s o).toInt64) * (g (k + 1))) + ((((16 : Int32) - (q_ch s o)).toInt64) * (g k)))), .int (14 : Int32)]) (rest := []) (c_Q_rounded l hl9 G A u9 _ _) hx hb hml hown ht hw.1 (ew_of 661 _ (by decide +kernel) rfl) gw_561 gw_42 gw_562 ⟨⟨by decide, by decide⟩, by decide +kernel⟩ ⟨by first | decide | (dsimp only; omega), by first | decide | (dsimp only; omega)⟩ rfl hl.1 rfl (lv_room (Nat.le_of_ble_eq_true rfl)) d_La_stepBack_52 ⟨by first | decide | (dsimp only; omega), by first | decide | (dsimp only; omega)⟩) hw.1 (fun E ce q9 u1 H1 locs1 hp hw1 hce hcv hcl => ?_) (fun r1 u1 H1 locs1 hp1 hw1 => ?_)
      · obtain ⟨rfl, hbg, hq9⟩ := hp
        replace hq9 := hq9.symm; subst hq9
        have e9 : lsb s o D (nI T) (z_lr z) (k + 1) = none := by show (match lsb s o D (nI T) (z_lr z) k with | none => none | some g => _) = none; rw [hg]; exact if_pos hbg
        have e8 := lsb_none e9 (T - k)
        rw [show k + 1 + (T - k) = T + 1 by omega] at e8
        exact kt_out htab hlocks hw1 hce hcv hcl ⟨rfl, e8, ⟨g, hw.2.1⟩, by rw [hn0]; exact hw.2.2.1⟩ (by decide) (by decide)
      obtain ⟨er1, hbg, hq1⟩ := hp1
      replace hq1 := hq1.symm; subst hq1
      have hw : Sk G A lc s (zS_lr z g) n0 u u9 st H1 locs1 := ⟨hw1, hw.2⟩
      subst er1
      refine lv_lstore (lv' := [(9, .long (lstp s o D (g (k + 1)) (g k))), (7, .long ((((q_ch s o).toInt64) * (g (k + 1))) + ((((16 : Int32) - (q_ch s o)).toInt64) * (g k)))), (0, .ref (lc 5)), (1, .ref (lc (8 + o))), (2, .long D), (4, .int (nI T)), (5, .int (q_ch s o)), (6, .int (nI k))]) hx hb d_La_stepBack_55 hl (by decide) rfl (fun ls hl => ?_)
      refine lv_aload_n hx hb d_La_stepBack_57 rfl (lv_at hl 2 rfl) ?_
      refine kg_La 2 (by decide) hx hb ht hown hw gw_84 rfl rfl d_La_stepBack_58 ?_
      refine lv_iload hx hb d_La_stepBack_61 (lv_at hl 7 rfl) ?_
      refine lv_aload_n hx hb d_La_stepBack_63 rfl (lv_at hl 3 rfl) ?_
      refine lv_aload_n hx hb d_La_stepBack_64 rfl (lv_at hl 3 rfl) ?_
      refine lv_iconst (v := 2) hx hb d_La_stepBack_65 (by decide) ?_
      refine lv_iload hx hb d_La_stepBack_66 (lv_at hl 7 rfl) ?_
      refine lv_imul hx hb d_La_stepBack_68 ?_
      refine lv_iload hx hb d_La_stepBack_69 (lv_at hl 5 rfl) ?_
      refine lv_isub hx hb d_La_stepBack_71 ?_
      refine kc_l (kr_V 1 (C := "QuoteGraph$Option") (As := [.int (((2 : Int32) * (nI k)) - (nI T))]) (rest := [.ref (lc (8 + o)), .int (nI k), .ref (lc 3)]) (c_Op_priceAt l G A lc s _ u9 hw.2.1 o (by rw [hn0]; exact ho) h3 _) hx hb hml hown ht hw.1 gw_639 gw_640 gw_641 gw_57 gw_642 ⟨⟨by decide, by decide⟩, by decide +kernel⟩ ⟨by first | decide | (dsimp only; omega), by first | decide | (dsimp only; omega)⟩ (by have h := kr_N hw ho; rw [h3] at h; exact h) rfl hl.1 rfl (lv_room (Nat.le_of_ble_eq_true rfl)) d_La_stepBack_72 ⟨by first | decide | (dsimp only; omega), by first | decide | (dsimp only; omega)⟩) hw.1 (fun _ _ _ _ _ _ h => h.elim) (fun r2 u2 H2 locs2 hp2 hw2 => ?_)
      obtain ⟨er2, hq2⟩ := hp2
      replace hq2 := hq2.symm; subst hq2
      subst er2
      have hw : Sk G A lc s (zS_lr z g) n0 u u9 st H2 locs2 := ⟨hw2, hw.2⟩
      refine lv_lload hx hb d_La_stepBack_75 (lv_at hl 0 rfl) ?_
      refine kc_l (kr_V 2 (C := "QuoteGraph$Option") (As := [.long (oP s o (2 * nI k - nI T)), .long (lstp s o D (g (k + 1)) (g k))]) (rest := [.int (nI k), .ref (lc 3)]) (c_Op_heldAt l G A lc s _ u9 hw.2.1 o (by rw [hn0]; exact ho) h3 _ _) hx hb hml hown ht hw.1 gw_662 gw_663 gw_664 gw_57 gw_665 ⟨⟨by decide, by decide⟩, by decide +kernel⟩ ⟨by first | decide | (dsimp only; omega), by first | decide | (dsimp only; omega)⟩ (by have h := kr_N hw ho; rw [h3] at h; exact h) rfl hl.1 rfl (lv_room (Nat.le_of_ble_eq_true rfl)) d_La_stepBack_77 ⟨by first | decide | (dsimp only; omega), by first | decide | (dsimp only; omega)⟩) hw.1 (fun _ _ _ _ _ _ h => h.elim) (fun r3 u3 H3 locs3 hp3 hw3 => ?_)
      obtain ⟨er3, hq3⟩ := hp3
      replace hq3 := hq3.symm; subst hq3
      subst er3
      have hw : Sk G A lc s (zS_lr z g) n0 u u9 st H3 locs3 := ⟨hw3, hw.2⟩
      refine kp_lr (k := k) (x := (oHeld s o (oP s o (2 * nI k - nI T)) (lstp s o D (g (k + 1)) (g k)))) rfl (by omega) hx hb hw d_La_stepBack_80 (fun H4 locs4 u4 hw => ?_)
      obtain ⟨i5, ei5⟩ : ∃ y : Int32, y = (nI k) + 1 := ⟨_, rfl⟩
      refine lv_iinc (v := i5) (lv' := [(6, .int i5), (9, .long (lstp s o D (g (k + 1)) (g k))), (7, .long ((((q_ch s o).toInt64) * (g (k + 1))) + ((((16 : Int32) - (q_ch s o)).toInt64) * (g k)))), (0, .ref (lc 5)), (1, .ref (lc (8 + o))), (2, .long D), (4, .int (nI T)), (5, .int (q_ch s o))]) hx hb d_La_stepBack_81 hl (k := 7) rfl (by rw [ei5]; rfl) (by decide) rfl (fun ls hl => ?_)
      rw [nI_1] at ei5; subst ei5
      refine lv_goto (tgt := 9) hx hb d_La_stepBack_84 (by decide) ?_
      have hg2 : lsb s o D (nI T) (z_lr z) (k + 1) = some (vp_updL g k (oHeld s o (oP s o (2 * nI k - nI T)) (lstp s o D (g (k + 1)) (g k)))) := by show (match lsb s o D (nI T) (z_lr z) k with | none => none | some g => _) = _; rw [hg]; exact if_neg (by rw [show bigL (lstp s o D (g (k + 1)) (g k)) = false from hbg]; decide)
      exact ih ls H4 locs4 ⟨lv_sub hl [3, 4, 5, 6, 7, 0] rfl, _, u4, hg2, hw⟩
set_option maxHeartbeats 4000000 in
set_option maxRecDepth 100000 in
theorem c_La_price (l : Launch) (hl9 : l.stackTraces = false) (G : GT) (A : Nat → Prop) (lc : Nat → Nat) (s : QS) (z : ZS) (u : WT) (hR : rQ G lc s z u) (o : Nat) (ho : o < q_n s) (h3 : q_so s o = 3) (D : Int64) (N : Nat) (hN : q_sp s o = nI N) (hN1 : 1 ≤ N) (hN2 : N ≤ 20) : Kt l y_La_price b_La_price 5 (some .long) 9 173 1 6 0 0 1 6 G A u [.ref (lc 5), .ref (lc (8 + o)), .long D] (KQ G A (Rl (fun r u' => latV s o D N (z_lr z) = some r ∧ (∃ g, rQ G lc s (zS_lr z g) u') ∧ fQ lc (q_n s) u u'))) (fun E u' => E = "java/lang/ArithmeticException" ∧ latV s o D N (z_lr z) = none ∧ (∃ g, rQ G lc s (zS_lr z g) u') ∧ fQ lc (q_n s) u u') := by
  refine k_of (by decide) (Nat.le_of_ble_eq_true rfl) (fun p e st m below meth c ls hx hb hr hlocks hml htab hname hown ht hw hl => ?_)
  have hl : lv_has ls 5 [(0, .ref (lc 5)), (1, .ref (lc (8 + o))), (2, .long D)] := hl
  obtain ⟨n0, hn0⟩ : ∃ n0, q_n s = n0 := ⟨_, rfl⟩
  have hw : Sk G A lc s z n0 u u st st.heap [] := ⟨hw, hR, fQ.rf, hn0⟩
  have hp0 := (opt_p hR.1 ho h3).1
  have hp1 := (opt_p hR.1 ho h3).2
  rw [hn0] at ho hp0 hp1
  refine lv_iconst (v := 0) hx hb d_La_price_0 (by decide) ?_
  refine lv_istore (lv' := [(4, .int (0 : Int32)), (0, .ref (lc 5)), (1, .ref (lc (8 + o))), (2, .long D)]) hx hb d_La_price_1 hl (by decide) rfl (fun ls hl => ?_)
  refine k_cntH (N + 1) (fun k ls H locs => lv_has ls 5 [(0, .ref (lc 5)), (1, .ref (lc (8 + o))), (2, .long D), (4, .int (nI k))] ∧ ∃ u9, Sk G A lc s (zS_lr z (lat0 s o (z_lr z) k)) n0 u u9 st H locs) (k0 := 0) (Nat.zero_le _) (⟨lv_sub hl [1, 2, 3, 0] rfl, u, hw⟩) (fun ls H locs hJ => ?_) (fun k ls H locs hk hJ ih => ?_)
  · obtain ⟨hl, hw⟩ := hJ
    obtain ⟨u9, hw⟩ := hw
    refine lv_iload hx hb d_La_price_3 (lv_at hl 3 rfl) ?_
    refine lv_aload_n hx hb d_La_price_5 rfl (lv_at hl 1 rfl) ?_
    refine kg_O (j := o) 14 (by decide) (by decide) hx hb ht hown hw ho h3 gw_407 rfl (by rw [ndX_O h3]; rfl) d_La_price_6 ?_
    refine lv_icmp_gt (tgt := 42) hx hb d_La_price_9 (by decide) (fun c1 => ?_) (fun c1 => ?_)
    · refine lv_aload_n hx hb d_La_price_42 rfl (lv_at hl 1 rfl) ?_
      refine kg_O (j := o) 14 (by decide) (by decide) hx hb ht hown hw ho h3 gw_407 rfl (by rw [ndX_O h3]; rfl) d_La_price_43 ?_
      refine lv_iconst (v := 1) hx hb d_La_price_46 (by decide) ?_
      refine lv_isub hx hb d_La_price_47 ?_
      refine lv_istore (lv' := [(4, .int ((q_sp s o) - (1 : Int32))), (0, .ref (lc 5)), (1, .ref (lc (8 + o))), (2, .long D)]) hx hb d_La_price_48 hl (by decide) rfl (fun ls hl => ?_)
      rw [hN] at hl
      have e0 : nI N - 1 = nI N - 1 - nI 0 := by rw [show nI 0 = 0 from rfl]; simp
      rw [e0] at hl
      refine k_cntH (N) (fun i ls H locs => lv_has ls 5 [(0, .ref (lc 5)), (1, .ref (lc (8 + o))), (2, .long D), (4, .int (nI N - 1 - nI i))] ∧ ∃ g u9, lts s o D N (lat0 s o (z_lr z) (N + 1)) i = some g ∧ Sk G A lc s (zS_lr z g) n0 u u9 st H locs) (k0 := 0) (Nat.zero_le _) (⟨lv_sub hl [1, 2, 3, 0] rfl, _, u9, rfl, hw⟩) (fun ls H locs hJ => ?_) (fun i ls H locs hi hJ ih2 => ?_)
      · obtain ⟨hl, hw⟩ := hJ
        obtain ⟨g, u9, hg, hw⟩ := hw
        refine lv_iload hx hb d_La_price_50 (lv_at hl 3 rfl) ?_
        refine lv_if_lt (tgt := 69) hx hb d_La_price_52 (by decide) (fun c2 => ?_) (fun c2 => ?_)
        · refine lv_aload_n hx hb d_La_price_69 rfl (lv_at hl 0 rfl) ?_
          refine kg_La 2 (by decide) hx hb ht hown hw gw_84 rfl rfl d_La_price_70 ?_
          refine lv_iconst (v := 0) hx hb d_La_price_73 (by decide) ?_
          refine ka_lr (k := 0) rfl (by omega) hx hb hw d_La_price_74 ?_
          exact kt_l hx hb hr hlocks hw.1 d_La_price_75 (by exact ⟨by unfold latV; rw [hg]; rfl, ⟨_, hw.2.1⟩, by rw [hn0]; exact hw.2.2.1⟩) (by first | decide | (dsimp only; omega)) (by first | decide | (dsimp only; omega))
        · exact absurd (by rw [i_rng1]; decide) c2
      · obtain ⟨hl, hw⟩ := hJ
        obtain ⟨g, u9, hg, hw⟩ := hw
        have ei : nI N - 1 - nI i = nI (N - 1 - i) := by rw [show (1 : Int32) = nI 1 from rfl, pk_sub (by omega), pk_sub (by omega)]
        rw [ei] at hl
        refine lv_iload hx hb d_La_price_50 (lv_at hl 3 rfl) ?_
        refine lv_if_lt (tgt := 69) hx hb d_La_price_52 (by decide) (fun c2 => ?_) (fun c2 => ?_)
        · exact absurd c2 (nI_pos (by omega))
        · refine lv_aload_n hx hb d_La_price_55 rfl (lv_at hl 0 rfl) ?_
          refine lv_aload_n hx hb d_La_price_56 rfl (lv_at hl 1 rfl) ?_
          refine lv_lload_n hx hb d_La_price_57 rfl (lv_at hl 2 rfl) ?_
          refine lv_iload hx hb d_La_price_58 (lv_at hl 3 rfl) ?_
          refine kc_v (kr_V 3 (C := "QuoteGraph$Lattice") (As := [.ref (lc (8 + o)), .long D, .int (nI (N - 1 - i))]) (rest := []) (c_La_stepBack l hl9 G A lc s _ u9 hw.2.1 o (by rw [hn0]; exact ho) h3 D (N - 1 - i) (by omega)) hx hb hml hown ht hw.1 gw_657 gw_659 gw_15 gw_44 gw_660 ⟨⟨by decide, by decide⟩, by decide +kernel⟩ ⟨by first | decide | (dsimp only; omega), by first | decide | (dsimp only; omega)⟩ (kr_La hw) rfl hl.1 rfl (lv_room (Nat.le_of_ble_eq_true rfl)) d_La_price_60 ⟨by first | decide | (dsimp only; omega), by first | decide | (dsimp only; omega)⟩) hw.1 (fun E ce q9 u1 H1 locs1 hp hw1 hce hcv hcl => ?_) (fun u1 H1 locs1 hp1 hw1 => ?_)
          · obtain ⟨rfl, hn9, ⟨g9, hr9⟩, hf9⟩ := hp
            have e9 : lts s o D N (lat0 s o (z_lr z) (N + 1)) (i + 1) = none := by show (match lts s o D N (lat0 s o (z_lr z) (N + 1)) i with | none => none | some g => _) = none; rw [hg]; show lsb s o D (nI (N - 1 - i)) g (N - i) = none; rw [show N - i = N - 1 - i + 1 by omega]; exact hn9
            have e8 := lts_none e9 (N - (i + 1))
            rw [show i + 1 + (N - (i + 1)) = N by omega] at e8
            exact kt_out htab hlocks hw1 hce hcv hcl ⟨rfl, by unfold latV; rw [e8]; rfl, ⟨g9, hr9⟩, by rw [hn0]; exact hw.2.2.1.tr (by rw [← hn0]; exact hf9)⟩ (by decide) (by decide)
          obtain ⟨g2, hg2, hr2, hf2⟩ := hp1
          have e9 : lts s o D N (lat0 s o (z_lr z) (N + 1)) (i + 1) = some g2 := by show (match lts s o D N (lat0 s o (z_lr z) (N + 1)) i with | none => none | some g => _) = some g2; rw [hg]; show lsb s o D (nI (N - 1 - i)) g (N - i) = some g2; rw [show N - i = N - 1 - i + 1 by omega]; exact hg2
          have hw : Sk G A lc s (zS_lr z g2) n0 u u1 st H1 locs1 := ⟨hw1, hr2, hw.2.2.1.tr (by rw [← hn0]; exact hf2), hn0⟩
          obtain ⟨i2, ei2⟩ : ∃ y : Int32, y = (nI (N - 1 - i)) + (-1) := ⟨_, rfl⟩
          refine lv_iinc (v := i2) (lv' := [(4, .int i2), (0, .ref (lc 5)), (1, .ref (lc (8 + o))), (2, .long D)]) hx hb d_La_price_63 hl (k := 3) rfl (by rw [ei2]; rfl) (by decide) rfl (fun ls hl => ?_)
          have e7 : i2 = nI N - 1 - nI (i + 1) := by rw [ei2, ← nI_1, ← ei]; exact i_rng2 _ _
          rw [e7] at hl
          refine lv_goto (tgt := 50) hx hb d_La_price_66 (by decide) ?_
          exact ih2 ls H1 locs1 ⟨lv_sub hl [1, 2, 3, 0] rfl, g2, u1, e9, hw⟩
    · exact absurd (by rw [hN]; exact nI_lt (by omega) (by omega)) c1
  · obtain ⟨hl, hw⟩ := hJ
    obtain ⟨u9, hw⟩ := hw
    refine lv_iload hx hb d_La_price_3 (lv_at hl 3 rfl) ?_
    refine lv_aload_n hx hb d_La_price_5 rfl (lv_at hl 1 rfl) ?_
    refine kg_O (j := o) 14 (by decide) (by decide) hx hb ht hown hw ho h3 gw_407 rfl (by rw [ndX_O h3]; rfl) d_La_price_6 ?_
    refine lv_icmp_gt (tgt := 42) hx hb d_La_price_9 (by decide) (fun c1 => ?_) (fun c1 => ?_)
    · exact absurd c1 (by rw [hN]; exact nI_nlt (by omega) (by omega))
    · refine lv_aload_n hx hb d_La_price_12 rfl (lv_at hl 0 rfl) ?_
      refine kg_La 2 (by decide) hx hb ht hown hw gw_84 rfl rfl d_La_price_13 ?_
      refine lv_iload hx hb d_La_price_16 (lv_at hl 3 rfl) ?_
      refine lv_aload_n hx hb d_La_price_18 rfl (lv_at hl 1 rfl) ?_
      refine lv_aload_n hx hb d_La_price_19 rfl (lv_at hl 1 rfl) ?_
      refine lv_iconst (v := 2) hx hb d_La_price_20 (by decide) ?_
      refine lv_iload hx hb d_La_price_21 (lv_at hl 3 rfl) ?_
      refine lv_imul hx hb d_La_price_23 ?_
      refine lv_aload_n hx hb d_La_price_24 rfl (lv_at hl 1 rfl) ?_
      refine kg_O (j := o) 14 (by decide) (by decide) hx hb ht hown hw ho h3 gw_407 rfl (by rw [ndX_O h3]; rfl) d_La_price_25 ?_
      refine lv_isub hx hb d_La_price_28 ?_
      refine kc_l (kr_V 1 (C := "QuoteGraph$Option") (As := [.int (((2 : Int32) * (nI k)) - (q_sp s o))]) (rest := [.ref (lc (8 + o)), .int (nI k), .ref (lc 3)]) (c_Op_priceAt l G A lc s _ u9 hw.2.1 o (by rw [hn0]; exact ho) h3 _) hx hb hml hown ht hw.1 gw_639 gw_640 gw_641 gw_57 gw_642 ⟨⟨by decide, by decide⟩, by decide +kernel⟩ ⟨by first | decide | (dsimp only; omega), by first | decide | (dsimp only; omega)⟩ (by have h := kr_N hw ho; rw [h3] at h; exact h) rfl hl.1 rfl (lv_room (Nat.le_of_ble_eq_true rfl)) d_La_price_29 ⟨by first | decide | (dsimp only; omega), by first | decide | (dsimp only; omega)⟩) hw.1 (fun _ _ _ _ _ _ h => h.elim) (fun r3 u3 H3 locs3 hp3 hw3 => ?_)
      obtain ⟨er3, hq3⟩ := hp3
      replace hq3 := hq3.symm; subst hq3
      subst er3
      have hw : Sk G A lc s (zS_lr z (lat0 s o (z_lr z) k)) n0 u u9 st H3 locs3 := ⟨hw3, hw.2⟩
      refine kc_l (kr_V 1 (C := "QuoteGraph$Option") (As := [.long (oP s o (2 * nI k - q_sp s o))]) (rest := [.int (nI k), .ref (lc 3)]) (c_Op_payoff l G A lc s _ u9 hw.2.1 o (by rw [hn0]; exact ho) h3 _) hx hb hml hown ht hw.1 gw_643 gw_644 gw_645 gw_57 gw_646 ⟨⟨by decide, by decide⟩, by decide +kernel⟩ ⟨by first | decide | (dsimp only; omega), by first | decide | (dsimp only; omega)⟩ (by have h := kr_N hw ho; rw [h3] at h; exact h) rfl hl.1 rfl (lv_room (Nat.le_of_ble_eq_true rfl)) d_La_price_32 ⟨by first | decide | (dsimp only; omega), by first | decide | (dsimp only; omega)⟩) hw.1 (fun _ _ _ _ _ _ h => h.elim) (fun r4 u4 H4 locs4 hp4 hw4 => ?_)
      obtain ⟨er4, hq4⟩ := hp4
      replace hq4 := hq4.symm; subst hq4
      subst er4
      have hw : Sk G A lc s (zS_lr z (lat0 s o (z_lr z) k)) n0 u u9 st H4 locs4 := ⟨hw4, hw.2⟩
      refine kp_lr (k := k) (x := (oPay s o (oP s o (2 * nI k - q_sp s o)))) rfl (by omega) hx hb hw d_La_price_35 (fun H5 locs5 u5 hw => ?_)
      obtain ⟨i6, ei6⟩ : ∃ y : Int32, y = (nI k) + 1 := ⟨_, rfl⟩
      refine lv_iinc (v := i6) (lv' := [(4, .int i6), (0, .ref (lc 5)), (1, .ref (lc (8 + o))), (2, .long D)]) hx hb d_La_price_36 hl (k := 3) rfl (by rw [ei6]; rfl) (by decide) rfl (fun ls hl => ?_)
      rw [nI_1] at ei6; subst ei6
      refine lv_goto (tgt := 3) hx hb d_La_price_39 (by decide) ?_
      exact ih ls H5 locs5 ⟨lv_sub hl [1, 2, 3, 0] rfl, u5, hw⟩
end
section
/-! 21.npure: the net's and the paths' numbers -/
def net0 (s : QS) (o : Nat) (f : Nat → Int64) : Nat → (Nat → Int64)
  | 0 => f
  | k + 1 => vp_updL (net0 s o f k) k (oPay s o (oP s o (nI k - q_sz s o)))
def nstp (s : QS) (o : Nat) (D a h b : Int64) : Int64 := rndL (D * (16 * h + (q_ch s o).toInt64 * (b - 2 * h + a))) 14
def nsb (s : QS) (o : Nat) (D : Int64) (f : Nat → Int64) : Nat → Option (Nat → Int64)
  | 0 => some f
  | k + 1 => match nsb s o D f k with
    | none => none
    | some g => if bigL (nstp s o D (f k) (f (k + 1)) (f (k + 2))) = true then none else some (vp_updL g (k + 1) (oHeld s o (oP s o (nI (k + 1) - q_sz s o)) (nstp s o D (f k) (f (k + 1)) (f (k + 2)))))
theorem nsb_none {s : QS} {o : Nat} {D : Int64} {f : Nat → Int64} {k : Nat} (h : nsb s o D f k = none) : ∀ d, nsb s o D f (k + d) = none
  | 0 => h
  | d + 1 => by show (match nsb s o D f (k + d) with | none => none | some g => _) = none; rw [nsb_none h d]
theorem nsb_get {s : QS} {o : Nat} {D : Int64} {f : Nat → Int64} : ∀ {k : Nat} {g : Nat → Int64}, nsb s o D f k = some g → ∀ j, k < j → g j = f j
  | 0, g, h, j, _ => by cases h; rfl
  | k + 1, g, h, j, hj => by
    have h : (match nsb s o D f k with | none => none | some g => if bigL (nstp s o D (f k) (f (k + 1)) (f (k + 2))) = true then none else some (vp_updL g (k + 1) (oHeld s o (oP s o (nI (k + 1) - q_sz s o)) (nstp s o D (f k) (f (k + 1)) (f (k + 2)))))) = some g := h
    cases hg : nsb s o D f k with
    | none => rw [hg] at h; cases h
    | some g0 =>
      rw [hg] at h
      dsimp only at h
      split at h
      · cases h
      · cases h
        rw [pk_uLn (by omega)]
        exact nsb_get hg j (by omega)
def nts (s : QS) (o : Nat) (D : Int64) (M : Nat) (f : Nat → Int64) : Nat → Option (Nat → Int64)
  | 0 => some f
  | i + 1 => match nts s o D M f i with
    | none => none
    | some g => nsb s o D g (2 * M - 1)
theorem nts_none {s : QS} {o : Nat} {D : Int64} {M : Nat} {f : Nat → Int64} {k : Nat} (h : nts s o D M f k = none) : ∀ d, nts s o D M f (k + d) = none
  | 0 => h
  | d + 1 => by show (match nts s o D M f (k + d) with | none => none | some g => _) = none; rw [nts_none h d]
def netV (s : QS) (o : Nat) (D : Int64) (M N : Nat) (f : Nat → Int64) : Option Int64 := (nts s o D M (net0 s o f (2 * M + 1)) N).map (fun g => g M)
/-- the stream -/
def dwN (x : Int64) : Int64 := (x * 1103515245 + 12345) &&& 2147483647
def dwU (x : Int64) (c : Int32) : Bool := decide (((x >>> ((16 : Int32).toInt64 &&& 63)) &&& 15) < c.toInt64)
def pthD (d : Int64) : Nat → Int64
  | 0 => d
  | k + 1 => dwN (pthD d k)
def pthP (s : QS) (o : Nat) (d : Int64) : Nat → Int64
  | 0 => oS s o
  | k + 1 => pthP s o d k + (if dwU (pthD d (k + 1)) (q_ch s o) = true then oM s o else -(oM s o))
def pthB (s : QS) (o : Nat) (d : Int64) : Nat → Bool
  | 0 => oOut s o (oS s o)
  | k + 1 => pthB s o d k || oOut s o (pthP s o d (k + 1))
def pEnd (s : QS) (o : Nat) (N : Nat) (d : Int64) : Int64 := if pthB s o d N = true then 0 else oPI s o (pthP s o d N)
def pDk (N : Nat) : Nat → Int64
  | 0 => 12345
  | k + 1 => pthD (pDk N k) N
def pSum (s : QS) (o : Nat) (N : Nat) : Nat → Int64
  | 0 => 0
  | k + 1 => pSum s o N k + pEnd s o N (pDk N k)
def pW (s : QS) (o : Nat) (D : Int64) (x : Int64) : Nat → Option Int64
  | 0 => if bigL (rndL x (q_sz s o)) = true then none else some (rndL x (q_sz s o))
  | i + 1 => match pW s o D x i with
    | none => none
    | some w => if bigL (rndL (D * w) 10) = true then none else some (rndL (D * w) 10)
theorem pW_none {s : QS} {o : Nat} {D x : Int64} {k : Nat} (h : pW s o D x k = none) : ∀ d, pW s o D x (k + d) = none
  | 0 => h
  | d + 1 => by show (match pW s o D x (k + d) with | none => none | some g => _) = none; rw [pW_none h d]
def pthV (s : QS) (o : Nat) (D : Int64) (Z N : Nat) : Option Int64 := pW s o D (pSum s o N (2 ^ Z)) N
end
section
/-! 22.net: contracts of the net -/
set_option maxHeartbeats 4000000 in
set_option maxRecDepth 100000 in
theorem c_Ne_checkSuits (l : Launch) (hl9 : l.stackTraces = false) (G : GT) (A : Nat → Prop) (lc : Nat → Nat) (s : QS) (z : ZS) (u : WT) (hR : rQ G lc s z u) (o : Nat) (ho : o < q_n s) (h3 : q_so s o = 3) : Kt l y_Ne_checkSuits b_Ne_checkSuits 2 none 6 100 1 6 0 0 1 6 G A u [.ref (lc 7), .ref (lc (8 + o))] (KQ G A (Rv (fun u' => q_ch s o ≤ 8 ∧ u' = u))) (fun E u' => E = "java/lang/ArithmeticException" ∧ ¬ q_ch s o ≤ 8 ∧ u' = u) := by
  refine k_of (by decide) (Nat.le_of_ble_eq_true rfl) (fun p e st m below meth c ls hx hb hr hlocks hml htab hname hown ht hw hl => ?_)
  have hl : lv_has ls 2 [(0, .ref (lc 7)), (1, .ref (lc (8 + o)))] := hl
  obtain ⟨n0, hn0⟩ : ∃ n0, q_n s = n0 := ⟨_, rfl⟩
  have hw : Sk G A lc s z n0 u u st st.heap [] := ⟨hw, hR, fQ.rf, hn0⟩
  have hp0 := (opt_p hR.1 ho h3).1
  have hp1 := (opt_p hR.1 ho h3).2
  rw [hn0] at ho hp0 hp1
  refine lv_aload_n hx hb d_Ne_checkSuits_0 rfl (lv_at hl 1 rfl) ?_
  refine kg_O (j := o) 17 (by decide) (by decide) hx hb ht hown hw ho h3 gw_413 rfl (by rw [ndX_O h3]; rfl) d_Ne_checkSuits_1 ?_
  refine lv_bipush (v := 8) hx hb d_Ne_checkSuits_4 (by decide) ?_
  refine lv_icmp_le (tgt := 19) hx hb d_Ne_checkSuits_6 (by decide) (fun c1 => ?_) (fun c1 => ?_)
  · exact kt_v hx hb hr hlocks hw.1 d_Ne_checkSuits_19 (by exact ⟨c1, rfl⟩) (by first | decide | (dsimp only; omega)) (by first | decide | (dsimp only; omega))
  · exact kt_throw (own := R_Ne) (cls := "java/lang/ArithmeticException") (ik := 21) (is := 23) (ic := 25) 9 hl9 hx hb htab hlocks hml hl.1 ht hown hw.1 (by decide) gw_602 gw_58 rfl at_Ne_25 d_Ne_checkSuits_9 d_Ne_checkSuits_12 d_Ne_checkSuits_13 d_Ne_checkSuits_15 d_Ne_checkSuits_18 (by first | decide | (dsimp only; omega)) (Nat.le_of_ble_eq_true rfl) (by first | decide | (dsimp only; omega)) (by first | decide | (dsimp only; omega)) (by exact ⟨rfl, c1, rfl⟩) (by first | decide | (dsimp only; omega)) (by first | decide | (dsimp only; omega))
set_option maxHeartbeats 4000000 in
set_option maxRecDepth 100000 in
theorem c_Ne_stepBack (l : Launch) (hl9 : l.stackTraces = false) (G : GT) (A : Nat → Prop) (lc : Nat → Nat) (s : QS) (z : ZS) (u : WT) (hR : rQ G lc s z u) (o : Nat) (ho : o < q_n s) (h3 : q_so s o = 3) (D : Int64) (M : Nat) (hM : q_sz s o = nI M) (hM1 : 1 ≤ M) (hM2 : M ≤ 20) : Kt l y_Ne_stepBack b_Ne_stepBack 16 none 8 143 1 6 0 0 1 6 G A u [.ref (lc 7), .ref (lc (8 + o)), .long D, .int (q_sz s o)] (KQ G A (Rv (fun u' => ∃ g, nsb s o D (z_nr z) (2 * M - 1) = some g ∧ rQ G lc s (zS_nr z g) u' ∧ fQ lc (q_n s) u u'))) (fun E u' => E = "java/lang/ArithmeticException" ∧ nsb s o D (z_nr z) (2 * M - 1) = none ∧ (∃ g, rQ G lc s (zS_nr z g) u') ∧ fQ lc (q_n s) u u') := by
  refine k_of (by decide) (Nat.le_of_ble_eq_true rfl) (fun p e st m below meth c ls hx hb hr hlocks hml htab hname hown ht hw hl => ?_)
  have hl : lv_has ls 16 [(0, .ref (lc 7)), (1, .ref (lc (8 + o))), (2, .long D), (4, .int (q_sz s o))] := hl
  obtain ⟨n0, hn0⟩ : ∃ n0, q_n s = n0 := ⟨_, rfl⟩
  have hw : Sk G A lc s z n0 u u st st.heap [] := ⟨hw, hR, fQ.rf, hn0⟩
  have hp0 := (opt_p hR.1 ho h3).1
  have hp1 := (opt_p hR.1 ho h3).2
  rw [hn0] at ho hp0 hp1
  have h2 : (2 : Int32) * q_sz s o = nI (2 * M) := by rw [hM]; exact pk_mul 2 M
  refine lv_aload_n hx hb d_Ne_stepBack_0 rfl (lv_at hl 0 rfl) ?_
  refine kg_Ne 2 (by decide) hx hb ht hown hw gw_115 rfl rfl d_Ne_stepBack_1 ?_
  refine lv_iconst (v := 0) hx hb d_Ne_stepBack_4 (by decide) ?_
  refine ka_nr (k := 0) rfl (by omega) hx hb hw d_Ne_stepBack_5 ?_
  refine lv_lstore (lv' := [(5, .long (z_nr z 0)), (0, .ref (lc 7)), (1, .ref (lc (8 + o))), (2, .long D), (4, .int (q_sz s o))]) hx hb d_Ne_stepBack_6 hl (by decide) rfl (fun ls hl => ?_)
  refine lv_iconst (v := 1) hx hb d_Ne_stepBack_8 (by decide) ?_
  refine lv_istore (lv' := [(7, .int (1 : Int32)), (5, .long (z_nr z 0)), (0, .ref (lc 7)), (1, .ref (lc (8 + o))), (2, .long D), (4, .int (q_sz s o))]) hx hb d_Ne_stepBack_9 hl (by decide) rfl (fun ls hl => ?_)
  refine k_cntH (2 * M - 1) (fun k ls H locs => lv_has ls 16 [(0, .ref (lc 7)), (1, .ref (lc (8 + o))), (2, .long D), (4, .int (q_sz s o)), (5, .long (z_nr z k)), (7, .int (nI (k + 1)))] ∧ ∃ g u9, nsb s o D (z_nr z) k = some g ∧ Sk G A lc s (zS_nr z g) n0 u u9 st H locs) (k0 := 0) (Nat.zero_le _) (⟨lv_sub hl [2, 3, 4, 5, 1, 0] rfl, _, u, rfl, hw⟩) (fun ls H locs hJ => ?_) (fun k ls H locs hk hJ ih => ?_)
  · obtain ⟨hl, hw⟩ := hJ
    obtain ⟨g, u9, hg, hw⟩ := hw
    refine lv_iload hx hb d_Ne_stepBack_11 (lv_at hl 5 rfl) ?_
    refine lv_iconst (v := 2) hx hb d_Ne_stepBack_13 (by decide) ?_
    refine lv_iload hx hb d_Ne_stepBack_14 (lv_at hl 3 rfl) ?_
    refine lv_imul hx hb d_Ne_stepBack_16 ?_
    refine lv_icmp_ge (tgt := 110) hx hb d_Ne_stepBack_17 (by decide) (fun c1 => ?_) (fun c1 => ?_)
    · exact kt_v hx hb hr hlocks hw.1 d_Ne_stepBack_110 (by exact ⟨g, hg, hw.2.1, by rw [hn0]; exact hw.2.2.1⟩) (by first | decide | (dsimp only; omega)) (by first | decide | (dsimp only; omega))
    · exact absurd (by rw [h2]; exact nI_le (by omega) (by omega)) c1
  · obtain ⟨hl, hw⟩ := hJ
    obtain ⟨g, u9, hg, hw⟩ := hw
    refine lv_iload hx hb d_Ne_stepBack_11 (lv_at hl 5 rfl) ?_
    refine lv_iconst (v := 2) hx hb d_Ne_stepBack_13 (by decide) ?_
    refine lv_iload hx hb d_Ne_stepBack_14 (lv_at hl 3 rfl) ?_
    refine lv_imul hx hb d_Ne_stepBack_16 ?_
    refine lv_icmp_ge (tgt := 110) hx hb d_Ne_stepBack_17 (by decide) (fun c1 => ?_) (fun c1 => ?_)
    · exact absurd c1 (by rw [h2]; exact nI_ge (by omega) (by omega))
    · refine lv_aload_n hx hb d_Ne_stepBack_20 rfl (lv_at hl 0 rfl) ?_
      refine kg_Ne 2 (by decide) hx hb ht hown hw gw_115 rfl rfl d_Ne_stepBack_21 ?_
      refine lv_iload hx hb d_Ne_stepBack_24 (lv_at hl 5 rfl) ?_
      refine ka_nr (k := (k + 1)) rfl (by omega) hx hb hw d_Ne_stepBack_26 ?_
      rw [show z_nr (zS_nr z g) (k + 1) = z_nr z (k + 1) from nsb_get hg (k + 1) (by omega)]
      refine lv_lstore (lv' := [(8, .long (z_nr z (k + 1))), (0, .ref (lc 7)), (1, .ref (lc (8 + o))), (2, .long D), (4, .int (q_sz s o)), (5, .long (z_nr z k)), (7, .int (nI (k + 1)))]) hx hb d_Ne_stepBack_27 hl (by decide) rfl (fun ls hl => ?_)
      refine lv_aload_n hx hb d_Ne_stepBack_29 rfl (lv_at hl 1 rfl) ?_
      refine kg_Ne 2 (by decide) hx hb ht hown hw gw_115 rfl rfl d_Ne_stepBack_30 ?_
      refine lv_iload hx hb d_Ne_stepBack_33 (lv_at hl 6 rfl) ?_
      refine lv_iconst (v := 1) hx hb d_Ne_stepBack_35 (by decide) ?_
      refine lv_iadd hx hb d_Ne_stepBack_36 ?_
      refine ka_nr (k := (k + 1 + 1)) (nI_1 (k + 1)) (by omega) hx hb hw d_Ne_stepBack_37 ?_
      rw [show z_nr (zS_nr z g) (k + 1 + 1) = z_nr z (k + 2) from nsb_get hg (k + 2) (by omega)]
      refine lv_ldc2 (v := 2) hx hb hown (ht _ gw_675) d_Ne_stepBack_38 ?_
      refine lv_lload hx hb d_Ne_stepBack_41 (lv_at hl 0 rfl) ?_
      refine lv_lmul hx hb d_Ne_stepBack_43 ?_
      refine lv_lsub hx hb d_Ne_stepBack_44 ?_
      refine lv_lload hx hb d_Ne_stepBack_45 (lv_at hl 5 rfl) ?_
      refine lv_ladd hx hb d_Ne_stepBack_47 ?_
      refine lv_lstore (lv' := [(10, .long (((z_nr z (k + 2)) - ((2 : Int64) * (z_nr z (k + 1)))) + (z_nr z k))), (8, .long (z_nr z (k + 1))), (0, .ref (lc 7)), (1, .ref (lc (8 + o))), (2, .long D), (4, .int (q_sz s o)), (5, .long (z_nr z k)), (7, .int (nI (k + 1)))]) hx hb d_Ne_stepBack_48 hl (by decide) rfl (fun ls hl => ?_)
      refine lv_ldc2 (v := 16) hx hb hown (ht _ gw_676) d_Ne_stepBack_50 ?_
      refine lv_lload hx hb d_Ne_stepBack_53 (lv_at hl 1 rfl) ?_
      refine lv_lmul hx hb d_Ne_stepBack_55 ?_
      refine lv_aload_n hx hb d_Ne_stepBack_56 rfl (lv_at hl 3 rfl) ?_
      refine kg_O (j := o) 17 (by decide) (by decide) hx hb ht hown hw ho h3 gw_413 rfl (by rw [ndX_O h3]; rfl) d_Ne_stepBack_57 ?_
      refine lv_i2l hx hb d_Ne_stepBack_60 rfl ?_
      refine lv_lload hx hb d_Ne_stepBack_61 (lv_at hl 0 rfl) ?_
      refine lv_lmul hx hb d_Ne_stepBack_63 ?_
      refine lv_ladd hx hb d_Ne_stepBack_64 ?_
      refine lv_lstore (lv' := [(12, .long (((16 : Int64) * (z_nr z (k + 1))) + (((q_ch s o).toInt64) * (((z_nr z (k + 2)) - ((2 : Int64) * (z_nr z (k + 1)))) + (z_nr z k))))), (10, .long (((z_nr z (k + 2)) - ((2 : Int64) * (z_nr z (k + 1)))) + (z_nr z k))), (8, .long (z_nr z (k + 1))), (0, .ref (lc 7)), (1, .ref (lc (8 + o))), (2, .long D), (4, .int (q_sz s o)), (5, .long (z_nr z k)), (7, .int (nI (k + 1)))]) hx hb d_Ne_stepBack_65 hl (by decide) rfl (fun ls hl => ?_)
      refine lv_lload_n hx hb d_Ne_stepBack_67 rfl (lv_at hl 5 rfl) ?_
      refine lv_lload hx hb d_Ne_stepBack_68 (lv_at hl 0 rfl) ?_
      refine lv_lmul hx hb d_Ne_stepBack_70 ?_
      refine lv_bipush (v := 14) hx hb d_Ne_stepBack_71 (by decide) ?_
      refine kc_l (kr_SN 2 (host := "QuoteGraph") (As := [.long (D * (((16 : Int64) * (z_nr z (k + 1))) + (((q_ch s o).toInt64) * (((z_nr z (k + 2)) - ((2 : Int64) * (z_nr z (k + 1)))) + (z_nr z k))))), .int (14 : Int32)]) (rest := []) (c_Q_rounded l hl9 G A u9 _ _) hx hb hml hown ht hw.1 (ew_of 677 _ (by decide +kernel) rfl) gw_561 gw_42 gw_562 ⟨⟨by decide, by decide⟩, by decide +kernel⟩ ⟨by first | decide | (dsimp only; omega), by first | decide | (dsimp only; omega)⟩ rfl hl.1 rfl (lv_room (Nat.le_of_ble_eq_true rfl)) d_Ne_stepBack_73 ⟨by first | decide | (dsimp only; omega), by first | decide | (dsimp only; omega)⟩) hw.1 (fun E ce q9 u1 H1 locs1 hp hw1 hce hcv hcl => ?_) (fun r1 u1 H1 locs1 hp1 hw1 => ?_)
      · obtain ⟨rfl, hbg, hq9⟩ := hp
        replace hq9 := hq9.symm; subst hq9
        have e9 : nsb s o D (z_nr z) (k + 1) = none := by show (match nsb s o D (z_nr z) k with | none => none | some g => _) = none; rw [hg]; exact if_pos hbg
        have e8 := nsb_none e9 (2 * M - 1 - (k + 1))
        rw [show k + 1 + (2 * M - 1 - (k + 1)) = 2 * M - 1 by omega] at e8
        exact kt_out htab hlocks hw1 hce hcv hcl ⟨rfl, e8, ⟨g, hw.2.1⟩, by rw [hn0]; exact hw.2.2.1⟩ (by decide) (by decide)
      obtain ⟨er1, hbg, hq1⟩ := hp1
      replace hq1 := hq1.symm; subst hq1
      have hw : Sk G A lc s (zS_nr z g) n0 u u9 st H1 locs1 := ⟨hw1, hw.2⟩
      subst er1
      refine lv_lstore (lv' := [(14, .long (nstp s o D (z_nr z k) (z_nr z (k + 1)) (z_nr z (k + 2)))), (12, .long (((16 : Int64) * (z_nr z (k + 1))) + (((q_ch s o).toInt64) * (((z_nr z (k + 2)) - ((2 : Int64) * (z_nr z (k + 1)))) + (z_nr z k))))), (10, .long (((z_nr z (k + 2)) - ((2 : Int64) * (z_nr z (k + 1)))) + (z_nr z k))), (8, .long (z_nr z (k + 1))), (0, .ref (lc 7)), (1, .ref (lc (8 + o))), (2, .long D), (4, .int (q_sz s o)), (5, .long (z_nr z k)), (7, .int (nI (k + 1)))]) hx hb d_Ne_stepBack_76 hl (by decide) rfl (fun ls hl => ?_)
      refine lv_aload_n hx hb d_Ne_stepBack_78 rfl (lv_at hl 4 rfl) ?_
      refine kg_Ne 2 (by decide) hx hb ht hown hw gw_115 rfl rfl d_Ne_stepBack_79 ?_
      refine lv_iload hx hb d_Ne_stepBack_82 (lv_at hl 9 rfl) ?_
      refine lv_aload_n hx hb d_Ne_stepBack_84 rfl (lv_at hl 5 rfl) ?_
      refine lv_aload_n hx hb d_Ne_stepBack_85 rfl (lv_at hl 5 rfl) ?_
      refine lv_iload hx hb d_Ne_stepBack_86 (lv_at hl 9 rfl) ?_
      refine lv_iload hx hb d_Ne_stepBack_88 (lv_at hl 7 rfl) ?_
      refine lv_isub hx hb d_Ne_stepBack_90 ?_
      refine kc_l (kr_V 1 (C := "QuoteGraph$Option") (As := [.int ((nI (k + 1)) - (q_sz s o))]) (rest := [.ref (lc (8 + o)), .int (nI (k + 1)), .ref (lc 4)]) (c_Op_priceAt l G A lc s _ u9 hw.2.1 o (by rw [hn0]; exact ho) h3 _) hx hb hml hown ht hw.1 gw_669 gw_640 gw_641 gw_57 gw_642 ⟨⟨by decide, by decide⟩, by decide +kernel⟩ ⟨by first | decide | (dsimp only; omega), by first | decide | (dsimp only; omega)⟩ (by have h := kr_N hw ho; rw [h3] at h; exact h) rfl hl.1 rfl (lv_room (Nat.le_of_ble_eq_true rfl)) d_Ne_stepBack_91 ⟨by first | decide | (dsimp only; omega), by first | decide | (dsimp only; omega)⟩) hw.1 (fun _ _ _ _ _ _ h => h.elim) (fun r2 u2 H2 locs2 hp2 hw2 => ?_)
      obtain ⟨er2, hq2⟩ := hp2
      replace hq2 := hq2.symm; subst hq2
      subst er2
      have hw : Sk G A lc s (zS_nr z g) n0 u u9 st H2 locs2 := ⟨hw2, hw.2⟩
      refine lv_lload hx hb d_Ne_stepBack_94 (lv_at hl 0 rfl) ?_
      refine kc_l (kr_V 2 (C := "QuoteGraph$Option") (As := [.long (oP s o (nI (k + 1) - q_sz s o)), .long (nstp s o D (z_nr z k) (z_nr z (k + 1)) (z_nr z (k + 2)))]) (rest := [.int (nI (k + 1)), .ref (lc 4)]) (c_Op_heldAt l G A lc s _ u9 hw.2.1 o (by rw [hn0]; exact ho) h3 _ _) hx hb hml hown ht hw.1 gw_678 gw_663 gw_664 gw_57 gw_665 ⟨⟨by decide, by decide⟩, by decide +kernel⟩ ⟨by first | decide | (dsimp only; omega), by first | decide | (dsimp only; omega)⟩ (by have h := kr_N hw ho; rw [h3] at h; exact h) rfl hl.1 rfl (lv_room (Nat.le_of_ble_eq_true rfl)) d_Ne_stepBack_96 ⟨by first | decide | (dsimp only; omega), by first | decide | (dsimp only; omega)⟩) hw.1 (fun _ _ _ _ _ _ h => h.elim) (fun r3 u3 H3 locs3 hp3 hw3 => ?_)
      obtain ⟨er3, hq3⟩ := hp3
      replace hq3 := hq3.symm; subst hq3
      subst er3
      have hw : Sk G A lc s (zS_nr z g) n0 u u9 st H3 locs3 := ⟨hw3, hw.2⟩
      refine kp_nr (k := (k + 1)) (x := (oHeld s o (oP s o (nI (k + 1) - q_sz s o)) (nstp s o D (z_nr z k) (z_nr z (k + 1)) (z_nr z (k + 2))))) rfl (by omega) hx hb hw d_Ne_stepBack_99 (fun H4 locs4 u4 hw => ?_)
      refine lv_lload hx hb d_Ne_stepBack_100 (lv_at hl 3 rfl) ?_
      refine lv_lstore (lv' := [(5, .long (z_nr z (k + 1))), (14, .long (nstp s o D (z_nr z k) (z_nr z (k + 1)) (z_nr z (k + 2)))), (12, .long (((16 : Int64) * (z_nr z (k + 1))) + (((q_ch s o).toInt64) * (((z_nr z (k + 2)) - ((2 : Int64) * (z_nr z (k + 1)))) + (z_nr z k))))), (10, .long (((z_nr z (k + 2)) - ((2 : Int64) * (z_nr z (k + 1)))) + (z_nr z k))), (8, .long (z_nr z (k + 1))), (0, .ref (lc 7)), (1, .ref (lc (8 + o))), (2, .long D), (4, .int (q_sz s o)), (7, .int (nI (k + 1)))]) hx hb d_Ne_stepBack_102 hl (by decide) rfl (fun ls hl => ?_)
      obtain ⟨i5, ei5⟩ : ∃ y : Int32, y = (nI (k + 1)) + 1 := ⟨_, rfl⟩
      refine lv_iinc (v := i5) (lv' := [(7, .int i5), (5, .long (z_nr z (k + 1))), (14, .long (nstp s o D (z_nr z k) (z_nr z (k + 1)) (z_nr z (k + 2)))), (12, .long (((16 : Int64) * (z_nr z (k + 1))) + (((q_ch s o).toInt64) * (((z_nr z (k + 2)) - ((2 : Int64) * (z_nr z (k + 1)))) + (z_nr z k))))), (10, .long (((z_nr z (k + 2)) - ((2 : Int64) * (z_nr z (k + 1)))) + (z_nr z k))), (8, .long (z_nr z (k + 1))), (0, .ref (lc 7)), (1, .ref (lc (8 + o))), (2, .long D), (4, .int (q_sz s o))]) hx hb d_Ne_stepBack_104 hl (k := 9) rfl (by rw [ei5]; rfl) (by decide) rfl (fun ls hl => ?_)
      rw [nI_1] at ei5; subst ei5
      refine lv_goto (tgt := 11) hx hb d_Ne_stepBack_107 (by decide) ?_
      have hg2 : nsb s o D (z_nr z) (k + 1) = some (vp_updL g (k + 1) (oHeld s o (oP s o (nI (k + 1) - q_sz s o)) (nstp s o D (z_nr z k) (z_nr z (k + 1)) (z_nr z (k + 2))))) := by show (match nsb s o D (z_nr z) k with | none => none | some g => _) = _; rw [hg]; exact if_neg (by rw [show bigL (nstp s o D (z_nr z k) (z_nr z (k + 1)) (z_nr z (k + 2))) = false from hbg]; decide)
      exact ih ls H4 locs4 ⟨lv_sub hl [6, 7, 8, 9, 1, 0] rfl, _, u4, hg2, hw⟩
set_option maxHeartbeats 4000000 in
set_option maxRecDepth 100000 in
theorem c_Ne_price (l : Launch) (hl9 : l.stackTraces = false) (G : GT) (A : Nat → Prop) (lc : Nat → Nat) (s : QS) (z : ZS) (u : WT) (hR : rQ G lc s z u) (o : Nat) (ho : o < q_n s) (h3 : q_so s o = 3) (D : Int64) (M N : Nat) (hM : q_sz s o = nI M) (hM1 : 1 ≤ M) (hM2 : M ≤ 20) (hN : q_sp s o = nI N) (hN2 : N ≤ 20) : Kt l y_Ne_price b_Ne_price 6 (some .long) 9 178 1 6 0 0 1 6 G A u [.ref (lc 7), .ref (lc (8 + o)), .long D] (KQ G A (Rl (fun r u' => netV s o D M N (z_nr z) = some r ∧ (∃ g, rQ G lc s (zS_nr z g) u') ∧ fQ lc (q_n s) u u'))) (fun E u' => E = "java/lang/ArithmeticException" ∧ netV s o D M N (z_nr z) = none ∧ (∃ g, rQ G lc s (zS_nr z g) u') ∧ fQ lc (q_n s) u u') := by
  refine k_of (by decide) (Nat.le_of_ble_eq_true rfl) (fun p e st m below meth c ls hx hb hr hlocks hml htab hname hown ht hw hl => ?_)
  have hl : lv_has ls 6 [(0, .ref (lc 7)), (1, .ref (lc (8 + o))), (2, .long D)] := hl
  obtain ⟨n0, hn0⟩ : ∃ n0, q_n s = n0 := ⟨_, rfl⟩
  have hw : Sk G A lc s z n0 u u st st.heap [] := ⟨hw, hR, fQ.rf, hn0⟩
  have hp0 := (opt_p hR.1 ho h3).1
  have hp1 := (opt_p hR.1 ho h3).2
  rw [hn0] at ho hp0 hp1
  have h2 : (2 : Int32) * q_sz s o = nI (2 * M) := by rw [hM]; exact pk_mul 2 M
  refine lv_aload_n hx hb d_Ne_price_0 rfl (lv_at hl 1 rfl) ?_
  refine kg_O (j := o) 20 (by decide) (by decide) hx hb ht hown hw ho h3 gw_422 rfl (by rw [ndX_O h3]; rfl) d_Ne_price_1 ?_
  refine lv_istore (lv' := [(4, .int (q_sz s o)), (0, .ref (lc 7)), (1, .ref (lc (8 + o))), (2, .long D)]) hx hb d_Ne_price_4 hl (by decide) rfl (fun ls hl => ?_)
  refine lv_iconst (v := 0) hx hb d_Ne_price_6 (by decide) ?_
  refine lv_istore (lv' := [(5, .int (0 : Int32)), (4, .int (q_sz s o)), (0, .ref (lc 7)), (1, .ref (lc (8 + o))), (2, .long D)]) hx hb d_Ne_price_7 hl (by decide) rfl (fun ls hl => ?_)
  refine k_cntH (2 * M + 1) (fun k ls H locs => lv_has ls 6 [(0, .ref (lc 7)), (1, .ref (lc (8 + o))), (2, .long D), (4, .int (q_sz s o)), (5, .int (nI k))] ∧ ∃ u9, Sk G A lc s (zS_nr z (net0 s o (z_nr z) k)) n0 u u9 st H locs) (k0 := 0) (Nat.zero_le _) (⟨lv_sub hl [2, 3, 4, 1, 0] rfl, u, hw⟩) (fun ls H locs hJ => ?_) (fun k ls H locs hk hJ ih => ?_)
  · obtain ⟨hl, hw⟩ := hJ
    obtain ⟨u9, hw⟩ := hw
    refine lv_iload hx hb d_Ne_price_9 (lv_at hl 4 rfl) ?_
    refine lv_iconst (v := 2) hx hb d_Ne_price_11 (by decide) ?_
    refine lv_iload hx hb d_Ne_price_12 (lv_at hl 3 rfl) ?_
    refine lv_imul hx hb d_Ne_price_14 ?_
    refine lv_icmp_gt (tgt := 44) hx hb d_Ne_price_15 (by decide) (fun c1 => ?_) (fun c1 => ?_)
    · refine lv_iconst (v := 0) hx hb d_Ne_price_44 (by decide) ?_
      refine lv_istore (lv' := [(5, .int (0 : Int32)), (0, .ref (lc 7)), (1, .ref (lc (8 + o))), (2, .long D), (4, .int (q_sz s o))]) hx hb d_Ne_price_45 hl (by decide) rfl (fun ls hl => ?_)
      refine k_cntH (N) (fun i ls H locs => lv_has ls 6 [(0, .ref (lc 7)), (1, .ref (lc (8 + o))), (2, .long D), (4, .int (q_sz s o)), (5, .int (nI i))] ∧ ∃ g u9, nts s o D M (net0 s o (z_nr z) (2 * M + 1)) i = some g ∧ Sk G A lc s (zS_nr z g) n0 u u9 st H locs) (k0 := 0) (Nat.zero_le _) (⟨lv_sub hl [1, 2, 3, 4, 0] rfl, _, u9, rfl, hw⟩) (fun ls H locs hJ => ?_) (fun i ls H locs hi hJ ih2 => ?_)
      · obtain ⟨hl, hw⟩ := hJ
        obtain ⟨g, u9, hg, hw⟩ := hw
        refine lv_iload hx hb d_Ne_price_47 (lv_at hl 4 rfl) ?_
        refine lv_aload_n hx hb d_Ne_price_49 rfl (lv_at hl 1 rfl) ?_
        refine kg_O (j := o) 14 (by decide) (by decide) hx hb ht hown hw ho h3 gw_408 rfl (by rw [ndX_O h3]; rfl) d_Ne_price_50 ?_
        refine lv_icmp_ge (tgt := 70) hx hb d_Ne_price_53 (by decide) (fun c2 => ?_) (fun c2 => ?_)
        · refine lv_aload_n hx hb d_Ne_price_70 rfl (lv_at hl 0 rfl) ?_
          refine kg_Ne 2 (by decide) hx hb ht hown hw gw_115 rfl rfl d_Ne_price_71 ?_
          refine lv_iload hx hb d_Ne_price_74 (lv_at hl 3 rfl) ?_
          refine ka_nr (k := M) hM (by omega) hx hb hw d_Ne_price_76 ?_
          exact kt_l hx hb hr hlocks hw.1 d_Ne_price_77 (by exact ⟨by unfold netV; rw [hg]; rfl, ⟨_, hw.2.1⟩, by rw [hn0]; exact hw.2.2.1⟩) (by first | decide | (dsimp only; omega)) (by first | decide | (dsimp only; omega))
        · exact absurd (by rw [hN]; exact nI_le (Nat.le_refl _) (by omega)) c2
      · obtain ⟨hl, hw⟩ := hJ
        obtain ⟨g, u9, hg, hw⟩ := hw
        refine lv_iload hx hb d_Ne_price_47 (lv_at hl 4 rfl) ?_
        refine lv_aload_n hx hb d_Ne_price_49 rfl (lv_at hl 1 rfl) ?_
        refine kg_O (j := o) 14 (by decide) (by decide) hx hb ht hown hw ho h3 gw_408 rfl (by rw [ndX_O h3]; rfl) d_Ne_price_50 ?_
        refine lv_icmp_ge (tgt := 70) hx hb d_Ne_price_53 (by decide) (fun c2 => ?_) (fun c2 => ?_)
        · exact absurd c2 (by rw [hN]; exact nI_ge hi (by omega))
        · refine lv_aload_n hx hb d_Ne_price_56 rfl (lv_at hl 0 rfl) ?_
          refine lv_aload_n hx hb d_Ne_price_57 rfl (lv_at hl 1 rfl) ?_
          refine lv_lload_n hx hb d_Ne_price_58 rfl (lv_at hl 2 rfl) ?_
          refine lv_iload hx hb d_Ne_price_59 (lv_at hl 3 rfl) ?_
          refine kc_v (kr_V 3 (C := "QuoteGraph$Net") (As := [.ref (lc (8 + o)), .long D, .int (q_sz s o)]) (rest := []) (c_Ne_stepBack l hl9 G A lc s _ u9 hw.2.1 o (by rw [hn0]; exact ho) h3 D M hM hM1 hM2) hx hb hml hown ht hw.1 gw_671 gw_673 gw_16 gw_46 gw_674 ⟨⟨by decide, by decide⟩, by decide +kernel⟩ ⟨by first | decide | (dsimp only; omega), by first | decide | (dsimp only; omega)⟩ (kr_Ne hw) rfl hl.1 rfl (lv_room (Nat.le_of_ble_eq_true rfl)) d_Ne_price_61 ⟨by first | decide | (dsimp only; omega), by first | decide | (dsimp only; omega)⟩) hw.1 (fun E ce q9 u1 H1 locs1 hp hw1 hce hcv hcl => ?_) (fun u1 H1 locs1 hp1 hw1 => ?_)
          · obtain ⟨rfl, hn9, ⟨g9, hr9⟩, hf9⟩ := hp
            have e9 : nts s o D M (net0 s o (z_nr z) (2 * M + 1)) (i + 1) = none := by show (match nts s o D M (net0 s o (z_nr z) (2 * M + 1)) i with | none => none | some g => _) = none; rw [hg]; exact hn9
            have e8 := nts_none e9 (N - (i + 1))
            rw [show i + 1 + (N - (i + 1)) = N by omega] at e8
            exact kt_out htab hlocks hw1 hce hcv hcl ⟨rfl, by unfold netV; rw [e8]; rfl, ⟨g9, hr9⟩, by rw [hn0]; exact hw.2.2.1.tr (by rw [← hn0]; exact hf9)⟩ (by decide) (by decide)
          obtain ⟨g2, hg2, hr2, hf2⟩ := hp1
          have e9 : nts s o D M (net0 s o (z_nr z) (2 * M + 1)) (i + 1) = some g2 := by show (match nts s o D M (net0 s o (z_nr z) (2 * M + 1)) i with | none => none | some g => _) = some g2; rw [hg]; exact hg2
          have hw : Sk G A lc s (zS_nr z g2) n0 u u1 st H1 locs1 := ⟨hw1, hr2, hw.2.2.1.tr (by rw [← hn0]; exact hf2), hn0⟩
          obtain ⟨i2, ei2⟩ : ∃ y : Int32, y = (nI i) + 1 := ⟨_, rfl⟩
          refine lv_iinc (v := i2) (lv' := [(5, .int i2), (0, .ref (lc 7)), (1, .ref (lc (8 + o))), (2, .long D), (4, .int (q_sz s o))]) hx hb d_Ne_price_64 hl (k := 4) rfl (by rw [ei2]; rfl) (by decide) rfl (fun ls hl => ?_)
          rw [nI_1] at ei2; subst ei2
          refine lv_goto (tgt := 47) hx hb d_Ne_price_67 (by decide) ?_
          exact ih2 ls H1 locs1 ⟨lv_sub hl [1, 2, 3, 4, 0] rfl, g2, u1, e9, hw⟩
    · exact absurd (by rw [h2]; exact nI_lt (by omega) (by omega)) c1
  · obtain ⟨hl, hw⟩ := hJ
    obtain ⟨u9, hw⟩ := hw
    refine lv_iload hx hb d_Ne_price_9 (lv_at hl 4 rfl) ?_
    refine lv_iconst (v := 2) hx hb d_Ne_price_11 (by decide) ?_
    refine lv_iload hx hb d_Ne_price_12 (lv_at hl 3 rfl) ?_
    refine lv_imul hx hb d_Ne_price_14 ?_
    refine lv_icmp_gt (tgt := 44) hx hb d_Ne_price_15 (by decide) (fun c1 => ?_) (fun c1 => ?_)
    · exact absurd c1 (by rw [h2]; exact nI_nlt (by omega) (by omega))
    · refine lv_aload_n hx hb d_Ne_price_18 rfl (lv_at hl 0 rfl) ?_
      refine kg_Ne 2 (by decide) hx hb ht hown hw gw_115 rfl rfl d_Ne_price_19 ?_
      refine lv_iload hx hb d_Ne_price_22 (lv_at hl 4 rfl) ?_
      refine lv_aload_n hx hb d_Ne_price_24 rfl (lv_at hl 1 rfl) ?_
      refine lv_aload_n hx hb d_Ne_price_25 rfl (lv_at hl 1 rfl) ?_
      refine lv_iload hx hb d_Ne_price_26 (lv_at hl 4 rfl) ?_
      refine lv_iload hx hb d_Ne_price_28 (lv_at hl 3 rfl) ?_
      refine lv_isub hx hb d_Ne_price_30 ?_
      refine kc_l (kr_V 1 (C := "QuoteGraph$Option") (As := [.int ((nI k) - (q_sz s o))]) (rest := [.ref (lc (8 + o)), .int (nI k), .ref (lc 4)]) (c_Op_priceAt l G A lc s _ u9 hw.2.1 o (by rw [hn0]; exact ho) h3 _) hx hb hml hown ht hw.1 gw_669 gw_640 gw_641 gw_57 gw_642 ⟨⟨by decide, by decide⟩, by decide +kernel⟩ ⟨by first | decide | (dsimp only; omega), by first | decide | (dsimp only; omega)⟩ (by have h := kr_N hw ho; rw [h3] at h; exact h) rfl hl.1 rfl (lv_room (Nat.le_of_ble_eq_true rfl)) d_Ne_price_31 ⟨by first | decide | (dsimp only; omega), by first | decide | (dsimp only; omega)⟩) hw.1 (fun _ _ _ _ _ _ h => h.elim) (fun r3 u3 H3 locs3 hp3 hw3 => ?_)
      obtain ⟨er3, hq3⟩ := hp3
      replace hq3 := hq3.symm; subst hq3
      subst er3
      have hw : Sk G A lc s (zS_nr z (net0 s o (z_nr z) k)) n0 u u9 st H3 locs3 := ⟨hw3, hw.2⟩
      refine kc_l (kr_V 1 (C := "QuoteGraph$Option") (As := [.long (oP s o (nI k - q_sz s o))]) (rest := [.int (nI k), .ref (lc 4)]) (c_Op_payoff l G A lc s _ u9 hw.2.1 o (by rw [hn0]; exact ho) h3 _) hx hb hml hown ht hw.1 gw_670 gw_644 gw_645 gw_57 gw_646 ⟨⟨by decide, by decide⟩, by decide +kernel⟩ ⟨by first | decide | (dsimp only; omega), by first | decide | (dsimp only; omega)⟩ (by have h := kr_N hw ho; rw [h3] at h; exact h) rfl hl.1 rfl (lv_room (Nat.le_of_ble_eq_true rfl)) d_Ne_price_34 ⟨by first | decide | (dsimp only; omega), by first | decide | (dsimp only; omega)⟩) hw.1 (fun _ _ _ _ _ _ h => h.elim) (fun r4 u4 H4 locs4 hp4 hw4 => ?_)
      obtain ⟨er4, hq4⟩ := hp4
      replace hq4 := hq4.symm; subst hq4
      subst er4
      have hw : Sk G A lc s (zS_nr z (net0 s o (z_nr z) k)) n0 u u9 st H4 locs4 := ⟨hw4, hw.2⟩
      refine kp_nr (k := k) (x := (oPay s o (oP s o (nI k - q_sz s o)))) rfl (by omega) hx hb hw d_Ne_price_37 (fun H5 locs5 u5 hw => ?_)
      obtain ⟨i6, ei6⟩ : ∃ y : Int32, y = (nI k) + 1 := ⟨_, rfl⟩
      refine lv_iinc (v := i6) (lv' := [(5, .int i6), (0, .ref (lc 7)), (1, .ref (lc (8 + o))), (2, .long D), (4, .int (q_sz s o))]) hx hb d_Ne_price_38 hl (k := 4) rfl (by rw [ei6]; rfl) (by decide) rfl (fun ls hl => ?_)
      rw [nI_1] at ei6; subst ei6
      refine lv_goto (tgt := 9) hx hb d_Ne_price_41 (by decide) ?_
      exact ih ls H5 locs5 ⟨lv_sub hl [1, 2, 3, 4, 0] rfl, u5, hw⟩
end
section
/-! 23.paths: contracts of the paths -/
theorem shl_pow : ∀ Z, Z < 7 → (1 : Int32) <<< (nI Z &&& 31) = nI (2 ^ Z) := by decide
theorem pow_le : ∀ Z, Z < 7 → 2 ^ Z ≤ 64 := by decide
set_option maxHeartbeats 4000000 in
set_option maxRecDepth 100000 in
theorem c_Pa_checkSuits (l : Launch) (hl9 : l.stackTraces = false) (G : GT) (A : Nat → Prop) (lc : Nat → Nat) (s : QS) (z : ZS) (u : WT) (hR : rQ G lc s z u) (o : Nat) (ho : o < q_n s) (h3 : q_so s o = 3) : Kt l y_Pa_checkSuits b_Pa_checkSuits 2 none 6 100 1 6 0 0 1 6 G A u [.ref (lc 6), .ref (lc (8 + o))] (KQ G A (Rv (fun u' => q_us s o = false ∧ u' = u))) (fun E u' => E = "java/lang/UnsupportedOperationException" ∧ q_us s o = true ∧ u' = u) := by
  refine k_of (by decide) (Nat.le_of_ble_eq_true rfl) (fun p e st m below meth c ls hx hb hr hlocks hml htab hname hown ht hw hl => ?_)
  have hl : lv_has ls 2 [(0, .ref (lc 6)), (1, .ref (lc (8 + o)))] := hl
  obtain ⟨n0, hn0⟩ : ∃ n0, q_n s = n0 := ⟨_, rfl⟩
  have hw : Sk G A lc s z n0 u u st st.heap [] := ⟨hw, hR, fQ.rf, hn0⟩
  have hp0 := (opt_p hR.1 ho h3).1
  have hp1 := (opt_p hR.1 ho h3).2
  rw [hn0] at ho hp0 hp1
  refine lv_aload_n hx hb d_Pa_checkSuits_0 rfl (lv_at hl 1 rfl) ?_
  refine kg_O (j := o) 18 (by decide) (by decide) hx hb ht hown hw ho h3 gw_417 rfl (by rw [ndX_O h3]; rfl) d_Pa_checkSuits_1 ?_
  refine lv_if_eq (tgt := 17) hx hb d_Pa_checkSuits_4 (by decide) (fun c1 => ?_) (fun c1 => ?_)
  · exact kt_v hx hb hr hlocks hw.1 d_Pa_checkSuits_17 (by exact ⟨(bI_eq _).mp c1, rfl⟩) (by first | decide | (dsimp only; omega)) (by first | decide | (dsimp only; omega))
  · exact kt_throw (own := R_Pa) (cls := "java/lang/UnsupportedOperationException") (ik := 15) (is := 17) (ic := 19) 10 hl9 hx hb htab hlocks hml hl.1 ht hown hw.1 (by decide) gw_608 gw_60 rfl at_Pa_19 d_Pa_checkSuits_7 d_Pa_checkSuits_10 d_Pa_checkSuits_11 d_Pa_checkSuits_13 d_Pa_checkSuits_16 (by first | decide | (dsimp only; omega)) (Nat.le_of_ble_eq_true rfl) (by first | decide | (dsimp only; omega)) (by first | decide | (dsimp only; omega)) (by exact ⟨rfl, (bI_ne _).mp c1, rfl⟩) (by first | decide | (dsimp only; omega)) (by first | decide | (dsimp only; omega))
set_option maxHeartbeats 4000000 in
set_option maxRecDepth 100000 in
theorem c_Pa_drawsUp (l : Launch) (G : GT) (A : Nat → Prop) (lc : Nat → Nat) (s : QS) (z : ZS) (u : WT) (hR : rQ G lc s z u) (c9 : Int32) : Kt l y_Pa_drawsUp b_Pa_drawsUp 2 (some .boolean) 0 0 0 0 0 0 0 0 G A u [.ref (lc 6), .int c9] (KQ G A (Ri (fun r u' => r = bI (dwU (dwN (z_dw z)) c9) ∧ rQ G lc s (zS_dw z (dwN (z_dw z))) u' ∧ fQ lc (q_n s) u u'))) (NX) := by
  refine k_of (by decide) (Nat.le_of_ble_eq_true rfl) (fun p e st m below meth c ls hx hb hr hlocks hml htab hname hown ht hw hl => ?_)
  have hl : lv_has ls 2 [(0, .ref (lc 6)), (1, .int c9)] := hl
  obtain ⟨n0, hn0⟩ : ∃ n0, q_n s = n0 := ⟨_, rfl⟩
  have hw : Sk G A lc s z n0 u u st st.heap [] := ⟨hw, hR, fQ.rf, hn0⟩
  refine lv_aload_n hx hb d_Pa_drawsUp_0 rfl (lv_at hl 0 rfl) ?_
  refine lv_aload_n hx hb d_Pa_drawsUp_1 rfl (lv_at hl 0 rfl) ?_
  refine kg_Pa 2 (by decide) hx hb ht hown hw gw_103 rfl rfl d_Pa_drawsUp_2 ?_
  refine lv_ldc2 (v := 1103515245) hx hb hown (ht _ gw_692) d_Pa_drawsUp_5 ?_
  refine lv_lmul hx hb d_Pa_drawsUp_8 ?_
  refine lv_ldc2 (v := 12345) hx hb hown (ht _ gw_682) d_Pa_drawsUp_9 ?_
  refine lv_ladd hx hb d_Pa_drawsUp_12 ?_
  refine lv_ldc2 (v := 2147483647) hx hb hown (ht _ gw_693) d_Pa_drawsUp_13 ?_
  refine lv_land hx hb d_Pa_drawsUp_16 ?_
  refine kp_draw ((((z_dw z) * (1103515245 : Int64)) + (12345 : Int64)) &&& (2147483647 : Int64)) hx hb ht hown hw gw_103 d_Pa_drawsUp_17 (fun H1 locs1 u1 hw => ?_)
  refine lv_aload_n hx hb d_Pa_drawsUp_20 rfl (lv_at hl 0 rfl) ?_
  refine kg_Pa 2 (by decide) hx hb ht hown hw gw_103 rfl rfl d_Pa_drawsUp_21 ?_
  refine lv_bipush (v := 16) hx hb d_Pa_drawsUp_24 (by decide) ?_
  refine lv_lshr hx hb d_Pa_drawsUp_26 rfl ?_
  refine lv_ldc2 (v := 15) hx hb hown (ht _ gw_694) d_Pa_drawsUp_27 ?_
  refine lv_land hx hb d_Pa_drawsUp_30 ?_
  refine lv_iload_n hx hb d_Pa_drawsUp_31 rfl (lv_at hl 1 rfl) ?_
  refine lv_i2l hx hb d_Pa_drawsUp_32 rfl ?_
  refine W.lcmp hx hb d_Pa_drawsUp_33 ?_
  refine lv_if_ge (tgt := 41) hx hb d_Pa_drawsUp_34 (by decide) (fun c2 => ?_) (fun c2 => ?_)
  · refine lv_iconst (v := 0) hx hb d_Pa_drawsUp_41 (by decide) ?_
    exact kt_z hx hb hr hlocks hw.1 d_Pa_drawsUp_42 (by exact ⟨by rw [show dwU (dwN (z_dw z)) c9 = false from decide_eq_false (fun h => (by rw [← i_nlt] at c2; exact c2 ((lg_cmp_lt _ _).mpr h)))]; rfl, hw.2.1, by rw [hn0]; exact hw.2.2.1⟩) (Or.inl rfl) (by first | decide | (dsimp only; omega)) (by first | decide | (dsimp only; omega))
  · refine lv_iconst (v := 1) hx hb d_Pa_drawsUp_37 (by decide) ?_
    refine lv_goto (tgt := 42) hx hb d_Pa_drawsUp_38 (by decide) ?_
    exact kt_z hx hb hr hlocks hw.1 d_Pa_drawsUp_42 (by exact ⟨by rw [show dwU (dwN (z_dw z)) c9 = true from decide_eq_true ((lg_cmp_lt _ _).mp (i_nle.mp c2))]; rfl, hw.2.1, by rw [hn0]; exact hw.2.2.1⟩) (Or.inr rfl) (by first | decide | (dsimp only; omega)) (by first | decide | (dsimp only; omega))
set_option maxHeartbeats 4000000 in
set_option maxRecDepth 100000 in
theorem c_Pa_endOfPath (l : Launch) (G : GT) (A : Nat → Prop) (lc : Nat → Nat) (s : QS) (z : ZS) (u : WT) (hR : rQ G lc s z u) (o : Nat) (ho : o < q_n s) (h3 : q_so s o = 3) (N : Nat) (hN : q_sp s o = nI N) (hN2 : N ≤ 20) : Kt l y_Pa_endOfPath b_Pa_endOfPath 6 (some .long) 2 62 0 0 0 0 0 0 G A u [.ref (lc 6), .ref (lc (8 + o))] (KQ G A (Rl (fun r u' => r = pEnd s o N (z_dw z) ∧ rQ G lc s (zS_dw z (pthD (z_dw z) N)) u' ∧ fQ lc (q_n s) u u'))) (NX) := by
  refine k_of (by decide) (Nat.le_of_ble_eq_true rfl) (fun p e st m below meth c ls hx hb hr hlocks hml htab hname hown ht hw hl => ?_)
  have hl : lv_has ls 6 [(0, .ref (lc 6)), (1, .ref (lc (8 + o)))] := hl
  obtain ⟨n0, hn0⟩ : ∃ n0, q_n s = n0 := ⟨_, rfl⟩
  have hw : Sk G A lc s z n0 u u st st.heap [] := ⟨hw, hR, fQ.rf, hn0⟩
  have hp0 := (opt_p hR.1 ho h3).1
  have hp1 := (opt_p hR.1 ho h3).2
  rw [hn0] at ho hp0 hp1
  refine lv_aload_n hx hb d_Pa_endOfPath_0 rfl (lv_at hl 1 rfl) ?_
  refine kg_O (j := o) 10 (by decide) (by decide) hx hb ht hown hw ho h3 gw_401 rfl (by rw [ndX_O h3]; rfl) d_Pa_endOfPath_1 ?_
  refine kg_N (j := ((q_pt s o 0).getD 0)) 3 (by decide) hx hb ht hown hw hp0 gw_276 (Or.inl rfl) rfl d_Pa_endOfPath_4 ?_
  refine lv_lstore_n (lv' := [(2, .long (q_am s ((q_pt s o 0).getD 0))), (0, .ref (lc 6)), (1, .ref (lc (8 + o)))]) hx hb d_Pa_endOfPath_7 rfl hl (by decide) rfl (fun ls hl => ?_)
  refine lv_aload_n hx hb d_Pa_endOfPath_8 rfl (lv_at hl 2 rfl) ?_
  refine lv_lload_n hx hb d_Pa_endOfPath_9 rfl (lv_at hl 0 rfl) ?_
  refine kc_i (kr_V 1 (C := "QuoteGraph$Option") (As := [.long (q_am s ((q_pt s o 0).getD 0))]) (rest := []) (c_Op_isOut l G A lc s z u hR o (by rw [hn0]; exact ho) h3 _) hx hb hml hown ht hw.1 gw_687 gw_648 gw_649 gw_57 gw_650 ⟨⟨by decide, by decide⟩, by decide +kernel⟩ ⟨by first | decide | (dsimp only; omega), by first | decide | (dsimp only; omega)⟩ (by have h := kr_N hw ho; rw [h3] at h; exact h) rfl hl.1 rfl (lv_room (Nat.le_of_ble_eq_true rfl)) d_Pa_endOfPath_10 ⟨by first | decide | (dsimp only; omega), by first | decide | (dsimp only; omega)⟩) hw.1 (fun _ _ _ _ _ _ h => h.elim) (fun r1 u1 H1 locs1 hp1 hw1 => ?_)
  obtain ⟨er1, hq1⟩ := hp1
  replace hq1 := hq1.symm; subst hq1
  subst er1
  have hw : Sk G A lc s z n0 u u st H1 locs1 := ⟨hw1, hw.2⟩
  refine lv_istore (lv' := [(4, .int (bI (oOut s o (oS s o)))), (2, .long (q_am s ((q_pt s o 0).getD 0))), (0, .ref (lc 6)), (1, .ref (lc (8 + o)))]) hx hb d_Pa_endOfPath_13 hl (by decide) rfl (fun ls hl => ?_)
  refine lv_iconst (v := 0) hx hb d_Pa_endOfPath_15 (by decide) ?_
  refine lv_istore (lv' := [(5, .int (0 : Int32)), (4, .int (bI (oOut s o (oS s o)))), (2, .long (q_am s ((q_pt s o 0).getD 0))), (0, .ref (lc 6)), (1, .ref (lc (8 + o)))]) hx hb d_Pa_endOfPath_16 hl (by decide) rfl (fun ls hl => ?_)
  refine k_cntH (N) (fun k ls H locs => lv_has ls 6 [(0, .ref (lc 6)), (1, .ref (lc (8 + o))), (2, .long (pthP s o (z_dw z) k)), (4, .int (bI (pthB s o (z_dw z) k))), (5, .int (nI k))] ∧ ∃ u9, Sk G A lc s (zS_dw z (pthD (z_dw z) k)) n0 u u9 st H locs) (k0 := 0) (Nat.zero_le _) (⟨lv_sub hl [3, 4, 2, 1, 0] rfl, u, hw⟩) (fun ls H locs hJ => ?_) (fun k ls H locs hk hJ ih => ?_)
  · obtain ⟨hl, hw⟩ := hJ
    obtain ⟨u9, hw⟩ := hw
    refine lv_iload hx hb d_Pa_endOfPath_18 (lv_at hl 4 rfl) ?_
    refine lv_aload_n hx hb d_Pa_endOfPath_20 rfl (lv_at hl 1 rfl) ?_
    refine kg_O (j := o) 14 (by decide) (by decide) hx hb ht hown hw ho h3 gw_409 rfl (by rw [ndX_O h3]; rfl) d_Pa_endOfPath_21 ?_
    refine lv_icmp_ge (tgt := 85) hx hb d_Pa_endOfPath_24 (by decide) (fun c1 => ?_) (fun c1 => ?_)
    · refine lv_iload hx hb d_Pa_endOfPath_85 (lv_at hl 3 rfl) ?_
      refine lv_if_eq (tgt := 94) hx hb d_Pa_endOfPath_87 (by decide) (fun c2 => ?_) (fun c2 => ?_)
      · refine lv_aload_n hx hb d_Pa_endOfPath_94 rfl (lv_at hl 1 rfl) ?_
        refine lv_lload_n hx hb d_Pa_endOfPath_95 rfl (lv_at hl 2 rfl) ?_
        refine kc_l (kr_V 1 (C := "QuoteGraph$Option") (As := [.long (pthP s o (z_dw z) N)]) (rest := []) (c_Op_payoffInside l G A lc s _ u9 hw.2.1 o (by rw [hn0]; exact ho) h3 _) hx hb hml hown ht hw.1 gw_695 gw_652 gw_653 gw_57 gw_654 ⟨⟨by decide, by decide⟩, by decide +kernel⟩ ⟨by first | decide | (dsimp only; omega), by first | decide | (dsimp only; omega)⟩ (by have h := kr_N hw ho; rw [h3] at h; exact h) rfl hl.1 rfl (lv_room (Nat.le_of_ble_eq_true rfl)) d_Pa_endOfPath_96 ⟨by first | decide | (dsimp only; omega), by first | decide | (dsimp only; omega)⟩) hw.1 (fun _ _ _ _ _ _ h => h.elim) (fun r3 u3 H3 locs3 hp3 hw3 => ?_)
        obtain ⟨er3, hq3⟩ := hp3
        replace hq3 := hq3.symm; subst hq3
        subst er3
        have hw : Sk G A lc s (zS_dw z (pthD (z_dw z) N)) n0 u u9 st H3 locs3 := ⟨hw3, hw.2⟩
        exact kt_l hx hb hr hlocks hw.1 d_Pa_endOfPath_99 (by exact ⟨by unfold pEnd; rw [if_neg (by rw [(bI_eq _).mp c2]; decide)], hw.2.1, by rw [hn0]; exact hw.2.2.1⟩) (by first | decide | (dsimp only; omega)) (by first | decide | (dsimp only; omega))
      · refine lv_lconst (v := 0) hx hb d_Pa_endOfPath_90 (by decide) ?_
        refine lv_goto (tgt := 99) hx hb d_Pa_endOfPath_91 (by decide) ?_
        exact kt_l hx hb hr hlocks hw.1 d_Pa_endOfPath_99 (by exact ⟨by unfold pEnd; rw [if_pos ((bI_ne _).mp c2)], hw.2.1, by rw [hn0]; exact hw.2.2.1⟩) (by first | decide | (dsimp only; omega)) (by first | decide | (dsimp only; omega))
    · exact absurd (by rw [hN]; exact nI_le (Nat.le_refl _) (by omega)) c1
  · obtain ⟨hl, hw⟩ := hJ
    obtain ⟨u9, hw⟩ := hw
    refine lv_iload hx hb d_Pa_endOfPath_18 (lv_at hl 4 rfl) ?_
    refine lv_aload_n hx hb d_Pa_endOfPath_20 rfl (lv_at hl 1 rfl) ?_
    refine kg_O (j := o) 14 (by decide) (by decide) hx hb ht hown hw ho h3 gw_409 rfl (by rw [ndX_O h3]; rfl) d_Pa_endOfPath_21 ?_
    refine lv_icmp_ge (tgt := 85) hx hb d_Pa_endOfPath_24 (by decide) (fun c1 => ?_) (fun c1 => ?_)
    · exact absurd c1 (by rw [hN]; exact nI_ge hk (by omega))
    · refine lv_lload_n hx hb d_Pa_endOfPath_27 rfl (lv_at hl 2 rfl) ?_
      refine lv_aload_n hx hb d_Pa_endOfPath_28 rfl (lv_at hl 0 rfl) ?_
      refine lv_aload_n hx hb d_Pa_endOfPath_29 rfl (lv_at hl 1 rfl) ?_
      refine kg_O (j := o) 17 (by decide) (by decide) hx hb ht hown hw ho h3 gw_415 rfl (by rw [ndX_O h3]; rfl) d_Pa_endOfPath_30 ?_
      refine kc_i (kr_V 1 (C := "QuoteGraph$Paths") (As := [.int (q_ch s o)]) (rest := [.long (pthP s o (z_dw z) k)]) (c_Pa_drawsUp l G A lc s _ u9 hw.2.1 _) hx hb hml hown ht hw.1 gw_688 gw_690 gw_18 gw_45 gw_691 ⟨⟨by decide, by decide⟩, by decide +kernel⟩ ⟨by first | decide | (dsimp only; omega), by first | decide | (dsimp only; omega)⟩ (kr_Pa hw) rfl hl.1 rfl (lv_room (Nat.le_of_ble_eq_true rfl)) d_Pa_endOfPath_33 ⟨by first | decide | (dsimp only; omega), by first | decide | (dsimp only; omega)⟩) hw.1 (fun _ _ _ _ _ _ h => h.elim) (fun r4 u4 H4 locs4 hp4 hw4 => ?_)
      obtain ⟨er, hr2, hf2⟩ := hp4
      subst er
      have hw : Sk G A lc s (zS_dw z (pthD (z_dw z) (k + 1))) n0 u u4 st H4 locs4 := ⟨hw4, hr2, hw.2.2.1.tr (by rw [← hn0]; exact hf2), hn0⟩
      refine lv_if_eq (tgt := 49) hx hb d_Pa_endOfPath_36 (by decide) (fun c5 => ?_) (fun c5 => ?_)
      · refine lv_aload_n hx hb d_Pa_endOfPath_49 rfl (lv_at hl 1 rfl) ?_
        refine kg_O (j := o) 11 (by decide) (by decide) hx hb ht hown hw ho h3 gw_403 rfl (by rw [ndX_O h3]; rfl) d_Pa_endOfPath_50 ?_
        refine kg_N (j := ((q_pt s o 1).getD 0)) 3 (by decide) hx hb ht hown hw hp1 gw_276 (Or.inl rfl) rfl d_Pa_endOfPath_53 ?_
        refine lv_lneg hx hb d_Pa_endOfPath_56 ?_
        refine lv_ladd hx hb d_Pa_endOfPath_57 ?_
        refine lv_lstore_n (lv' := [(2, .long ((pthP s o (z_dw z) k) + (-(q_am s ((q_pt s o 1).getD 0))))), (0, .ref (lc 6)), (1, .ref (lc (8 + o))), (4, .int (bI (pthB s o (z_dw z) k))), (5, .int (nI k))]) hx hb d_Pa_endOfPath_58 rfl hl (by decide) rfl (fun ls hl => ?_)
        have ep : pthP s o (z_dw z) k + -(oM s o) = pthP s o (z_dw z) (k + 1) := by show _ = _ + (if _ then _ else _); rw [if_neg (by rw [show dwU (pthD (z_dw z) (k + 1)) (q_ch s o) = false from (bI_eq _).mp c5]; decide)]
        have hl : lv_has ls 6 [(2, .long (pthP s o (z_dw z) (k + 1))), (0, .ref (lc 6)), (1, .ref (lc (8 + o))), (4, .int (bI (pthB s o (z_dw z) k))), (5, .int (nI k))] := by rw [← ep]; exact hl
        refine lv_iload hx hb d_Pa_endOfPath_59 (lv_at hl 3 rfl) ?_
        refine lv_if_ne (tgt := 72) hx hb d_Pa_endOfPath_61 (by decide) (fun c6 => ?_) (fun c6 => ?_)
        · refine lv_iconst (v := 1) hx hb d_Pa_endOfPath_72 (by decide) ?_
          refine lv_goto (tgt := 77) hx hb d_Pa_endOfPath_73 (by decide) ?_
          refine lv_istore (lv' := [(4, .int (1 : Int32)), (2, .long (pthP s o (z_dw z) (k + 1))), (0, .ref (lc 6)), (1, .ref (lc (8 + o))), (5, .int (nI k))]) hx hb d_Pa_endOfPath_77 hl (by decide) rfl (fun ls hl => ?_)
          have hl : lv_has ls 6 [(4, .int (bI (pthB s o (z_dw z) (k + 1)))), (2, .long (pthP s o (z_dw z) (k + 1))), (0, .ref (lc 6)), (1, .ref (lc (8 + o))), (5, .int (nI k))] := by rw [show pthB s o (z_dw z) (k + 1) = true by show (_ || _) = true; rw [(bI_ne _).mp c6]; rfl]; exact hl
          obtain ⟨i7, ei7⟩ : ∃ y : Int32, y = (nI k) + 1 := ⟨_, rfl⟩
          refine lv_iinc (v := i7) (lv' := [(5, .int i7), (4, .int (bI (pthB s o (z_dw z) (k + 1)))), (2, .long (pthP s o (z_dw z) (k + 1))), (0, .ref (lc 6)), (1, .ref (lc (8 + o)))]) hx hb d_Pa_endOfPath_79 hl (k := 4) rfl (by rw [ei7]; rfl) (by decide) rfl (fun ls hl => ?_)
          rw [nI_1] at ei7; subst ei7
          refine lv_goto (tgt := 18) hx hb d_Pa_endOfPath_82 (by decide) ?_
          exact ih ls H4 locs4 ⟨lv_sub hl [3, 4, 2, 1, 0] rfl, u4, hw⟩
        · refine lv_aload_n hx hb d_Pa_endOfPath_64 rfl (lv_at hl 2 rfl) ?_
          refine lv_lload_n hx hb d_Pa_endOfPath_65 rfl (lv_at hl 0 rfl) ?_
          refine kc_i (kr_V 1 (C := "QuoteGraph$Option") (As := [.long (pthP s o (z_dw z) (k + 1))]) (rest := []) (c_Op_isOut l G A lc s _ u4 hw.2.1 o (by rw [hn0]; exact ho) h3 _) hx hb hml hown ht hw.1 gw_687 gw_648 gw_649 gw_57 gw_650 ⟨⟨by decide, by decide⟩, by decide +kernel⟩ ⟨by first | decide | (dsimp only; omega), by first | decide | (dsimp only; omega)⟩ (by have h := kr_N hw ho; rw [h3] at h; exact h) rfl hl.1 rfl (lv_room (Nat.le_of_ble_eq_true rfl)) d_Pa_endOfPath_66 ⟨by first | decide | (dsimp only; omega), by first | decide | (dsimp only; omega)⟩) hw.1 (fun _ _ _ _ _ _ h => h.elim) (fun r8 u8 H8 locs8 hp8 hw8 => ?_)
          obtain ⟨er8, hq8⟩ := hp8
          replace hq8 := hq8.symm; subst hq8
          subst er8
          have hw : Sk G A lc s (zS_dw z (pthD (z_dw z) (k + 1))) n0 u u4 st H8 locs8 := ⟨hw8, hw.2⟩
          refine lv_if_eq (tgt := 76) hx hb d_Pa_endOfPath_69 (by decide) (fun c9 => ?_) (fun c9 => ?_)
          · refine lv_iconst (v := 0) hx hb d_Pa_endOfPath_76 (by decide) ?_
            refine lv_istore (lv' := [(4, .int (0 : Int32)), (2, .long (pthP s o (z_dw z) (k + 1))), (0, .ref (lc 6)), (1, .ref (lc (8 + o))), (5, .int (nI k))]) hx hb d_Pa_endOfPath_77 hl (by decide) rfl (fun ls hl => ?_)
            have hl : lv_has ls 6 [(4, .int (bI (pthB s o (z_dw z) (k + 1)))), (2, .long (pthP s o (z_dw z) (k + 1))), (0, .ref (lc 6)), (1, .ref (lc (8 + o))), (5, .int (nI k))] := by rw [show pthB s o (z_dw z) (k + 1) = false by show (_ || _) = false; rw [(bI_eq _).mp c6, (bI_eq _).mp c9]; rfl]; exact hl
            obtain ⟨i10, ei10⟩ : ∃ y : Int32, y = (nI k) + 1 := ⟨_, rfl⟩
            refine lv_iinc (v := i10) (lv' := [(5, .int i10), (4, .int (bI (pthB s o (z_dw z) (k + 1)))), (2, .long (pthP s o (z_dw z) (k + 1))), (0, .ref (lc 6)), (1, .ref (lc (8 + o)))]) hx hb d_Pa_endOfPath_79 hl (k := 4) rfl (by rw [ei10]; rfl) (by decide) rfl (fun ls hl => ?_)
            rw [nI_1] at ei10; subst ei10
            refine lv_goto (tgt := 18) hx hb d_Pa_endOfPath_82 (by decide) ?_
            exact ih ls H8 locs8 ⟨lv_sub hl [3, 4, 2, 1, 0] rfl, u4, hw⟩
          · refine lv_iconst (v := 1) hx hb d_Pa_endOfPath_72 (by decide) ?_
            refine lv_goto (tgt := 77) hx hb d_Pa_endOfPath_73 (by decide) ?_
            refine lv_istore (lv' := [(4, .int (1 : Int32)), (2, .long (pthP s o (z_dw z) (k + 1))), (0, .ref (lc 6)), (1, .ref (lc (8 + o))), (5, .int (nI k))]) hx hb d_Pa_endOfPath_77 hl (by decide) rfl (fun ls hl => ?_)
            have hl : lv_has ls 6 [(4, .int (bI (pthB s o (z_dw z) (k + 1)))), (2, .long (pthP s o (z_dw z) (k + 1))), (0, .ref (lc 6)), (1, .ref (lc (8 + o))), (5, .int (nI k))] := by rw [show pthB s o (z_dw z) (k + 1) = true by show (_ || _) = true; rw [(bI_ne _).mp c9]; exact Bool.or_true _]; exact hl
            obtain ⟨i11, ei11⟩ : ∃ y : Int32, y = (nI k) + 1 := ⟨_, rfl⟩
            refine lv_iinc (v := i11) (lv' := [(5, .int i11), (4, .int (bI (pthB s o (z_dw z) (k + 1)))), (2, .long (pthP s o (z_dw z) (k + 1))), (0, .ref (lc 6)), (1, .ref (lc (8 + o)))]) hx hb d_Pa_endOfPath_79 hl (k := 4) rfl (by rw [ei11]; rfl) (by decide) rfl (fun ls hl => ?_)
            rw [nI_1] at ei11; subst ei11
            refine lv_goto (tgt := 18) hx hb d_Pa_endOfPath_82 (by decide) ?_
            exact ih ls H8 locs8 ⟨lv_sub hl [3, 4, 2, 1, 0] rfl, u4, hw⟩
      · refine lv_aload_n hx hb d_Pa_endOfPath_39 rfl (lv_at hl 1 rfl) ?_
        refine kg_O (j := o) 11 (by decide) (by decide) hx hb ht hown hw ho h3 gw_403 rfl (by rw [ndX_O h3]; rfl) d_Pa_endOfPath_40 ?_
        refine kg_N (j := ((q_pt s o 1).getD 0)) 3 (by decide) hx hb ht hown hw hp1 gw_276 (Or.inl rfl) rfl d_Pa_endOfPath_43 ?_
        refine lv_goto (tgt := 57) hx hb d_Pa_endOfPath_46 (by decide) ?_
        refine lv_ladd hx hb d_Pa_endOfPath_57 ?_
        refine lv_lstore_n (lv' := [(2, .long ((pthP s o (z_dw z) k) + (q_am s ((q_pt s o 1).getD 0)))), (0, .ref (lc 6)), (1, .ref (lc (8 + o))), (4, .int (bI (pthB s o (z_dw z) k))), (5, .int (nI k))]) hx hb d_Pa_endOfPath_58 rfl hl (by decide) rfl (fun ls hl => ?_)
        have ep : pthP s o (z_dw z) k + oM s o = pthP s o (z_dw z) (k + 1) := by show _ = _ + (if _ then _ else _); rw [if_pos (show dwU (pthD (z_dw z) (k + 1)) (q_ch s o) = true from (bI_ne _).mp c5)]
        have hl : lv_has ls 6 [(2, .long (pthP s o (z_dw z) (k + 1))), (0, .ref (lc 6)), (1, .ref (lc (8 + o))), (4, .int (bI (pthB s o (z_dw z) k))), (5, .int (nI k))] := by rw [← ep]; exact hl
        refine lv_iload hx hb d_Pa_endOfPath_59 (lv_at hl 3 rfl) ?_
        refine lv_if_ne (tgt := 72) hx hb d_Pa_endOfPath_61 (by decide) (fun c12 => ?_) (fun c12 => ?_)
        · refine lv_iconst (v := 1) hx hb d_Pa_endOfPath_72 (by decide) ?_
          refine lv_goto (tgt := 77) hx hb d_Pa_endOfPath_73 (by decide) ?_
          refine lv_istore (lv' := [(4, .int (1 : Int32)), (2, .long (pthP s o (z_dw z) (k + 1))), (0, .ref (lc 6)), (1, .ref (lc (8 + o))), (5, .int (nI k))]) hx hb d_Pa_endOfPath_77 hl (by decide) rfl (fun ls hl => ?_)
          have hl : lv_has ls 6 [(4, .int (bI (pthB s o (z_dw z) (k + 1)))), (2, .long (pthP s o (z_dw z) (k + 1))), (0, .ref (lc 6)), (1, .ref (lc (8 + o))), (5, .int (nI k))] := by rw [show pthB s o (z_dw z) (k + 1) = true by show (_ || _) = true; rw [(bI_ne _).mp c12]; rfl]; exact hl
          obtain ⟨i13, ei13⟩ : ∃ y : Int32, y = (nI k) + 1 := ⟨_, rfl⟩
          refine lv_iinc (v := i13) (lv' := [(5, .int i13), (4, .int (bI (pthB s o (z_dw z) (k + 1)))), (2, .long (pthP s o (z_dw z) (k + 1))), (0, .ref (lc 6)), (1, .ref (lc (8 + o)))]) hx hb d_Pa_endOfPath_79 hl (k := 4) rfl (by rw [ei13]; rfl) (by decide) rfl (fun ls hl => ?_)
          rw [nI_1] at ei13; subst ei13
          refine lv_goto (tgt := 18) hx hb d_Pa_endOfPath_82 (by decide) ?_
          exact ih ls H4 locs4 ⟨lv_sub hl [3, 4, 2, 1, 0] rfl, u4, hw⟩
        · refine lv_aload_n hx hb d_Pa_endOfPath_64 rfl (lv_at hl 2 rfl) ?_
          refine lv_lload_n hx hb d_Pa_endOfPath_65 rfl (lv_at hl 0 rfl) ?_
          refine kc_i (kr_V 1 (C := "QuoteGraph$Option") (As := [.long (pthP s o (z_dw z) (k + 1))]) (rest := []) (c_Op_isOut l G A lc s _ u4 hw.2.1 o (by rw [hn0]; exact ho) h3 _) hx hb hml hown ht hw.1 gw_687 gw_648 gw_649 gw_57 gw_650 ⟨⟨by decide, by decide⟩, by decide +kernel⟩ ⟨by first | decide | (dsimp only; omega), by first | decide | (dsimp only; omega)⟩ (by have h := kr_N hw ho; rw [h3] at h; exact h) rfl hl.1 rfl (lv_room (Nat.le_of_ble_eq_true rfl)) d_Pa_endOfPath_66 ⟨by first | decide | (dsimp only; omega), by first | decide | (dsimp only; omega)⟩) hw.1 (fun _ _ _ _ _ _ h => h.elim) (fun r14 u14 H14 locs14 hp14 hw14 => ?_)
          obtain ⟨er14, hq14⟩ := hp14
          replace hq14 := hq14.symm; subst hq14
          subst er14
          have hw : Sk G A lc s (zS_dw z (pthD (z_dw z) (k + 1))) n0 u u4 st H14 locs14 := ⟨hw14, hw.2⟩
          refine lv_if_eq (tgt := 76) hx hb d_Pa_endOfPath_69 (by decide) (fun c15 => ?_) (fun c15 => ?_)
          · refine lv_iconst (v := 0) hx hb d_Pa_endOfPath_76 (by decide) ?_
            refine lv_istore (lv' := [(4, .int (0 : Int32)), (2, .long (pthP s o (z_dw z) (k + 1))), (0, .ref (lc 6)), (1, .ref (lc (8 + o))), (5, .int (nI k))]) hx hb d_Pa_endOfPath_77 hl (by decide) rfl (fun ls hl => ?_)
            have hl : lv_has ls 6 [(4, .int (bI (pthB s o (z_dw z) (k + 1)))), (2, .long (pthP s o (z_dw z) (k + 1))), (0, .ref (lc 6)), (1, .ref (lc (8 + o))), (5, .int (nI k))] := by rw [show pthB s o (z_dw z) (k + 1) = false by show (_ || _) = false; rw [(bI_eq _).mp c12, (bI_eq _).mp c15]; rfl]; exact hl
            obtain ⟨i16, ei16⟩ : ∃ y : Int32, y = (nI k) + 1 := ⟨_, rfl⟩
            refine lv_iinc (v := i16) (lv' := [(5, .int i16), (4, .int (bI (pthB s o (z_dw z) (k + 1)))), (2, .long (pthP s o (z_dw z) (k + 1))), (0, .ref (lc 6)), (1, .ref (lc (8 + o)))]) hx hb d_Pa_endOfPath_79 hl (k := 4) rfl (by rw [ei16]; rfl) (by decide) rfl (fun ls hl => ?_)
            rw [nI_1] at ei16; subst ei16
            refine lv_goto (tgt := 18) hx hb d_Pa_endOfPath_82 (by decide) ?_
            exact ih ls H14 locs14 ⟨lv_sub hl [3, 4, 2, 1, 0] rfl, u4, hw⟩
          · refine lv_iconst (v := 1) hx hb d_Pa_endOfPath_72 (by decide) ?_
            refine lv_goto (tgt := 77) hx hb d_Pa_endOfPath_73 (by decide) ?_
            refine lv_istore (lv' := [(4, .int (1 : Int32)), (2, .long (pthP s o (z_dw z) (k + 1))), (0, .ref (lc 6)), (1, .ref (lc (8 + o))), (5, .int (nI k))]) hx hb d_Pa_endOfPath_77 hl (by decide) rfl (fun ls hl => ?_)
            have hl : lv_has ls 6 [(4, .int (bI (pthB s o (z_dw z) (k + 1)))), (2, .long (pthP s o (z_dw z) (k + 1))), (0, .ref (lc 6)), (1, .ref (lc (8 + o))), (5, .int (nI k))] := by rw [show pthB s o (z_dw z) (k + 1) = true by show (_ || _) = true; rw [(bI_ne _).mp c15]; exact Bool.or_true _]; exact hl
            obtain ⟨i17, ei17⟩ : ∃ y : Int32, y = (nI k) + 1 := ⟨_, rfl⟩
            refine lv_iinc (v := i17) (lv' := [(5, .int i17), (4, .int (bI (pthB s o (z_dw z) (k + 1)))), (2, .long (pthP s o (z_dw z) (k + 1))), (0, .ref (lc 6)), (1, .ref (lc (8 + o)))]) hx hb d_Pa_endOfPath_79 hl (k := 4) rfl (by rw [ei17]; rfl) (by decide) rfl (fun ls hl => ?_)
            rw [nI_1] at ei17; subst ei17
            refine lv_goto (tgt := 18) hx hb d_Pa_endOfPath_82 (by decide) ?_
            exact ih ls H14 locs14 ⟨lv_sub hl [3, 4, 2, 1, 0] rfl, u4, hw⟩
set_option maxHeartbeats 4000000 in
set_option maxRecDepth 100000 in
theorem c_Pa_price (l : Launch) (hl9 : l.stackTraces = false) (G : GT) (A : Nat → Prop) (lc : Nat → Nat) (s : QS) (z : ZS) (u : WT) (hR : rQ G lc s z u) (o : Nat) (ho : o < q_n s) (h3 : q_so s o = 3) (D : Int64) (Z N : Nat) (hZ : q_sz s o = nI Z) (hZ2 : Z < 7) (hN : q_sp s o = nI N) (hN2 : N ≤ 20) : Kt l y_Pa_price b_Pa_price 10 (some .long) 8 143 1 6 0 0 1 6 G A u [.ref (lc 6), .ref (lc (8 + o)), .long D] (KQ G A (Rl (fun r u' => pthV s o D Z N = some r ∧ (∃ d, rQ G lc s (zS_dw z d) u') ∧ fQ lc (q_n s) u u'))) (fun E u' => E = "java/lang/ArithmeticException" ∧ pthV s o D Z N = none ∧ (∃ d, rQ G lc s (zS_dw z d) u') ∧ fQ lc (q_n s) u u') := by
  refine k_of (by decide) (Nat.le_of_ble_eq_true rfl) (fun p e st m below meth c ls hx hb hr hlocks hml htab hname hown ht hw hl => ?_)
  have hl : lv_has ls 10 [(0, .ref (lc 6)), (1, .ref (lc (8 + o))), (2, .long D)] := hl
  obtain ⟨n0, hn0⟩ : ∃ n0, q_n s = n0 := ⟨_, rfl⟩
  have hw : Sk G A lc s z n0 u u st st.heap [] := ⟨hw, hR, fQ.rf, hn0⟩
  have hp0 := (opt_p hR.1 ho h3).1
  have hp1 := (opt_p hR.1 ho h3).2
  rw [hn0] at ho hp0 hp1
  have hc2 : (1 : Int32) <<< (q_sz s o &&& 31) = nI (2 ^ Z) := by rw [hZ]; exact shl_pow Z hZ2
  have h64 := pow_le Z hZ2
  refine lv_aload_n hx hb d_Pa_price_0 rfl (lv_at hl 0 rfl) ?_
  refine lv_ldc2 (v := 12345) hx hb hown (ht _ gw_682) d_Pa_price_1 ?_
  refine kp_draw (12345 : Int64) hx hb ht hown hw gw_103 d_Pa_price_4 (fun H1 locs1 u1 hw => ?_)
  refine lv_iconst (v := 1) hx hb d_Pa_price_7 (by decide) ?_
  refine lv_aload_n hx hb d_Pa_price_8 rfl (lv_at hl 1 rfl) ?_
  refine kg_O (j := o) 20 (by decide) (by decide) hx hb ht hown hw ho h3 gw_423 rfl (by rw [ndX_O h3]; rfl) d_Pa_price_9 ?_
  refine lv_ishl hx hb d_Pa_price_12 ?_
  refine lv_istore (lv' := [(4, .int ((1 : Int32) <<< ((q_sz s o) &&& 31))), (0, .ref (lc 6)), (1, .ref (lc (8 + o))), (2, .long D)]) hx hb d_Pa_price_13 hl (by decide) rfl (fun ls hl => ?_)
  refine lv_lconst (v := 0) hx hb d_Pa_price_15 (by decide) ?_
  refine lv_lstore (lv' := [(5, .long (0 : Int64)), (4, .int ((1 : Int32) <<< ((q_sz s o) &&& 31))), (0, .ref (lc 6)), (1, .ref (lc (8 + o))), (2, .long D)]) hx hb d_Pa_price_16 hl (by decide) rfl (fun ls hl => ?_)
  refine lv_iconst (v := 0) hx hb d_Pa_price_18 (by decide) ?_
  refine lv_istore (lv' := [(7, .int (0 : Int32)), (5, .long (0 : Int64)), (4, .int ((1 : Int32) <<< ((q_sz s o) &&& 31))), (0, .ref (lc 6)), (1, .ref (lc (8 + o))), (2, .long D)]) hx hb d_Pa_price_19 hl (by decide) rfl (fun ls hl => ?_)
  have hl : lv_has ls 10 [(7, .int (0 : Int32)), (5, .long (0 : Int64)), (4, .int (nI (2 ^ Z))), (0, .ref (lc 6)), (1, .ref (lc (8 + o))), (2, .long D)] := by rw [← hc2]; exact hl
  refine k_cntH (2 ^ Z) (fun k ls H locs => lv_has ls 10 [(0, .ref (lc 6)), (1, .ref (lc (8 + o))), (2, .long D), (4, .int (nI (2 ^ Z))), (5, .long (pSum s o N k)), (7, .int (nI k))] ∧ ∃ u9, Sk G A lc s (zS_dw z (pDk N k)) n0 u u9 st H locs) (k0 := 0) (Nat.zero_le _) (⟨lv_sub hl [3, 4, 5, 2, 1, 0] rfl, u1, hw⟩) (fun ls H locs hJ => ?_) (fun k ls H locs hk hJ ih => ?_)
  · obtain ⟨hl, hw⟩ := hJ
    obtain ⟨u9, hw⟩ := hw
    refine lv_iload hx hb d_Pa_price_21 (lv_at hl 5 rfl) ?_
    refine lv_iload hx hb d_Pa_price_23 (lv_at hl 3 rfl) ?_
    refine lv_icmp_ge (tgt := 44) hx hb d_Pa_price_25 (by decide) (fun c1 => ?_) (fun c1 => ?_)
    · refine lv_lload hx hb d_Pa_price_44 (lv_at hl 4 rfl) ?_
      refine lv_aload_n hx hb d_Pa_price_46 rfl (lv_at hl 1 rfl) ?_
      refine kg_O (j := o) 20 (by decide) (by decide) hx hb ht hown hw ho h3 gw_423 rfl (by rw [ndX_O h3]; rfl) d_Pa_price_47 ?_
      refine kc_l (kr_SN 2 (host := "QuoteGraph") (As := [.long (pSum s o N (2 ^ Z)), .int (q_sz s o)]) (rest := []) (c_Q_rounded l hl9 G A u9 _ _) hx hb hml hown ht hw.1 (ew_of 696 _ (by decide +kernel) rfl) gw_561 gw_42 gw_562 ⟨⟨by decide, by decide⟩, by decide +kernel⟩ ⟨by first | decide | (dsimp only; omega), by first | decide | (dsimp only; omega)⟩ rfl hl.1 rfl (lv_room (Nat.le_of_ble_eq_true rfl)) d_Pa_price_50 ⟨by first | decide | (dsimp only; omega), by first | decide | (dsimp only; omega)⟩) hw.1 (fun E ce q9 u1 H1 locs1 hp hw1 hce hcv hcl => ?_) (fun r2 u2 H2 locs2 hp2 hw2 => ?_)
      · obtain ⟨rfl, hbg, hq9⟩ := hp
        replace hq9 := hq9.symm; subst hq9
        have e9 : pW s o D (pSum s o N (2 ^ Z)) 0 = none := if_pos hbg
        have e8 := pW_none e9 N
        rw [Nat.zero_add] at e8
        exact kt_out htab hlocks hw1 hce hcv hcl ⟨rfl, e8, ⟨_, hw.2.1⟩, by rw [hn0]; exact hw.2.2.1⟩ (by decide) (by decide)
      obtain ⟨er2, hbg, hq2⟩ := hp2
      replace hq2 := hq2.symm; subst hq2
      have hw : Sk G A lc s (zS_dw z (pDk N (2 ^ Z))) n0 u u9 st H2 locs2 := ⟨hw2, hw.2⟩
      subst er2
      have hg0 : pW s o D (pSum s o N (2 ^ Z)) 0 = some (rndL (pSum s o N (2 ^ Z)) (q_sz s o)) := if_neg (by rw [hbg]; decide)
      refine lv_lstore (lv' := [(7, .long (rndL (pSum s o N (2 ^ Z)) (q_sz s o))), (0, .ref (lc 6)), (1, .ref (lc (8 + o))), (2, .long D), (4, .int (nI (2 ^ Z))), (5, .long (pSum s o N (2 ^ Z)))]) hx hb d_Pa_price_53 hl (by decide) rfl (fun ls hl => ?_)
      refine lv_iconst (v := 0) hx hb d_Pa_price_55 (by decide) ?_
      refine lv_istore (lv' := [(9, .int (0 : Int32)), (7, .long (rndL (pSum s o N (2 ^ Z)) (q_sz s o))), (0, .ref (lc 6)), (1, .ref (lc (8 + o))), (2, .long D), (4, .int (nI (2 ^ Z))), (5, .long (pSum s o N (2 ^ Z)))]) hx hb d_Pa_price_56 hl (by decide) rfl (fun ls hl => ?_)
      refine k_cntH (N) (fun i ls H locs => ∃ w : Int64, lv_has ls 10 [(0, .ref (lc 6)), (1, .ref (lc (8 + o))), (2, .long D), (7, .long w), (9, .int (nI i))] ∧ ∃ u9, pW s o D (pSum s o N (2 ^ Z)) i = some w ∧ Sk G A lc s (zS_dw z (pDk N (2 ^ Z))) n0 u u9 st H locs) (k0 := 0) (Nat.zero_le _) (⟨_, lv_sub hl [2, 3, 4, 1, 0] rfl, u9, hg0, hw⟩) (fun ls H locs hJ => ?_) (fun i ls H locs hi hJ ih2 => ?_)
      · obtain ⟨w, hl, hw⟩ := hJ
        obtain ⟨u9, hg, hw⟩ := hw
        refine lv_iload hx hb d_Pa_price_58 (lv_at hl 4 rfl) ?_
        refine lv_aload_n hx hb d_Pa_price_60 rfl (lv_at hl 1 rfl) ?_
        refine kg_O (j := o) 14 (by decide) (by decide) hx hb ht hown hw ho h3 gw_409 rfl (by rw [ndX_O h3]; rfl) d_Pa_price_61 ?_
        refine lv_icmp_ge (tgt := 84) hx hb d_Pa_price_64 (by decide) (fun c2 => ?_) (fun c2 => ?_)
        · refine lv_lload hx hb d_Pa_price_84 (lv_at hl 3 rfl) ?_
          exact kt_l hx hb hr hlocks hw.1 d_Pa_price_86 (by exact ⟨hg, ⟨_, hw.2.1⟩, by rw [hn0]; exact hw.2.2.1⟩) (by first | decide | (dsimp only; omega)) (by first | decide | (dsimp only; omega))
        · exact absurd (by rw [hN]; exact nI_le (Nat.le_refl _) (by omega)) c2
      · obtain ⟨w, hl, hw⟩ := hJ
        obtain ⟨u9, hg, hw⟩ := hw
        refine lv_iload hx hb d_Pa_price_58 (lv_at hl 4 rfl) ?_
        refine lv_aload_n hx hb d_Pa_price_60 rfl (lv_at hl 1 rfl) ?_
        refine kg_O (j := o) 14 (by decide) (by decide) hx hb ht hown hw ho h3 gw_409 rfl (by rw [ndX_O h3]; rfl) d_Pa_price_61 ?_
        refine lv_icmp_ge (tgt := 84) hx hb d_Pa_price_64 (by decide) (fun c2 => ?_) (fun c2 => ?_)
        · exact absurd c2 (by rw [hN]; exact nI_ge hi (by omega))
        · refine lv_lload_n hx hb d_Pa_price_67 rfl (lv_at hl 2 rfl) ?_
          refine lv_lload hx hb d_Pa_price_68 (lv_at hl 3 rfl) ?_
          refine lv_lmul hx hb d_Pa_price_70 ?_
          refine lv_bipush (v := 10) hx hb d_Pa_price_71 (by decide) ?_
          refine kc_l (kr_SN 2 (host := "QuoteGraph") (As := [.long (D * w), .int (10 : Int32)]) (rest := []) (c_Q_rounded l hl9 G A u9 _ _) hx hb hml hown ht hw.1 (ew_of 696 _ (by decide +kernel) rfl) gw_561 gw_42 gw_562 ⟨⟨by decide, by decide⟩, by decide +kernel⟩ ⟨by first | decide | (dsimp only; omega), by first | decide | (dsimp only; omega)⟩ rfl hl.1 rfl (lv_room (Nat.le_of_ble_eq_true rfl)) d_Pa_price_73 ⟨by first | decide | (dsimp only; omega), by first | decide | (dsimp only; omega)⟩) hw.1 (fun E ce q9 u1 H1 locs1 hp hw1 hce hcv hcl => ?_) (fun r3 u3 H3 locs3 hp3 hw3 => ?_)
          · obtain ⟨rfl, hbg, hq9⟩ := hp
            replace hq9 := hq9.symm; subst hq9
            have e9 : pW s o D (pSum s o N (2 ^ Z)) (i + 1) = none := by show (match pW s o D (pSum s o N (2 ^ Z)) i with | none => none | some g => _) = none; rw [hg]; exact if_pos hbg
            have e8 := pW_none e9 (N - (i + 1))
            rw [show i + 1 + (N - (i + 1)) = N by omega] at e8
            exact kt_out htab hlocks hw1 hce hcv hcl ⟨rfl, e8, ⟨_, hw.2.1⟩, by rw [hn0]; exact hw.2.2.1⟩ (by decide) (by decide)
          obtain ⟨er3, hb2, hq3⟩ := hp3
          replace hq3 := hq3.symm; subst hq3
          have hw : Sk G A lc s (zS_dw z (pDk N (2 ^ Z))) n0 u u9 st H3 locs3 := ⟨hw3, hw.2⟩
          subst er3
          have hg2 : pW s o D (pSum s o N (2 ^ Z)) (i + 1) = some (rndL (D * w) 10) := by show (match pW s o D (pSum s o N (2 ^ Z)) i with | none => none | some g => _) = _; rw [hg]; exact if_neg (by rw [hb2]; decide)
          refine lv_lstore (lv' := [(7, .long (rndL (D * w) 10)), (0, .ref (lc 6)), (1, .ref (lc (8 + o))), (2, .long D), (9, .int (nI i))]) hx hb d_Pa_price_76 hl (by decide) rfl (fun ls hl => ?_)
          obtain ⟨i4, ei4⟩ : ∃ y : Int32, y = (nI i) + 1 := ⟨_, rfl⟩
          refine lv_iinc (v := i4) (lv' := [(9, .int i4), (7, .long (rndL (D * w) 10)), (0, .ref (lc 6)), (1, .ref (lc (8 + o))), (2, .long D)]) hx hb d_Pa_price_78 hl (k := 4) rfl (by rw [ei4]; rfl) (by decide) rfl (fun ls hl => ?_)
          rw [nI_1] at ei4; subst ei4
          refine lv_goto (tgt := 58) hx hb d_Pa_price_81 (by decide) ?_
          exact ih2 ls H3 locs3 ⟨_, lv_sub hl [2, 3, 4, 1, 0] rfl, u9, hg2, hw⟩
    · exact absurd (nI_le (Nat.le_refl _) (by omega)) c1
  · obtain ⟨hl, hw⟩ := hJ
    obtain ⟨u9, hw⟩ := hw
    refine lv_iload hx hb d_Pa_price_21 (lv_at hl 5 rfl) ?_
    refine lv_iload hx hb d_Pa_price_23 (lv_at hl 3 rfl) ?_
    refine lv_icmp_ge (tgt := 44) hx hb d_Pa_price_25 (by decide) (fun c1 => ?_) (fun c1 => ?_)
    · exact absurd c1 (nI_ge hk (by omega))
    · refine lv_lload hx hb d_Pa_price_28 (lv_at hl 4 rfl) ?_
      refine lv_aload_n hx hb d_Pa_price_30 rfl (lv_at hl 0 rfl) ?_
      refine lv_aload_n hx hb d_Pa_price_31 rfl (lv_at hl 1 rfl) ?_
      refine kc_l (kr_V 1 (C := "QuoteGraph$Paths") (As := [.ref (lc (8 + o))]) (rest := [.long (pSum s o N k)]) (c_Pa_endOfPath l G A lc s _ u9 hw.2.1 o (by rw [hn0]; exact ho) h3 N hN hN2) hx hb hml hown ht hw.1 gw_683 gw_685 gw_17 gw_45 gw_686 ⟨⟨by decide, by decide⟩, by decide +kernel⟩ ⟨by first | decide | (dsimp only; omega), by first | decide | (dsimp only; omega)⟩ (kr_Pa hw) rfl hl.1 rfl (lv_room (Nat.le_of_ble_eq_true rfl)) d_Pa_price_32 ⟨by first | decide | (dsimp only; omega), by first | decide | (dsimp only; omega)⟩) hw.1 (fun _ _ _ _ _ _ h => h.elim) (fun r5 u5 H5 locs5 hp5 hw5 => ?_)
      obtain ⟨er, hr2, hf2⟩ := hp5
      subst er
      have hw : Sk G A lc s (zS_dw z (pDk N (k + 1))) n0 u u5 st H5 locs5 := ⟨hw5, hr2, hw.2.2.1.tr (by rw [← hn0]; exact hf2), hn0⟩
      refine lv_ladd hx hb d_Pa_price_35 ?_
      refine lv_lstore (lv' := [(5, .long ((pSum s o N k) + (pEnd s o N (pDk N k)))), (0, .ref (lc 6)), (1, .ref (lc (8 + o))), (2, .long D), (4, .int (nI (2 ^ Z))), (7, .int (nI k))]) hx hb d_Pa_price_36 hl (by decide) rfl (fun ls hl => ?_)
      obtain ⟨i6, ei6⟩ : ∃ y : Int32, y = (nI k) + 1 := ⟨_, rfl⟩
      refine lv_iinc (v := i6) (lv' := [(7, .int i6), (5, .long ((pSum s o N k) + (pEnd s o N (pDk N k)))), (0, .ref (lc 6)), (1, .ref (lc (8 + o))), (2, .long D), (4, .int (nI (2 ^ Z)))]) hx hb d_Pa_price_38 hl (k := 5) rfl (by rw [ei6]; rfl) (by decide) rfl (fun ls hl => ?_)
      rw [nI_1] at ei6; subst ei6
      refine lv_goto (tgt := 21) hx hb d_Pa_price_41 (by decide) ?_
      exact ih ls H5 locs5 ⟨lv_sub hl [2, 3, 4, 5, 1, 0] rfl, u5, hw⟩
end
section
/-! 24.askpure: asking, as mathematics; what a row held before doesn't matter -/
def eqO (m : Nat) (f g : Nat → Int64) : Prop := ∀ j, j ≤ m → f j = g j
theorem eqO.up {m : Nat} {f g : Nat → Int64} (h : eqO m f g) (k : Nat) (x : Int64) : eqO m (vp_updL f k x) (vp_updL g k x) := fun j hj => by
  unfold vp_updL; split
  · rfl
  · exact h j hj
theorem lat0_ext {s : QS} {o : Nat} {f g : Nat → Int64} : ∀ k, ∀ j, j < k → lat0 s o f k j = lat0 s o g k j
  | 0, j, h => absurd h (by omega)
  | k + 1, j, h => by
    show vp_updL _ k _ j = vp_updL _ k _ j
    by_cases hj : j = k
    · subst hj; rw [pk_uLs, pk_uLs]
    · rw [pk_uLn hj, pk_uLn hj]; exact lat0_ext k j (by omega)
theorem net0_ext {s : QS} {o : Nat} {f g : Nat → Int64} : ∀ k, ∀ j, j < k → net0 s o f k j = net0 s o g k j
  | 0, j, h => absurd h (by omega)
  | k + 1, j, h => by
    show vp_updL _ k _ j = vp_updL _ k _ j
    by_cases hj : j = k
    · subst hj; rw [pk_uLs, pk_uLs]
    · rw [pk_uLn hj, pk_uLn hj]; exact net0_ext k j (by omega)
/-- both none, or both some and alike up to m -/
def eqM (m : Nat) (a b : Option (Nat → Int64)) : Prop := (a = none ∧ b = none) ∨ ∃ f g, a = some f ∧ b = some g ∧ eqO m f g
theorem lsb_ext {s : QS} {o : Nat} {D : Int64} {t : Int32} {m : Nat} {f g : Nat → Int64} (h : eqO m f g) : ∀ k, k ≤ m → eqM m (lsb s o D t f k) (lsb s o D t g k)
  | 0, _ => Or.inr ⟨f, g, rfl, rfl, h⟩
  | k + 1, hk => by
    have e : ∀ (f : Nat → Int64), lsb s o D t f (k + 1) = (match lsb s o D t f k with | none => none | some g => if bigL (lstp s o D (g (k + 1)) (g k)) = true then none else some (vp_updL g k (oHeld s o (oP s o (2 * nI k - t)) (lstp s o D (g (k + 1)) (g k))))) := fun _ => rfl
    rw [e f, e g]
    rcases lsb_ext h k (by omega) with ⟨h1, h2⟩ | ⟨f1, g1, h1, h2, h3⟩
    · rw [h1, h2]; exact Or.inl ⟨rfl, rfl⟩
    · rw [h1, h2]
      dsimp only
      rw [h3 (k + 1) hk, h3 k (by omega)]
      split
      · exact Or.inl ⟨rfl, rfl⟩
      · exact Or.inr ⟨_, _, rfl, rfl, h3.up _ _⟩
theorem lts_ext {s : QS} {o : Nat} {D : Int64} {N : Nat} {f g : Nat → Int64} (h : eqO N f g) : ∀ i, i ≤ N → eqM N (lts s o D N f i) (lts s o D N g i)
  | 0, _ => Or.inr ⟨f, g, rfl, rfl, h⟩
  | i + 1, hi => by
    have e : ∀ (f : Nat → Int64), lts s o D N f (i + 1) = (match lts s o D N f i with | none => none | some g => lsb s o D (nI (N - 1 - i)) g (N - i)) := fun _ => rfl
    rw [e f, e g]
    rcases lts_ext h i (by omega) with ⟨h1, h2⟩ | ⟨f1, g1, h1, h2, h3⟩
    · rw [h1, h2]; exact Or.inl ⟨rfl, rfl⟩
    · rw [h1, h2]; exact lsb_ext h3 _ (by omega)
theorem latV_ext (s : QS) (o : Nat) (D : Int64) (N : Nat) (f g : Nat → Int64) : latV s o D N f = latV s o D N g := by
  unfold latV
  rcases lts_ext (s := s) (o := o) (D := D) (N := N) (f := lat0 s o f (N + 1)) (g := lat0 s o g (N + 1)) (fun j hj => lat0_ext (N + 1) j (by omega)) N (Nat.le_refl _) with ⟨h1, h2⟩ | ⟨f1, g1, h1, h2, h3⟩
  · rw [h1, h2]
  · rw [h1, h2]; exact congrArg some (h3 0 (by omega))
theorem nsb_ext {s : QS} {o : Nat} {D : Int64} {m : Nat} {f g : Nat → Int64} (h : eqO m f g) : ∀ k, k + 1 ≤ m → eqM m (nsb s o D f k) (nsb s o D g k)
  | 0, _ => Or.inr ⟨f, g, rfl, rfl, h⟩
  | k + 1, hk => by
    have e : ∀ (f : Nat → Int64), nsb s o D f (k + 1) = (match nsb s o D f k with | none => none | some g => if bigL (nstp s o D (f k) (f (k + 1)) (f (k + 2))) = true then none else some (vp_updL g (k + 1) (oHeld s o (oP s o (nI (k + 1) - q_sz s o)) (nstp s o D (f k) (f (k + 1)) (f (k + 2)))))) := fun _ => rfl
    rw [e f, e g, h k (by omega), h (k + 1) (by omega), h (k + 2) (by omega)]
    rcases nsb_ext h k (by omega) with ⟨h1, h2⟩ | ⟨f1, g1, h1, h2, h3⟩
    · rw [h1, h2]; exact Or.inl ⟨rfl, rfl⟩
    · rw [h1, h2]
      dsimp only
      split
      · exact Or.inl ⟨rfl, rfl⟩
      · exact Or.inr ⟨_, _, rfl, rfl, h3.up _ _⟩
theorem nts_ext {s : QS} {o : Nat} {D : Int64} {M : Nat} (hM : 1 ≤ M) {f g : Nat → Int64} (h : eqO (2 * M) f g) : ∀ i, eqM (2 * M) (nts s o D M f i) (nts s o D M g i)
  | 0 => Or.inr ⟨f, g, rfl, rfl, h⟩
  | i + 1 => by
    have e : ∀ (f : Nat → Int64), nts s o D M f (i + 1) = (match nts s o D M f i with | none => none | some g => nsb s o D g (2 * M - 1)) := fun _ => rfl
    rw [e f, e g]
    rcases nts_ext hM h i with ⟨h1, h2⟩ | ⟨f1, g1, h1, h2, h3⟩
    · rw [h1, h2]; exact Or.inl ⟨rfl, rfl⟩
    · rw [h1, h2]; exact nsb_ext h3 _ (by omega)
theorem netV_ext (s : QS) (o : Nat) (D : Int64) (M N : Nat) (hM : 1 ≤ M) (f g : Nat → Int64) : netV s o D M N f = netV s o D M N g := by
  unfold netV
  rcases nts_ext (s := s) (o := o) (D := D) hM (f := net0 s o f (2 * M + 1)) (g := net0 s o g (2 * M + 1)) (fun j hj => net0_ext (2 * M + 1) j (by omega)) N with ⟨h1, h2⟩ | ⟨f1, g1, h1, h2, h3⟩
  · rw [h1, h2]
  · rw [h1, h2]; exact congrArg some (h3 M (by omega))
/-- STEPS, SIZE as numbers -/
def spN (s : QS) (o : Nat) : Nat := (q_sp s o).toNatClampNeg
def szN (s : QS) (o : Nat) : Nat := (q_sz s o).toNatClampNeg
/-- an option's fixed numbers are in their ranges -/
def invO (s : QS) (o : Nat) : Prop := q_sp s o = nI (spN s o) ∧ 1 ≤ spN s o ∧ spN s o ≤ 20 ∧ q_sz s o = nI (szN s o) ∧ (q_en s o = 1 → szN s o < 7) ∧ (q_en s o = 2 → 1 ≤ szN s o ∧ szN s o ≤ 20)
/-- the price by the option's engine -/
def oPrice (s : QS) (o : Nat) (D : Int64) : Option Int64 := if q_en s o = 0 then latV s o D (spN s o) (fun _ => 0) else if q_en s o = 1 then pthV s o D (szN s o) (spN s o) else netV s o D (szN s o) (spN s o) (fun _ => 0)
/-- an option WORKED OUT: 0 and the value, or 2 (ArithmeticException), 3 (UnsupportedOperationException) -/
def oWork (s : QS) (o : Nat) : Nat × Int64 := if q_en s o = 1 ∧ q_us s o = true then (3, 0) else if q_en s o = 2 ∧ ¬ q_ch s o ≤ 8 then (2, 0) else if ¬ 0 < oM s o then (2, 0) else if oTak s o < 0 ∨ 1024 < oTak s o then (2, 0) else match oPrice s o (1024 - oTak s o) with
  | none => (2, 0)
  | some v => (0, v)
def wkV (s : QS) (j : Nat) : Nat × Int64 := if q_so s j = 0 then (0, q_am s j) else if q_so s j = 1 then (if bigL (rndL (q_wa s j * q_am s (cp s j 0) + q_wb s j * q_am s (cp s j 1)) 3) = true then (2, 0) else (0, rndL (q_wa s j * q_am s (cp s j 0) + q_wb s j * q_am s (cp s j 1)) 3)) else if q_so s j = 2 then (0, mxL (q_am s (cp s j 0)) (q_am s (cp s j 1))) else oWork s j
/-- with the last look at TOO LARGE -/
def wkA (s : QS) (j : Nat) : Nat × Int64 := if (wkV s j).1 = 0 then (if bigL (wkV s j).2 = true then (2, 0) else (0, (wkV s j).2)) else ((wkV s j).1, 0)
def exN (c : Nat) : String := if c = 3 then "java/lang/UnsupportedOperationException" else "java/lang/ArithmeticException"
/-- node j's parts are asked, by f, in their order -/
def askP (f : QS → Nat → Nat × QS) (j : Nat) (s : QS) : Nat → Nat × QS
  | 0 => (0, s)
  | k + 1 => if (askP f j s k).1 = 0 then f (askP f j s k).2 (cp (askP f j s k).2 j k) else askP f j s k
/-- node j, all its parts valid, is WORKED OUT -/
def askW (s : QS) (j : Nat) : Nat × QS := if (wkA s j).1 = 0 then (0, qS_wk (qS_tw (qS_va (qS_am s (va_up (q_am s) j (wkA s j).2)) (va_up (q_va s) j true)) (va_up (q_tw s) j (q_tw s j + 1))) (q_wk s + 1)) else ((wkA s j).1, s)
def askF : Nat → QS → Nat → Nat × QS
  | 0, s, _ => (0, s)
  | d + 1, s, j => if q_va s j = true then (0, s) else if (askP (askF d) j s (np s j)).1 = 0 then askW (askP (askF d) j s (np s j)).2 j else askP (askF d) j s (np s j)
/-- what asking leaves as it was -/
def akK (s s' : QS) : Prop := q_n s' = q_n s ∧ q_so s' = q_so s ∧ q_fr s' = q_fr s ∧ q_mi s' = q_mi s ∧ q_pt s' = q_pt s ∧ q_wa s' = q_wa s ∧ q_wb s' = q_wb s ∧ q_kd s' = q_kd s ∧ q_sp s' = q_sp s ∧ q_ch s' = q_ch s ∧ q_us s' = q_us s ∧ q_en s' = q_en s ∧ q_sz s' = q_sz s ∧ q_tl s' = q_tl s ∧ q_fl s' = q_fl s
theorem akK.rf {s : QS} : akK s s := ⟨rfl, rfl, rfl, rfl, rfl, rfl, rfl, rfl, rfl, rfl, rfl, rfl, rfl, rfl, rfl⟩
theorem akK.tr {s s' s'' : QS} (h : akK s s') (h' : akK s' s'') : akK s s'' := by
  obtain ⟨a1, a2, a3, a4, a5, a6, a7, a8, a9, a10, a11, a12, a13, a14, a15⟩ := h
  obtain ⟨b1, b2, b3, b4, b5, b6, b7, b8, b9, b10, b11, b12, b13, b14, b15⟩ := h'
  exact ⟨b1.trans a1, b2.trans a2, b3.trans a3, b4.trans a4, b5.trans a5, b6.trans a6, b7.trans a7, b8.trans a8, b9.trans a9, b10.trans a10, b11.trans a11, b12.trans a12, b13.trans a13, b14.trans a14, b15.trans a15⟩
theorem ak_np {s s' : QS} (h : akK s s') (j : Nat) : np s' j = np s j := by unfold np; rw [h.2.1, h.2.2.2.2.1]
theorem ak_cp {s s' : QS} (h : akK s s') (j k : Nat) : cp s' j k = cp s j k := by unfold cp; rw [h.2.2.2.2.1]
theorem ak_inv {s s' : QS} (h : akK s s') (j : Nat) (hi : invO s j) : invO s' j := by
  obtain ⟨a1, a2, a3, a4, a5, a6, a7, a8, a9, a10, a11, a12, a13, a14, a15⟩ := h
  unfold invO spN szN at *; rw [a9, a12, a13]; exact hi
theorem askP_K {f : QS → Nat → Nat × QS} (hf : ∀ s i, akK s (f s i).2) {j : Nat} {s : QS} : ∀ k, akK s (askP f j s k).2
  | 0 => akK.rf
  | k + 1 => by
    show akK s (if _ then _ else _ : Nat × QS).2
    split
    · exact (askP_K hf k).tr (hf _ _)
    · exact askP_K hf k
theorem askW_K {s : QS} {j : Nat} : akK s (askW s j).2 := by
  unfold askW; split
  · exact ⟨rfl, rfl, rfl, rfl, rfl, rfl, rfl, rfl, rfl, rfl, rfl, rfl, rfl, rfl, rfl⟩
  · exact akK.rf
theorem askF_K : ∀ (d : Nat) (s : QS) (j : Nat), akK s (askF d s j).2
  | 0, _, _ => akK.rf
  | d + 1, s, j => by
    show akK s (if _ then _ else if _ then _ else _ : Nat × QS).2
    split
    · exact akK.rf
    · split
      · exact (askP_K (fun s i => askF_K d s i) _).tr askW_K
      · exact askP_K (fun s i => askF_K d s i) _
/-- ranks: a part's is below -/
def rkd (s : QS) (r : Nat → Nat) : Prop := ∀ i, i < q_n s → ∀ k, k < np s i → r (cp s i k) < r i
theorem ak_rkd {s s' : QS} (h : akK s s') {r : Nat → Nat} (hr : rkd s r) : rkd s' r := fun i hi k hk => by
  rw [ak_cp h]; exact hr i (by rw [← h.1]; exact hi) k (by rw [← ak_np h]; exact hk)
/-- the rows and the stream may turn -/
def zK (z z' : ZS) : Prop := z_ra z' = z_ra z ∧ z_rv z' = z_rv z ∧ z_pr z' = z_pr z
theorem zK.rf {z : ZS} : zK z z := ⟨rfl, rfl, rfl⟩
theorem zK.tr {z z' z'' : ZS} (h : zK z z') (h' : zK z' z'') : zK z z'' := ⟨h'.1.trans h.1, h'.2.1.trans h.2.1, h'.2.2.trans h.2.2⟩
end
section
/-! 25.work: contracts of workOut -/
set_option maxHeartbeats 4000000 in
set_option maxRecDepth 100000 in
theorem c_Qt_workOut (l : Launch) (G : GT) (A : Nat → Prop) (lc : Nat → Nat) (s : QS) (z : ZS) (u : WT) (hR : rQ G lc s z u) (j : Nat) (hj : j < q_n s) (h0 : q_so s j = 0) : Kt l y_Qt_workOut b_Qt_workOut 1 (some .long) 0 0 0 0 0 0 1 6 G A u [.ref (lc (8 + j))] (KQ G A (Rl (fun r u' => wkV s j = (0, r) ∧ ∃ z', zK z z' ∧ rQ G lc s z' u' ∧ fQ lc (q_n s) u u'))) (fun E u' => (wkV s j).1 ≠ 0 ∧ E = exN (wkV s j).1 ∧ ∃ z', zK z z' ∧ rQ G lc s z' u' ∧ fQ lc (q_n s) u u') := by
  refine k_of (by decide) (Nat.le_of_ble_eq_true rfl) (fun p e st m below meth c ls hx hb hr hlocks hml htab hname hown ht hw hl => ?_)
  have hl : lv_has ls 1 [(0, .ref (lc (8 + j)))] := hl
  obtain ⟨n0, hn0⟩ : ∃ n0, q_n s = n0 := ⟨_, rfl⟩
  have hw : Sk G A lc s z n0 u u st st.heap [] := ⟨hw, hR, fQ.rf, hn0⟩
  rw [hn0] at hj
  refine lv_aload_n hx hb d_Qt_workOut_0 rfl (lv_at hl 0 rfl) ?_
  refine kg_N (j := j) 3 (by decide) hx hb ht hown hw hj gw_272 (Or.inr gw_273) rfl d_Qt_workOut_1 ?_
  exact kt_l hx hb hr hlocks hw.1 d_Qt_workOut_4 (by exact ⟨by unfold wkV; rw [if_pos h0], ⟨z, zK.rf, hw.2.1, by rw [hn0]; exact hw.2.2.1⟩⟩) (by first | decide | (dsimp only; omega)) (by first | decide | (dsimp only; omega))
set_option maxHeartbeats 4000000 in
set_option maxRecDepth 100000 in
theorem c_Bl_workOut (l : Launch) (hl9 : l.stackTraces = false) (G : GT) (A : Nat → Prop) (lc : Nat → Nat) (s : QS) (z : ZS) (u : WT) (hR : rQ G lc s z u) (j : Nat) (hj : j < q_n s) (h1 : q_so s j = 1) : Kt l y_Bl_workOut b_Bl_workOut 3 (some .long) 8 143 1 6 0 0 1 6 G A u [.ref (lc (8 + j))] (KQ G A (Rl (fun r u' => wkV s j = (0, r) ∧ ∃ z', zK z z' ∧ rQ G lc s z' u' ∧ fQ lc (q_n s) u u'))) (fun E u' => (wkV s j).1 ≠ 0 ∧ E = exN (wkV s j).1 ∧ ∃ z', zK z z' ∧ rQ G lc s z' u' ∧ fQ lc (q_n s) u u') := by
  refine k_of (by decide) (Nat.le_of_ble_eq_true rfl) (fun p e st m below meth c ls hx hb hr hlocks hml htab hname hown ht hw hl => ?_)
  have hl : lv_has ls 3 [(0, .ref (lc (8 + j)))] := hl
  obtain ⟨n0, hn0⟩ : ∃ n0, q_n s = n0 := ⟨_, rfl⟩
  have hw : Sk G A lc s z n0 u u st st.heap [] := ⟨hw, hR, fQ.rf, hn0⟩
  have hnp : 2 ≤ np s j := by unfold np; rw [if_neg (by omega)]; omega
  have hc0 : cp s j 0 < n0 := by rw [← hn0]; exact cp_lt hR.1 hj (by omega)
  have hc1 : cp s j 1 < n0 := by rw [← hn0]; exact cp_lt hR.1 hj (by omega)
  rw [hn0] at hj
  refine lv_aload_n hx hb d_Bl_workOut_0 rfl (lv_at hl 0 rfl) ?_
  refine kg_B (j := j) 10 (by decide) (by decide) hx hb ht hown hw hj h1 gw_340 rfl (by rw [ndX_B h1]; rfl) d_Bl_workOut_1 ?_
  refine lv_aload_n hx hb d_Bl_workOut_4 rfl (lv_at hl 0 rfl) ?_
  refine kg_N (j := j) 1 (by decide) hx hb ht hown hw hj gw_263 (Or.inr gw_264) rfl d_Bl_workOut_5 ?_
  refine lv_iconst (v := 0) hx hb d_Bl_workOut_8 (by decide) ?_
  refine ka_parts (j := j) (k := 0) rfl hj (by omega) hx hb hw d_Bl_workOut_9 ?_
  refine kg_N (j := (cp s j 0)) 3 (by decide) hx hb ht hown hw hc0 gw_275 (Or.inl rfl) rfl d_Bl_workOut_10 ?_
  refine lv_lmul hx hb d_Bl_workOut_13 ?_
  refine lv_aload_n hx hb d_Bl_workOut_14 rfl (lv_at hl 0 rfl) ?_
  refine kg_B (j := j) 11 (by decide) (by decide) hx hb ht hown hw hj h1 gw_341 rfl (by rw [ndX_B h1]; rfl) d_Bl_workOut_15 ?_
  refine lv_aload_n hx hb d_Bl_workOut_18 rfl (lv_at hl 0 rfl) ?_
  refine kg_N (j := j) 1 (by decide) hx hb ht hown hw hj gw_263 (Or.inr gw_264) rfl d_Bl_workOut_19 ?_
  refine lv_iconst (v := 1) hx hb d_Bl_workOut_22 (by decide) ?_
  refine ka_parts (j := j) (k := 1) rfl hj (by omega) hx hb hw d_Bl_workOut_23 ?_
  refine kg_N (j := (cp s j 1)) 3 (by decide) hx hb ht hown hw hc1 gw_275 (Or.inl rfl) rfl d_Bl_workOut_24 ?_
  refine lv_lmul hx hb d_Bl_workOut_27 ?_
  refine lv_ladd hx hb d_Bl_workOut_28 ?_
  refine lv_lstore_n (lv' := [(1, .long (((q_wa s j) * (q_am s (cp s j 0))) + ((q_wb s j) * (q_am s (cp s j 1))))), (0, .ref (lc (8 + j)))]) hx hb d_Bl_workOut_29 rfl hl (by decide) rfl (fun ls hl => ?_)
  refine lv_lload_n hx hb d_Bl_workOut_30 rfl (lv_at hl 0 rfl) ?_
  refine lv_iconst (v := 3) hx hb d_Bl_workOut_31 (by decide) ?_
  refine kc_l (kr_SN 2 (host := "QuoteGraph") (As := [.long (((q_wa s j) * (q_am s (cp s j 0))) + ((q_wb s j) * (q_am s (cp s j 1)))), .int (3 : Int32)]) (rest := []) (c_Q_rounded l hl9 G A u _ _) hx hb hml hown ht hw.1 (ew_of 560 _ (by decide +kernel) rfl) gw_561 gw_42 gw_562 ⟨⟨by decide, by decide⟩, by decide +kernel⟩ ⟨by first | decide | (dsimp only; omega), by first | decide | (dsimp only; omega)⟩ rfl hl.1 rfl (lv_room (Nat.le_of_ble_eq_true rfl)) d_Bl_workOut_32 ⟨by first | decide | (dsimp only; omega), by first | decide | (dsimp only; omega)⟩) hw.1 (fun E ce q9 u1 H1 locs1 hp hw1 hce hcv hcl => ?_) (fun r1 u1 H1 locs1 hp1 hw1 => ?_)
  · obtain ⟨rfl, hbg, hq9⟩ := hp
    replace hq9 := hq9.symm; subst hq9
    have e9 : wkV s j = (2, 0) := by unfold wkV; rw [if_neg (by omega), if_pos h1, if_pos hbg]
    exact kt_out htab hlocks hw1 hce hcv hcl ⟨by rw [e9]; decide, by rw [e9]; rfl, ⟨z, zK.rf, hw.2.1, by rw [hn0]; exact hw.2.2.1⟩⟩ (by decide) (by decide)
  obtain ⟨er1, hbg, hq1⟩ := hp1
  replace hq1 := hq1.symm; subst hq1
  have hw : Sk G A lc s z n0 u u st H1 locs1 := ⟨hw1, hw.2⟩
  subst er1
  exact kt_l hx hb hr hlocks hw.1 d_Bl_workOut_35 (by exact ⟨by unfold wkV; rw [if_neg (by omega), if_pos h1, if_neg (by rw [show bigL (rndL (q_wa s j * q_am s (cp s j 0) + q_wb s j * q_am s (cp s j 1)) 3) = false from hbg]; decide)], ⟨z, zK.rf, hw.2.1, by rw [hn0]; exact hw.2.2.1⟩⟩) (by first | decide | (dsimp only; omega)) (by first | decide | (dsimp only; omega))
set_option maxHeartbeats 4000000 in
set_option maxRecDepth 100000 in
theorem c_Gr_workOut (l : Launch) (G : GT) (A : Nat → Prop) (lc : Nat → Nat) (s : QS) (z : ZS) (u : WT) (hR : rQ G lc s z u) (j : Nat) (hj : j < q_n s) (h2 : q_so s j = 2) : Kt l y_Gr_workOut b_Gr_workOut 1 (some .long) 1 40 0 0 0 0 1 6 G A u [.ref (lc (8 + j))] (KQ G A (Rl (fun r u' => wkV s j = (0, r) ∧ ∃ z', zK z z' ∧ rQ G lc s z' u' ∧ fQ lc (q_n s) u u'))) (fun E u' => (wkV s j).1 ≠ 0 ∧ E = exN (wkV s j).1 ∧ ∃ z', zK z z' ∧ rQ G lc s z' u' ∧ fQ lc (q_n s) u u') := by
  refine k_of (by decide) (Nat.le_of_ble_eq_true rfl) (fun p e st m below meth c ls hx hb hr hlocks hml htab hname hown ht hw hl => ?_)
  have hl : lv_has ls 1 [(0, .ref (lc (8 + j)))] := hl
  obtain ⟨n0, hn0⟩ : ∃ n0, q_n s = n0 := ⟨_, rfl⟩
  have hw : Sk G A lc s z n0 u u st st.heap [] := ⟨hw, hR, fQ.rf, hn0⟩
  have hnp : 2 ≤ np s j := by unfold np; rw [if_neg (by omega)]; omega
  have hc0 : cp s j 0 < n0 := by rw [← hn0]; exact cp_lt hR.1 hj (by omega)
  have hc1 : cp s j 1 < n0 := by rw [← hn0]; exact cp_lt hR.1 hj (by omega)
  rw [hn0] at hj
  refine lv_aload_n hx hb d_Gr_workOut_0 rfl (lv_at hl 0 rfl) ?_
  refine kg_N (j := j) 1 (by decide) hx hb ht hown hw hj gw_261 (Or.inr gw_262) rfl d_Gr_workOut_1 ?_
  refine lv_iconst (v := 0) hx hb d_Gr_workOut_4 (by decide) ?_
  refine ka_parts (j := j) (k := 0) rfl hj (by omega) hx hb hw d_Gr_workOut_5 ?_
  refine kg_N (j := (cp s j 0)) 3 (by decide) hx hb ht hown hw hc0 gw_274 (Or.inl rfl) rfl d_Gr_workOut_6 ?_
  refine lv_aload_n hx hb d_Gr_workOut_9 rfl (lv_at hl 0 rfl) ?_
  refine kg_N (j := j) 1 (by decide) hx hb ht hown hw hj gw_261 (Or.inr gw_262) rfl d_Gr_workOut_10 ?_
  refine lv_iconst (v := 1) hx hb d_Gr_workOut_13 (by decide) ?_
  refine ka_parts (j := j) (k := 1) rfl hj (by omega) hx hb hw d_Gr_workOut_14 ?_
  refine kg_N (j := (cp s j 1)) 3 (by decide) hx hb ht hown hw hc1 gw_274 (Or.inl rfl) rfl d_Gr_workOut_15 ?_
  refine va_mmax_long hx hb (hml.trans hl.1.symm) hown (ht _ gw_587) (ht _ gw_588) (ht _ gw_59) (ht _ gw_589) (by first | decide | (dsimp only; omega)) (Nat.le_of_ble_eq_true rfl) (by first | decide | (dsimp only; omega)) (by first | decide | (dsimp only; omega)) d_Gr_workOut_18 ?_
  exact kt_l hx hb hr hlocks hw.1 d_Gr_workOut_21 (by exact ⟨by unfold wkV; rw [if_neg (by omega), if_neg (by omega), if_pos h2]; rfl, ⟨z, zK.rf, hw.2.1, by rw [hn0]; exact hw.2.2.1⟩⟩) (by first | decide | (dsimp only; omega)) (by first | decide | (dsimp only; omega))
set_option maxHeartbeats 4000000 in
set_option maxRecDepth 100000 in
theorem c_Op_workOut (l : Launch) (hl9 : l.stackTraces = false) (G : GT) (A : Nat → Prop) (lc : Nat → Nat) (s : QS) (z : ZS) (u : WT) (hR : rQ G lc s z u) (j : Nat) (hj : j < q_n s) (h3 : q_so s j = 3) (hI : invO s j) : Kt l y_Op_workOut b_Op_workOut 1 (some .long) 10 203 1 6 0 0 1 6 G A u [.ref (lc (8 + j))] (KQ G A (Rl (fun r u' => wkV s j = (0, r) ∧ ∃ z', zK z z' ∧ rQ G lc s z' u' ∧ fQ lc (q_n s) u u'))) (fun E u' => (wkV s j).1 ≠ 0 ∧ E = exN (wkV s j).1 ∧ ∃ z', zK z z' ∧ rQ G lc s z' u' ∧ fQ lc (q_n s) u u') := by
  refine k_of (by decide) (Nat.le_of_ble_eq_true rfl) (fun p e st m below meth c ls hx hb hr hlocks hml htab hname hown ht hw hl => ?_)
  have hl : lv_has ls 1 [(0, .ref (lc (8 + j)))] := hl
  obtain ⟨n0, hn0⟩ : ∃ n0, q_n s = n0 := ⟨_, rfl⟩
  have hw : Sk G A lc s z n0 u u st st.heap [] := ⟨hw, hR, fQ.rf, hn0⟩
  have hs0 := (opt_p hR.1 hj h3).1
  have hs1 := (opt_p hR.1 hj h3).2
  have hen : q_en s j = 0 ∨ q_en s j = 1 ∨ q_en s j = 2 := by have := (hR.1.2 j hj).2.2.2.2.2; omega
  have ew : wkV s j = oWork s j := by unfold wkV; rw [if_neg (by omega), if_neg (by omega), if_neg (by omega)]
  obtain ⟨hI1, hI2, hI3, hI4, hI5, hI6⟩ := hI
  rw [hn0] at hj hs0 hs1
  rw [ew]
  rcases hen with hen | hen | hen
  · refine lv_aload_n hx hb d_Op_workOut_0 rfl (lv_at hl 0 rfl) ?_
    refine kg_O (j := j) 19 (by decide) (by decide) hx hb ht hown hw hj h3 gw_420 rfl (by rw [ndX_O h3]; rfl) d_Op_workOut_1 ?_
    rw [hen]
    refine lv_aload_n hx hb d_Op_workOut_4 rfl (lv_at hl 0 rfl) ?_
    refine kc_v (kr_U 1 (x := ⟨"QuoteGraph$Engine", "checkSuits", "(LQuoteGraph$Option;)V"⟩) (owner := "QuoteGraph$Engine") (C := "QuoteGraph$Lattice") (As := [.ref (lc (8 + j))]) (rest := []) (c_La_checkSuits l G A u _ _) hx hb hml hown ht hw.1 gw_593 gw_595 (va_Decl.abs (hw.1.1.2.2.2.2.1 _ (ew_of 594 _ (by decide +kernel) rfl))) gw_596 gw_597 gw_44 gw_598 ⟨⟨by decide, by decide⟩, by decide +kernel⟩ ⟨by first | decide | (dsimp only; omega), by first | decide | (dsimp only; omega)⟩ (kr_La hw) rfl hl.1 rfl (lv_room (Nat.le_of_ble_eq_true rfl)) d_Op_workOut_5 ⟨by first | decide | (dsimp only; omega), by first | decide | (dsimp only; omega)⟩) hw.1 (fun _ _ _ _ _ _ h => h.elim) (fun u1 H1 locs1 hp1 hw1 => ?_)
    have hq1 := hp1
    replace hq1 := hq1.symm; subst hq1
    have hw : Sk G A lc s z n0 u u st H1 locs1 := ⟨hw1, hw.2⟩
    refine lv_aload_n hx hb d_Op_workOut_8 rfl (lv_at hl 0 rfl) ?_
    refine kg_O (j := j) 11 (by decide) (by decide) hx hb ht hown hw hj h3 gw_402 rfl (by rw [ndX_O h3]; rfl) d_Op_workOut_9 ?_
    refine kg_N (j := ((q_pt s j 1).getD 0)) 3 (by decide) hx hb ht hown hw hs1 gw_277 (Or.inl rfl) rfl d_Op_workOut_12 ?_
    refine lv_lconst (v := 0) hx hb d_Op_workOut_15 (by decide) ?_
    refine W.lcmp hx hb d_Op_workOut_16 ?_
    refine lv_if_gt (tgt := 30) hx hb d_Op_workOut_17 (by decide) (fun c2 => ?_) (fun c2 => ?_)
    · have hmv : 0 < oM s j := (lg_cmp_gt _ _).mp c2
      refine lv_aload_n hx hb d_Op_workOut_30 rfl (lv_at hl 0 rfl) ?_
      refine kg_O (j := j) 19 (by decide) (by decide) hx hb ht hown hw hj h3 gw_420 rfl (by rw [ndX_O h3]; rfl) d_Op_workOut_31 ?_
      rw [hen]
      refine lv_aload_n hx hb d_Op_workOut_34 rfl (lv_at hl 0 rfl) ?_
      refine lv_aload_n hx hb d_Op_workOut_35 rfl (lv_at hl 0 rfl) ?_
      refine kc_l (kr_V 0 (C := "QuoteGraph$Option") (As := []) (rest := [.ref (lc (8 + j)), .ref (lc 5)]) (c_Op_discount l hl9 G A lc s z u hR j (by rw [hn0]; exact hj) h3) hx hb hml hown ht hw.1 gw_627 gw_629 gw_14 gw_57 gw_630 ⟨⟨by decide, by decide⟩, by decide +kernel⟩ ⟨by first | decide | (dsimp only; omega), by first | decide | (dsimp only; omega)⟩ (by have h := kr_N hw hj; rw [h3] at h; exact h) rfl hl.1 rfl (lv_room (Nat.le_of_ble_eq_true rfl)) d_Op_workOut_36 ⟨by first | decide | (dsimp only; omega), by first | decide | (dsimp only; omega)⟩) hw.1 (fun E ce q9 u1 H1 locs1 hp hw1 hce hcv hcl => ?_) (fun r3 u3 H3 locs3 hp3 hw3 => ?_)
      · obtain ⟨rfl, htk, hq9⟩ := hp
        replace hq9 := hq9.symm; subst hq9
        have e9 : oWork s j = (2, 0) := by unfold oWork; rw [if_neg (by rw [hen]; omega), if_neg (by rw [hen]; omega), if_neg (fun h => h hmv), if_pos htk]
        exact kt_out htab hlocks hw1 hce hcv hcl ⟨by rw [e9]; decide, by rw [e9]; rfl, ⟨z, zK.rf, hw.2.1, by rw [hn0]; exact hw.2.2.1⟩⟩ (by decide) (by decide)
      obtain ⟨er3, ht1, ht2, hq3⟩ := hp3
      replace hq3 := hq3.symm; subst hq3
      have hw : Sk G A lc s z n0 u u st H3 locs3 := ⟨hw3, hw.2⟩
      subst er3
      refine kc_l (kr_U 2 (x := ⟨"QuoteGraph$Engine", "price", "(LQuoteGraph$Option;J)J"⟩) (owner := "QuoteGraph$Engine") (C := "QuoteGraph$Lattice") (As := [.ref (lc (8 + j)), .long (1024 - oTak s j)]) (rest := []) (c_La_price l hl9 G A lc s z u hR j (by rw [hn0]; exact hj) h3 _ (spN s j) hI1 hI2 hI3) hx hb hml hown ht hw.1 gw_633 gw_635 (va_Decl.abs (hw.1.1.2.2.2.2.1 _ (ew_of 634 _ (by decide +kernel) rfl))) gw_636 gw_637 gw_44 gw_638 ⟨⟨by decide, by decide⟩, by decide +kernel⟩ ⟨by first | decide | (dsimp only; omega), by first | decide | (dsimp only; omega)⟩ (kr_La hw) rfl hl.1 rfl (lv_room (Nat.le_of_ble_eq_true rfl)) d_Op_workOut_39 ⟨by first | decide | (dsimp only; omega), by first | decide | (dsimp only; omega)⟩) hw.1 (fun E ce q9 u1 H1 locs1 hp hw1 hce hcv hcl => ?_) (fun r4 u4 H4 locs4 hp4 hw4 => ?_)
      · obtain ⟨rfl, hv9, ⟨g9, hr9⟩, hf9⟩ := hp
        have e8 : oPrice s j (1024 - oTak s j) = none := by unfold oPrice; rw [if_pos hen, latV_ext s j _ _ _ (z_lr z)]; exact hv9
        have e9 : oWork s j = (2, 0) := by unfold oWork; rw [if_neg (by rw [hen]; omega), if_neg (by rw [hen]; omega), if_neg (fun h => h hmv), if_neg (fun h => h.elim ht1 (fun h => by simp only [Int64.le_iff_toInt_le, Int64.lt_iff_toInt_lt] at *; omega))]; rw [e8]
        exact kt_out htab hlocks hw1 hce hcv hcl ⟨by rw [e9]; decide, by rw [e9]; rfl, ⟨zS_lr z g9, ⟨rfl, rfl, rfl⟩, hr9, hf9⟩⟩ (by decide) (by decide)
      obtain ⟨hv9, ⟨g9, hr9⟩, hf9⟩ := hp4
      have e8 : oPrice s j (1024 - oTak s j) = some r4 := by unfold oPrice; rw [if_pos hen, latV_ext s j _ _ _ (z_lr z)]; exact hv9
      exact kt_l hx hb hr hlocks hw4 d_Op_workOut_42 (by exact ⟨by unfold oWork; rw [if_neg (by rw [hen]; omega), if_neg (by rw [hen]; omega), if_neg (fun h => h hmv), if_neg (fun h => h.elim ht1 (fun h => by simp only [Int64.le_iff_toInt_le, Int64.lt_iff_toInt_lt] at *; omega))]; rw [e8], ⟨zS_lr z g9, ⟨rfl, rfl, rfl⟩, hr9, hf9⟩⟩) (by first | decide | (dsimp only; omega)) (by first | decide | (dsimp only; omega))
    · exact kt_throw (own := R_Op) (cls := "java/lang/ArithmeticException") (ik := 58) (is := 60) (ic := 62) 11 hl9 hx hb htab hlocks hml hl.1 ht hown hw.1 (by decide) gw_624 gw_58 rfl at_Op_62 d_Op_workOut_20 d_Op_workOut_23 d_Op_workOut_24 d_Op_workOut_26 d_Op_workOut_29 (by first | decide | (dsimp only; omega)) (Nat.le_of_ble_eq_true rfl) (by first | decide | (dsimp only; omega)) (by first | decide | (dsimp only; omega)) (by have e9 : oWork s j = (2, 0) := (by unfold oWork; rw [if_neg (by rw [hen]; omega), if_neg (by rw [hen]; omega), if_pos (show ¬ 0 < oM s j from fun h => c2 ((lg_cmp_gt _ _).mpr h))]); exact ⟨by rw [e9]; decide, by rw [e9]; rfl, ⟨z, zK.rf, hw.2.1, by rw [hn0]; exact hw.2.2.1⟩⟩) (by first | decide | (dsimp only; omega)) (by first | decide | (dsimp only; omega))
  · refine lv_aload_n hx hb d_Op_workOut_0 rfl (lv_at hl 0 rfl) ?_
    refine kg_O (j := j) 19 (by decide) (by decide) hx hb ht hown hw hj h3 gw_420 rfl (by rw [ndX_O h3]; rfl) d_Op_workOut_1 ?_
    rw [hen]
    refine lv_aload_n hx hb d_Op_workOut_4 rfl (lv_at hl 0 rfl) ?_
    refine kc_v (kr_U 1 (x := ⟨"QuoteGraph$Engine", "checkSuits", "(LQuoteGraph$Option;)V"⟩) (owner := "QuoteGraph$Engine") (C := "QuoteGraph$Paths") (As := [.ref (lc (8 + j))]) (rest := []) (c_Pa_checkSuits l hl9 G A lc s z u hR j (by rw [hn0]; exact hj) h3) hx hb hml hown ht hw.1 gw_593 gw_595 (va_Decl.abs (hw.1.1.2.2.2.2.1 _ (ew_of 594 _ (by decide +kernel) rfl))) gw_605 gw_606 gw_45 gw_607 ⟨⟨by decide, by decide⟩, by decide +kernel⟩ ⟨by first | decide | (dsimp only; omega), by first | decide | (dsimp only; omega)⟩ (kr_Pa hw) rfl hl.1 rfl (lv_room (Nat.le_of_ble_eq_true rfl)) d_Op_workOut_5 ⟨by first | decide | (dsimp only; omega), by first | decide | (dsimp only; omega)⟩) hw.1 (fun E ce q9 u1 H1 locs1 hp hw1 hce hcv hcl => ?_) (fun u5 H5 locs5 hp5 hw5 => ?_)
    · obtain ⟨rfl, hus, hq9⟩ := hp
      replace hq9 := hq9.symm; subst hq9
      have e9 : oWork s j = (3, 0) := by unfold oWork; rw [if_pos ⟨hen, hus⟩]
      exact kt_out htab hlocks hw1 hce hcv hcl ⟨by rw [e9]; decide, by rw [e9]; rfl, ⟨z, zK.rf, hw.2.1, by rw [hn0]; exact hw.2.2.1⟩⟩ (by decide) (by decide)
    obtain ⟨hus, hq5⟩ := hp5
    replace hq5 := hq5.symm; subst hq5
    have hw : Sk G A lc s z n0 u u st H5 locs5 := ⟨hw5, hw.2⟩
    refine lv_aload_n hx hb d_Op_workOut_8 rfl (lv_at hl 0 rfl) ?_
    refine kg_O (j := j) 11 (by decide) (by decide) hx hb ht hown hw hj h3 gw_402 rfl (by rw [ndX_O h3]; rfl) d_Op_workOut_9 ?_
    refine kg_N (j := ((q_pt s j 1).getD 0)) 3 (by decide) hx hb ht hown hw hs1 gw_277 (Or.inl rfl) rfl d_Op_workOut_12 ?_
    refine lv_lconst (v := 0) hx hb d_Op_workOut_15 (by decide) ?_
    refine W.lcmp hx hb d_Op_workOut_16 ?_
    refine lv_if_gt (tgt := 30) hx hb d_Op_workOut_17 (by decide) (fun c6 => ?_) (fun c6 => ?_)
    · have hmv : 0 < oM s j := (lg_cmp_gt _ _).mp c6
      refine lv_aload_n hx hb d_Op_workOut_30 rfl (lv_at hl 0 rfl) ?_
      refine kg_O (j := j) 19 (by decide) (by decide) hx hb ht hown hw hj h3 gw_420 rfl (by rw [ndX_O h3]; rfl) d_Op_workOut_31 ?_
      rw [hen]
      refine lv_aload_n hx hb d_Op_workOut_34 rfl (lv_at hl 0 rfl) ?_
      refine lv_aload_n hx hb d_Op_workOut_35 rfl (lv_at hl 0 rfl) ?_
      refine kc_l (kr_V 0 (C := "QuoteGraph$Option") (As := []) (rest := [.ref (lc (8 + j)), .ref (lc 6)]) (c_Op_discount l hl9 G A lc s z u hR j (by rw [hn0]; exact hj) h3) hx hb hml hown ht hw.1 gw_627 gw_629 gw_14 gw_57 gw_630 ⟨⟨by decide, by decide⟩, by decide +kernel⟩ ⟨by first | decide | (dsimp only; omega), by first | decide | (dsimp only; omega)⟩ (by have h := kr_N hw hj; rw [h3] at h; exact h) rfl hl.1 rfl (lv_room (Nat.le_of_ble_eq_true rfl)) d_Op_workOut_36 ⟨by first | decide | (dsimp only; omega), by first | decide | (dsimp only; omega)⟩) hw.1 (fun E ce q9 u1 H1 locs1 hp hw1 hce hcv hcl => ?_) (fun r7 u7 H7 locs7 hp7 hw7 => ?_)
      · obtain ⟨rfl, htk, hq9⟩ := hp
        replace hq9 := hq9.symm; subst hq9
        have e9 : oWork s j = (2, 0) := by unfold oWork; rw [if_neg (by rw [hus]; simp), if_neg (by rw [hen]; omega), if_neg (fun h => h hmv), if_pos htk]
        exact kt_out htab hlocks hw1 hce hcv hcl ⟨by rw [e9]; decide, by rw [e9]; rfl, ⟨z, zK.rf, hw.2.1, by rw [hn0]; exact hw.2.2.1⟩⟩ (by decide) (by decide)
      obtain ⟨er7, ht1, ht2, hq7⟩ := hp7
      replace hq7 := hq7.symm; subst hq7
      have hw : Sk G A lc s z n0 u u st H7 locs7 := ⟨hw7, hw.2⟩
      subst er7
      refine kc_l (kr_U 2 (x := ⟨"QuoteGraph$Engine", "price", "(LQuoteGraph$Option;J)J"⟩) (owner := "QuoteGraph$Engine") (C := "QuoteGraph$Paths") (As := [.ref (lc (8 + j)), .long (1024 - oTak s j)]) (rest := []) (c_Pa_price l hl9 G A lc s z u hR j (by rw [hn0]; exact hj) h3 _ (szN s j) (spN s j) hI4 (hI5 hen) hI1 hI3) hx hb hml hown ht hw.1 gw_633 gw_635 (va_Decl.abs (hw.1.1.2.2.2.2.1 _ (ew_of 634 _ (by decide +kernel) rfl))) gw_679 gw_680 gw_45 gw_681 ⟨⟨by decide, by decide⟩, by decide +kernel⟩ ⟨by first | decide | (dsimp only; omega), by first | decide | (dsimp only; omega)⟩ (kr_Pa hw) rfl hl.1 rfl (lv_room (Nat.le_of_ble_eq_true rfl)) d_Op_workOut_39 ⟨by first | decide | (dsimp only; omega), by first | decide | (dsimp only; omega)⟩) hw.1 (fun E ce q9 u1 H1 locs1 hp hw1 hce hcv hcl => ?_) (fun r8 u8 H8 locs8 hp8 hw8 => ?_)
      · obtain ⟨rfl, hv9, ⟨g9, hr9⟩, hf9⟩ := hp
        have e8 : oPrice s j (1024 - oTak s j) = none := by unfold oPrice; rw [if_neg (by omega), if_pos hen]; exact hv9
        have e9 : oWork s j = (2, 0) := by unfold oWork; rw [if_neg (by rw [hus]; simp), if_neg (by rw [hen]; omega), if_neg (fun h => h hmv), if_neg (fun h => h.elim ht1 (fun h => by simp only [Int64.le_iff_toInt_le, Int64.lt_iff_toInt_lt] at *; omega))]; rw [e8]
        exact kt_out htab hlocks hw1 hce hcv hcl ⟨by rw [e9]; decide, by rw [e9]; rfl, ⟨zS_dw z g9, ⟨rfl, rfl, rfl⟩, hr9, hf9⟩⟩ (by decide) (by decide)
      obtain ⟨hv9, ⟨g9, hr9⟩, hf9⟩ := hp8
      have e8 : oPrice s j (1024 - oTak s j) = some r8 := by unfold oPrice; rw [if_neg (by omega), if_pos hen]; exact hv9
      exact kt_l hx hb hr hlocks hw8 d_Op_workOut_42 (by exact ⟨by unfold oWork; rw [if_neg (by rw [hus]; simp), if_neg (by rw [hen]; omega), if_neg (fun h => h hmv), if_neg (fun h => h.elim ht1 (fun h => by simp only [Int64.le_iff_toInt_le, Int64.lt_iff_toInt_lt] at *; omega))]; rw [e8], ⟨zS_dw z g9, ⟨rfl, rfl, rfl⟩, hr9, hf9⟩⟩) (by first | decide | (dsimp only; omega)) (by first | decide | (dsimp only; omega))
    · exact kt_throw (own := R_Op) (cls := "java/lang/ArithmeticException") (ik := 58) (is := 60) (ic := 62) 11 hl9 hx hb htab hlocks hml hl.1 ht hown hw.1 (by decide) gw_624 gw_58 rfl at_Op_62 d_Op_workOut_20 d_Op_workOut_23 d_Op_workOut_24 d_Op_workOut_26 d_Op_workOut_29 (by first | decide | (dsimp only; omega)) (Nat.le_of_ble_eq_true rfl) (by first | decide | (dsimp only; omega)) (by first | decide | (dsimp only; omega)) (by have e9 : oWork s j = (2, 0) := (by unfold oWork; rw [if_neg (by rw [hus]; simp), if_neg (by rw [hen]; omega), if_pos (show ¬ 0 < oM s j from fun h => c6 ((lg_cmp_gt _ _).mpr h))]); exact ⟨by rw [e9]; decide, by rw [e9]; rfl, ⟨z, zK.rf, hw.2.1, by rw [hn0]; exact hw.2.2.1⟩⟩) (by first | decide | (dsimp only; omega)) (by first | decide | (dsimp only; omega))
  · refine lv_aload_n hx hb d_Op_workOut_0 rfl (lv_at hl 0 rfl) ?_
    refine kg_O (j := j) 19 (by decide) (by decide) hx hb ht hown hw hj h3 gw_420 rfl (by rw [ndX_O h3]; rfl) d_Op_workOut_1 ?_
    rw [hen]
    refine lv_aload_n hx hb d_Op_workOut_4 rfl (lv_at hl 0 rfl) ?_
    refine kc_v (kr_U 1 (x := ⟨"QuoteGraph$Engine", "checkSuits", "(LQuoteGraph$Option;)V"⟩) (owner := "QuoteGraph$Engine") (C := "QuoteGraph$Net") (As := [.ref (lc (8 + j))]) (rest := []) (c_Ne_checkSuits l hl9 G A lc s z u hR j (by rw [hn0]; exact hj) h3) hx hb hml hown ht hw.1 gw_593 gw_595 (va_Decl.abs (hw.1.1.2.2.2.2.1 _ (ew_of 594 _ (by decide +kernel) rfl))) gw_599 gw_600 gw_46 gw_601 ⟨⟨by decide, by decide⟩, by decide +kernel⟩ ⟨by first | decide | (dsimp only; omega), by first | decide | (dsimp only; omega)⟩ (kr_Ne hw) rfl hl.1 rfl (lv_room (Nat.le_of_ble_eq_true rfl)) d_Op_workOut_5 ⟨by first | decide | (dsimp only; omega), by first | decide | (dsimp only; omega)⟩) hw.1 (fun E ce q9 u1 H1 locs1 hp hw1 hce hcv hcl => ?_) (fun u9 H9 locs9 hp9 hw9 => ?_)
    · obtain ⟨rfl, hch, hq9⟩ := hp
      replace hq9 := hq9.symm; subst hq9
      have e9 : oWork s j = (2, 0) := by unfold oWork; rw [if_neg (by rw [hen]; omega), if_pos ⟨hen, hch⟩]
      exact kt_out htab hlocks hw1 hce hcv hcl ⟨by rw [e9]; decide, by rw [e9]; rfl, ⟨z, zK.rf, hw.2.1, by rw [hn0]; exact hw.2.2.1⟩⟩ (by decide) (by decide)
    obtain ⟨hch, hq9⟩ := hp9
    replace hq9 := hq9.symm; subst hq9
    have hw : Sk G A lc s z n0 u u st H9 locs9 := ⟨hw9, hw.2⟩
    refine lv_aload_n hx hb d_Op_workOut_8 rfl (lv_at hl 0 rfl) ?_
    refine kg_O (j := j) 11 (by decide) (by decide) hx hb ht hown hw hj h3 gw_402 rfl (by rw [ndX_O h3]; rfl) d_Op_workOut_9 ?_
    refine kg_N (j := ((q_pt s j 1).getD 0)) 3 (by decide) hx hb ht hown hw hs1 gw_277 (Or.inl rfl) rfl d_Op_workOut_12 ?_
    refine lv_lconst (v := 0) hx hb d_Op_workOut_15 (by decide) ?_
    refine W.lcmp hx hb d_Op_workOut_16 ?_
    refine lv_if_gt (tgt := 30) hx hb d_Op_workOut_17 (by decide) (fun c10 => ?_) (fun c10 => ?_)
    · have hmv : 0 < oM s j := (lg_cmp_gt _ _).mp c10
      refine lv_aload_n hx hb d_Op_workOut_30 rfl (lv_at hl 0 rfl) ?_
      refine kg_O (j := j) 19 (by decide) (by decide) hx hb ht hown hw hj h3 gw_420 rfl (by rw [ndX_O h3]; rfl) d_Op_workOut_31 ?_
      rw [hen]
      refine lv_aload_n hx hb d_Op_workOut_34 rfl (lv_at hl 0 rfl) ?_
      refine lv_aload_n hx hb d_Op_workOut_35 rfl (lv_at hl 0 rfl) ?_
      refine kc_l (kr_V 0 (C := "QuoteGraph$Option") (As := []) (rest := [.ref (lc (8 + j)), .ref (lc 7)]) (c_Op_discount l hl9 G A lc s z u hR j (by rw [hn0]; exact hj) h3) hx hb hml hown ht hw.1 gw_627 gw_629 gw_14 gw_57 gw_630 ⟨⟨by decide, by decide⟩, by decide +kernel⟩ ⟨by first | decide | (dsimp only; omega), by first | decide | (dsimp only; omega)⟩ (by have h := kr_N hw hj; rw [h3] at h; exact h) rfl hl.1 rfl (lv_room (Nat.le_of_ble_eq_true rfl)) d_Op_workOut_36 ⟨by first | decide | (dsimp only; omega), by first | decide | (dsimp only; omega)⟩) hw.1 (fun E ce q9 u1 H1 locs1 hp hw1 hce hcv hcl => ?_) (fun r11 u11 H11 locs11 hp11 hw11 => ?_)
      · obtain ⟨rfl, htk, hq9⟩ := hp
        replace hq9 := hq9.symm; subst hq9
        have e9 : oWork s j = (2, 0) := by unfold oWork; rw [if_neg (by rw [hen]; omega), if_neg (fun h => h.2 hch), if_neg (fun h => h hmv), if_pos htk]
        exact kt_out htab hlocks hw1 hce hcv hcl ⟨by rw [e9]; decide, by rw [e9]; rfl, ⟨z, zK.rf, hw.2.1, by rw [hn0]; exact hw.2.2.1⟩⟩ (by decide) (by decide)
      obtain ⟨er11, ht1, ht2, hq11⟩ := hp11
      replace hq11 := hq11.symm; subst hq11
      have hw : Sk G A lc s z n0 u u st H11 locs11 := ⟨hw11, hw.2⟩
      subst er11
      refine kc_l (kr_U 2 (x := ⟨"QuoteGraph$Engine", "price", "(LQuoteGraph$Option;J)J"⟩) (owner := "QuoteGraph$Engine") (C := "QuoteGraph$Net") (As := [.ref (lc (8 + j)), .long (1024 - oTak s j)]) (rest := []) (c_Ne_price l hl9 G A lc s z u hR j (by rw [hn0]; exact hj) h3 _ (szN s j) (spN s j) hI4 (hI6 hen).1 (hI6 hen).2 hI1 hI3) hx hb hml hown ht hw.1 gw_633 gw_635 (va_Decl.abs (hw.1.1.2.2.2.2.1 _ (ew_of 634 _ (by decide +kernel) rfl))) gw_666 gw_667 gw_46 gw_668 ⟨⟨by decide, by decide⟩, by decide +kernel⟩ ⟨by first | decide | (dsimp only; omega), by first | decide | (dsimp only; omega)⟩ (kr_Ne hw) rfl hl.1 rfl (lv_room (Nat.le_of_ble_eq_true rfl)) d_Op_workOut_39 ⟨by first | decide | (dsimp only; omega), by first | decide | (dsimp only; omega)⟩) hw.1 (fun E ce q9 u1 H1 locs1 hp hw1 hce hcv hcl => ?_) (fun r12 u12 H12 locs12 hp12 hw12 => ?_)
      · obtain ⟨rfl, hv9, ⟨g9, hr9⟩, hf9⟩ := hp
        have e8 : oPrice s j (1024 - oTak s j) = none := by unfold oPrice; rw [if_neg (by omega), if_neg (by omega), netV_ext s j _ _ _ (hI6 hen).1 _ (z_nr z)]; exact hv9
        have e9 : oWork s j = (2, 0) := by unfold oWork; rw [if_neg (by rw [hen]; omega), if_neg (fun h => h.2 hch), if_neg (fun h => h hmv), if_neg (fun h => h.elim ht1 (fun h => by simp only [Int64.le_iff_toInt_le, Int64.lt_iff_toInt_lt] at *; omega))]; rw [e8]
        exact kt_out htab hlocks hw1 hce hcv hcl ⟨by rw [e9]; decide, by rw [e9]; rfl, ⟨zS_nr z g9, ⟨rfl, rfl, rfl⟩, hr9, hf9⟩⟩ (by decide) (by decide)
      obtain ⟨hv9, ⟨g9, hr9⟩, hf9⟩ := hp12
      have e8 : oPrice s j (1024 - oTak s j) = some r12 := by unfold oPrice; rw [if_neg (by omega), if_neg (by omega), netV_ext s j _ _ _ (hI6 hen).1 _ (z_nr z)]; exact hv9
      exact kt_l hx hb hr hlocks hw12 d_Op_workOut_42 (by exact ⟨by unfold oWork; rw [if_neg (by rw [hen]; omega), if_neg (fun h => h.2 hch), if_neg (fun h => h hmv), if_neg (fun h => h.elim ht1 (fun h => by simp only [Int64.le_iff_toInt_le, Int64.lt_iff_toInt_lt] at *; omega))]; rw [e8], ⟨zS_nr z g9, ⟨rfl, rfl, rfl⟩, hr9, hf9⟩⟩) (by first | decide | (dsimp only; omega)) (by first | decide | (dsimp only; omega))
    · exact kt_throw (own := R_Op) (cls := "java/lang/ArithmeticException") (ik := 58) (is := 60) (ic := 62) 11 hl9 hx hb htab hlocks hml hl.1 ht hown hw.1 (by decide) gw_624 gw_58 rfl at_Op_62 d_Op_workOut_20 d_Op_workOut_23 d_Op_workOut_24 d_Op_workOut_26 d_Op_workOut_29 (by first | decide | (dsimp only; omega)) (Nat.le_of_ble_eq_true rfl) (by first | decide | (dsimp only; omega)) (by first | decide | (dsimp only; omega)) (by have e9 : oWork s j = (2, 0) := (by unfold oWork; rw [if_neg (by rw [hen]; omega), if_neg (fun h => h.2 hch), if_pos (show ¬ 0 < oM s j from fun h => c10 ((lg_cmp_gt _ _).mpr h))]); exact ⟨by rw [e9]; decide, by rw [e9]; rfl, ⟨z, zK.rf, hw.2.1, by rw [hn0]; exact hw.2.2.1⟩⟩) (by first | decide | (dsimp only; omega)) (by first | decide | (dsimp only; omega))
end
