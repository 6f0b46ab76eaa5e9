-- ===== PART A: goes FIRST, ahead of the names: the tables' words, and 'selects' of the private methods out of them =====
/-- a private method of a class that the tables say can be made, by its rows of tables_1 -/
def lw_okq (q : MethodName × Nat) : Prop := (q.1.cls ≠ "java/lang/invoke/MethodHandle" ∧ q.1.cls ≠ "java/lang/invoke/VarHandle") ∧ Cond.instantiable q.1.cls q.2 ∈ tables_1 ∧ Cond.privateMethod q.1 ∈ tables_1 ∧ Cond.instanceMethod q.1 ∈ tables_1
theorem lw_p0 : lw_okq (⟨"PaymentHub$Text", "readNext", "()Z"⟩, 4) := ⟨⟨by decide +kernel, by decide +kernel⟩, List.mem_of_getElem? (i := 66) (by decide +kernel), List.mem_of_getElem? (i := 340) (by decide +kernel), List.mem_of_getElem? (i := 341) (by decide +kernel)⟩
theorem lw_p1 : lw_okq (⟨"PaymentHub$Text", "peek", "(I)I"⟩, 4) := ⟨⟨by decide +kernel, by decide +kernel⟩, List.mem_of_getElem? (i := 66) (by decide +kernel), List.mem_of_getElem? (i := 344) (by decide +kernel), List.mem_of_getElem? (i := 345) (by decide +kernel)⟩
theorem lw_p2 : lw_okq (⟨"PaymentHub$Text", "readSign", "()Z"⟩, 4) := ⟨⟨by decide +kernel, by decide +kernel⟩, List.mem_of_getElem? (i := 66) (by decide +kernel), List.mem_of_getElem? (i := 348) (by decide +kernel), List.mem_of_getElem? (i := 349) (by decide +kernel)⟩
theorem lw_p3 : lw_okq (⟨"PaymentHub$Text", "readComment", "()Z"⟩, 4) := ⟨⟨by decide +kernel, by decide +kernel⟩, List.mem_of_getElem? (i := 66) (by decide +kernel), List.mem_of_getElem? (i := 352) (by decide +kernel), List.mem_of_getElem? (i := 353) (by decide +kernel)⟩
theorem lw_p4 : lw_okq (⟨"PaymentHub$Text", "readEnd", "()Z"⟩, 4) := ⟨⟨by decide +kernel, by decide +kernel⟩, List.mem_of_getElem? (i := 66) (by decide +kernel), List.mem_of_getElem? (i := 356) (by decide +kernel), List.mem_of_getElem? (i := 357) (by decide +kernel)⟩
theorem lw_p5 : lw_okq (⟨"PaymentHub$Tree", "innermost", "()I"⟩, 10) := ⟨⟨by decide +kernel, by decide +kernel⟩, List.mem_of_getElem? (i := 27) (by decide +kernel), List.mem_of_getElem? (i := 364) (by decide +kernel), List.mem_of_getElem? (i := 365) (by decide +kernel)⟩
theorem lw_p6 : lw_okq (⟨"PaymentHub$Tree", "has", "(I)Z"⟩, 10) := ⟨⟨by decide +kernel, by decide +kernel⟩, List.mem_of_getElem? (i := 27) (by decide +kernel), List.mem_of_getElem? (i := 368) (by decide +kernel), List.mem_of_getElem? (i := 369) (by decide +kernel)⟩
theorem lw_p7 : lw_okq (⟨"PaymentHub$Text", "skipBlanks", "()V"⟩, 4) := ⟨⟨by decide +kernel, by decide +kernel⟩, List.mem_of_getElem? (i := 66) (by decide +kernel), List.mem_of_getElem? (i := 372) (by decide +kernel), List.mem_of_getElem? (i := 373) (by decide +kernel)⟩
theorem lw_p8 : lw_okq (⟨"PaymentHub$Text", "readClosingSign", "()Z"⟩, 4) := ⟨⟨by decide +kernel, by decide +kernel⟩, List.mem_of_getElem? (i := 66) (by decide +kernel), List.mem_of_getElem? (i := 376) (by decide +kernel), List.mem_of_getElem? (i := 377) (by decide +kernel)⟩
theorem lw_p9 : lw_okq (⟨"PaymentHub$Text", "readBegin", "()Z"⟩, 4) := ⟨⟨by decide +kernel, by decide +kernel⟩, List.mem_of_getElem? (i := 66) (by decide +kernel), List.mem_of_getElem? (i := 380) (by decide +kernel), List.mem_of_getElem? (i := 381) (by decide +kernel)⟩
theorem lw_p10 : lw_okq (⟨"PaymentHub$Text", "readReference", "()Z"⟩, 4) := ⟨⟨by decide +kernel, by decide +kernel⟩, List.mem_of_getElem? (i := 66) (by decide +kernel), List.mem_of_getElem? (i := 391) (by decide +kernel), List.mem_of_getElem? (i := 392) (by decide +kernel)⟩
theorem lw_p11 : lw_okq (⟨"PaymentHub$Message", "takeRow", "(ILjava/lang/String;I)Z"⟩, 5) := ⟨⟨by decide +kernel, by decide +kernel⟩, List.mem_of_getElem? (i := 85) (by decide +kernel), List.mem_of_getElem? (i := 433) (by decide +kernel), List.mem_of_getElem? (i := 434) (by decide +kernel)⟩
theorem lw_p12 : lw_okq (⟨"PaymentHub$Value", "trim", "(II)V"⟩, 3) := ⟨⟨by decide +kernel, by decide +kernel⟩, List.mem_of_getElem? (i := 91) (by decide +kernel), List.mem_of_getElem? (i := 509) (by decide +kernel), List.mem_of_getElem? (i := 510) (by decide +kernel)⟩
theorem lw_p13 : lw_okq (⟨"PaymentHub$Value", "name", "()I"⟩, 3) := ⟨⟨by decide +kernel, by decide +kernel⟩, List.mem_of_getElem? (i := 91) (by decide +kernel), List.mem_of_getElem? (i := 518) (by decide +kernel), List.mem_of_getElem? (i := 519) (by decide +kernel)⟩
theorem lw_p14 : lw_okq (⟨"PaymentHub$Value", "digits", "(III)I"⟩, 3) := ⟨⟨by decide +kernel, by decide +kernel⟩, List.mem_of_getElem? (i := 91) (by decide +kernel), List.mem_of_getElem? (i := 523) (by decide +kernel), List.mem_of_getElem? (i := 524) (by decide +kernel)⟩
theorem lw_p15 : lw_okq (⟨"PaymentHub$Value", "accountNumber", "()I"⟩, 3) := ⟨⟨by decide +kernel, by decide +kernel⟩, List.mem_of_getElem? (i := 91) (by decide +kernel), List.mem_of_getElem? (i := 527) (by decide +kernel), List.mem_of_getElem? (i := 528) (by decide +kernel)⟩
def lw_privs_1 : List (MethodName × Nat) := [(⟨"PaymentHub$Text", "readNext", "()Z"⟩, 4), (⟨"PaymentHub$Text", "peek", "(I)I"⟩, 4), (⟨"PaymentHub$Text", "readSign", "()Z"⟩, 4), (⟨"PaymentHub$Text", "readComment", "()Z"⟩, 4), (⟨"PaymentHub$Text", "readEnd", "()Z"⟩, 4), (⟨"PaymentHub$Tree", "innermost", "()I"⟩, 10), (⟨"PaymentHub$Tree", "has", "(I)Z"⟩, 10), (⟨"PaymentHub$Text", "skipBlanks", "()V"⟩, 4), (⟨"PaymentHub$Text", "readClosingSign", "()Z"⟩, 4), (⟨"PaymentHub$Text", "readBegin", "()Z"⟩, 4), (⟨"PaymentHub$Text", "readReference", "()Z"⟩, 4), (⟨"PaymentHub$Message", "takeRow", "(ILjava/lang/String;I)Z"⟩, 5), (⟨"PaymentHub$Value", "trim", "(II)V"⟩, 3), (⟨"PaymentHub$Value", "name", "()I"⟩, 3), (⟨"PaymentHub$Value", "digits", "(III)I"⟩, 3), (⟨"PaymentHub$Value", "accountNumber", "()I"⟩, 3)]
theorem lw_r1 : ∀ q ∈ lw_privs_1, lw_okq q := List.forall_mem_cons.mpr ⟨lw_p0, List.forall_mem_cons.mpr ⟨lw_p1, List.forall_mem_cons.mpr ⟨lw_p2, List.forall_mem_cons.mpr ⟨lw_p3, List.forall_mem_cons.mpr ⟨lw_p4, List.forall_mem_cons.mpr ⟨lw_p5, List.forall_mem_cons.mpr ⟨lw_p6, List.forall_mem_cons.mpr ⟨lw_p7, List.forall_mem_cons.mpr ⟨lw_p8, List.forall_mem_cons.mpr ⟨lw_p9, List.forall_mem_cons.mpr ⟨lw_p10, List.forall_mem_cons.mpr ⟨lw_p11, List.forall_mem_cons.mpr ⟨lw_p12, List.forall_mem_cons.mpr ⟨lw_p13, List.forall_mem_cons.mpr ⟨lw_p14, List.forall_mem_cons.mpr ⟨lw_p15, fun _ h => absurd h List.not_mem_nil⟩⟩⟩⟩⟩⟩⟩⟩⟩⟩⟩⟩⟩⟩⟩⟩
theorem lw_p16 : lw_okq (⟨"PaymentHub$Value", "verdict", "()I"⟩, 3) := ⟨⟨by decide +kernel, by decide +kernel⟩, List.mem_of_getElem? (i := 91) (by decide +kernel), List.mem_of_getElem? (i := 531) (by decide +kernel), List.mem_of_getElem? (i := 532) (by decide +kernel)⟩
theorem lw_p17 : lw_okq (⟨"PaymentHub$Value", "amount", "()I"⟩, 3) := ⟨⟨by decide +kernel, by decide +kernel⟩, List.mem_of_getElem? (i := 91) (by decide +kernel), List.mem_of_getElem? (i := 535) (by decide +kernel), List.mem_of_getElem? (i := 536) (by decide +kernel)⟩
theorem lw_p18 : lw_okq (⟨"PaymentHub", "ruleBroken", "()I"⟩, 6) := ⟨⟨by decide +kernel, by decide +kernel⟩, List.mem_of_getElem? (i := 19) (by decide +kernel), List.mem_of_getElem? (i := 544) (by decide +kernel), List.mem_of_getElem? (i := 545) (by decide +kernel)⟩
theorem lw_p19 : lw_okq (⟨"PaymentHub", "ruleBrokenByPayment", "()I"⟩, 6) := ⟨⟨by decide +kernel, by decide +kernel⟩, List.mem_of_getElem? (i := 19) (by decide +kernel), List.mem_of_getElem? (i := 564) (by decide +kernel), List.mem_of_getElem? (i := 565) (by decide +kernel)⟩
theorem lw_p20 : lw_okq (⟨"PaymentHub", "ruleBrokenByFollower", "(I)I"⟩, 6) := ⟨⟨by decide +kernel, by decide +kernel⟩, List.mem_of_getElem? (i := 19) (by decide +kernel), List.mem_of_getElem? (i := 633) (by decide +kernel), List.mem_of_getElem? (i := 634) (by decide +kernel)⟩
theorem lw_p21 : lw_okq (⟨"PaymentHub", "ruleBrokenByReturn", "()I"⟩, 6) := ⟨⟨by decide +kernel, by decide +kernel⟩, List.mem_of_getElem? (i := 19) (by decide +kernel), List.mem_of_getElem? (i := 650) (by decide +kernel), List.mem_of_getElem? (i := 651) (by decide +kernel)⟩
theorem lw_p22 : lw_okq (⟨"PaymentHub$Accounts", "has", "(I)Z"⟩, 5) := ⟨⟨by decide +kernel, by decide +kernel⟩, List.mem_of_getElem? (i := 184) (by decide +kernel), List.mem_of_getElem? (i := 674) (by decide +kernel), List.mem_of_getElem? (i := 675) (by decide +kernel)⟩
theorem lw_p23 : lw_okq (⟨"PaymentHub$Form", "addRow", "(LPaymentHub$Message;ILjava/lang/String;)V"⟩, 1) := ⟨⟨by decide +kernel, by decide +kernel⟩, List.mem_of_getElem? (i := 158) (by decide +kernel), List.mem_of_getElem? (i := 696) (by decide +kernel), List.mem_of_getElem? (i := 697) (by decide +kernel)⟩
theorem lw_p24 : lw_okq (⟨"PaymentHub$Form", "addBegin", "(I)V"⟩, 1) := ⟨⟨by decide +kernel, by decide +kernel⟩, List.mem_of_getElem? (i := 158) (by decide +kernel), List.mem_of_getElem? (i := 702) (by decide +kernel), List.mem_of_getElem? (i := 703) (by decide +kernel)⟩
theorem lw_p25 : lw_okq (⟨"PaymentHub$Form", "addValue", "(II)V"⟩, 1) := ⟨⟨by decide +kernel, by decide +kernel⟩, List.mem_of_getElem? (i := 158) (by decide +kernel), List.mem_of_getElem? (i := 708) (by decide +kernel), List.mem_of_getElem? (i := 709) (by decide +kernel)⟩
theorem lw_p26 : lw_okq (⟨"PaymentHub$Form", "addNumber", "(I)V"⟩, 1) := ⟨⟨by decide +kernel, by decide +kernel⟩, List.mem_of_getElem? (i := 158) (by decide +kernel), List.mem_of_getElem? (i := 712) (by decide +kernel), List.mem_of_getElem? (i := 713) (by decide +kernel)⟩
theorem lw_p27 : lw_okq (⟨"PaymentHub$Form", "addTwoDigits", "(I)V"⟩, 1) := ⟨⟨by decide +kernel, by decide +kernel⟩, List.mem_of_getElem? (i := 158) (by decide +kernel), List.mem_of_getElem? (i := 718) (by decide +kernel), List.mem_of_getElem? (i := 719) (by decide +kernel)⟩
theorem lw_p28 : lw_okq (⟨"PaymentHub$Form", "addName", "(I)V"⟩, 1) := ⟨⟨by decide +kernel, by decide +kernel⟩, List.mem_of_getElem? (i := 158) (by decide +kernel), List.mem_of_getElem? (i := 722) (by decide +kernel), List.mem_of_getElem? (i := 723) (by decide +kernel)⟩
theorem lw_p29 : lw_okq (⟨"PaymentHub$Form", "addEnd", "(I)V"⟩, 1) := ⟨⟨by decide +kernel, by decide +kernel⟩, List.mem_of_getElem? (i := 158) (by decide +kernel), List.mem_of_getElem? (i := 726) (by decide +kernel), List.mem_of_getElem? (i := 727) (by decide +kernel)⟩
theorem lw_p30 : lw_okq (⟨"PaymentHub$Records", "check", "()I"⟩, 9) := ⟨⟨by decide +kernel, by decide +kernel⟩, List.mem_of_getElem? (i := 123) (by decide +kernel), List.mem_of_getElem? (i := 737) (by decide +kernel), List.mem_of_getElem? (i := 738) (by decide +kernel)⟩
theorem lw_p31 : lw_okq (⟨"PaymentHub$Records", "append", "(I)V"⟩, 9) := ⟨⟨by decide +kernel, by decide +kernel⟩, List.mem_of_getElem? (i := 123) (by decide +kernel), List.mem_of_getElem? (i := 742) (by decide +kernel), List.mem_of_getElem? (i := 743) (by decide +kernel)⟩
def lw_privs_2 : List (MethodName × Nat) := [(⟨"PaymentHub$Value", "verdict", "()I"⟩, 3), (⟨"PaymentHub$Value", "amount", "()I"⟩, 3), (⟨"PaymentHub", "ruleBroken", "()I"⟩, 6), (⟨"PaymentHub", "ruleBrokenByPayment", "()I"⟩, 6), (⟨"PaymentHub", "ruleBrokenByFollower", "(I)I"⟩, 6), (⟨"PaymentHub", "ruleBrokenByReturn", "()I"⟩, 6), (⟨"PaymentHub$Accounts", "has", "(I)Z"⟩, 5), (⟨"PaymentHub$Form", "addRow", "(LPaymentHub$Message;ILjava/lang/String;)V"⟩, 1), (⟨"PaymentHub$Form", "addBegin", "(I)V"⟩, 1), (⟨"PaymentHub$Form", "addValue", "(II)V"⟩, 1), (⟨"PaymentHub$Form", "addNumber", "(I)V"⟩, 1), (⟨"PaymentHub$Form", "addTwoDigits", "(I)V"⟩, 1), (⟨"PaymentHub$Form", "addName", "(I)V"⟩, 1), (⟨"PaymentHub$Form", "addEnd", "(I)V"⟩, 1), (⟨"PaymentHub$Records", "check", "()I"⟩, 9), (⟨"PaymentHub$Records", "append", "(I)V"⟩, 9)]
theorem lw_r2 : ∀ q ∈ lw_privs_2, lw_okq q := List.forall_mem_cons.mpr ⟨lw_p16, List.forall_mem_cons.mpr ⟨lw_p17, List.forall_mem_cons.mpr ⟨lw_p18, List.forall_mem_cons.mpr ⟨lw_p19, List.forall_mem_cons.mpr ⟨lw_p20, List.forall_mem_cons.mpr ⟨lw_p21, List.forall_mem_cons.mpr ⟨lw_p22, List.forall_mem_cons.mpr ⟨lw_p23, List.forall_mem_cons.mpr ⟨lw_p24, List.forall_mem_cons.mpr ⟨lw_p25, List.forall_mem_cons.mpr ⟨lw_p26, List.forall_mem_cons.mpr ⟨lw_p27, List.forall_mem_cons.mpr ⟨lw_p28, List.forall_mem_cons.mpr ⟨lw_p29, List.forall_mem_cons.mpr ⟨lw_p30, List.forall_mem_cons.mpr ⟨lw_p31, fun _ h => absurd h List.not_mem_nil⟩⟩⟩⟩⟩⟩⟩⟩⟩⟩⟩⟩⟩⟩⟩⟩
theorem lw_p32 : lw_okq (⟨"PaymentHub$Ledger", "receive", "(LPaymentHub$Message;)V"⟩, 5) := ⟨⟨by decide +kernel, by decide +kernel⟩, List.mem_of_getElem? (i := 168) (by decide +kernel), List.mem_of_getElem? (i := 752) (by decide +kernel), List.mem_of_getElem? (i := 753) (by decide +kernel)⟩
theorem lw_p33 : lw_okq (⟨"PaymentHub$Transactions", "enqueue", "(I)V"⟩, 9) := ⟨⟨by decide +kernel, by decide +kernel⟩, List.mem_of_getElem? (i := 208) (by decide +kernel), List.mem_of_getElem? (i := 764) (by decide +kernel), List.mem_of_getElem? (i := 765) (by decide +kernel)⟩
theorem lw_p34 : lw_okq (⟨"PaymentHub$Ledger", "answer", "(II)V"⟩, 5) := ⟨⟨by decide +kernel, by decide +kernel⟩, List.mem_of_getElem? (i := 168) (by decide +kernel), List.mem_of_getElem? (i := 773) (by decide +kernel), List.mem_of_getElem? (i := 774) (by decide +kernel)⟩
theorem lw_p35 : lw_okq (⟨"PaymentHub$Ledger", "settle", "(I)V"⟩, 5) := ⟨⟨by decide +kernel, by decide +kernel⟩, List.mem_of_getElem? (i := 168) (by decide +kernel), List.mem_of_getElem? (i := 777) (by decide +kernel), List.mem_of_getElem? (i := 778) (by decide +kernel)⟩
theorem lw_p36 : lw_okq (⟨"PaymentHub$Ledger", "end", "(II)V"⟩, 5) := ⟨⟨by decide +kernel, by decide +kernel⟩, List.mem_of_getElem? (i := 168) (by decide +kernel), List.mem_of_getElem? (i := 795) (by decide +kernel), List.mem_of_getElem? (i := 796) (by decide +kernel)⟩
theorem lw_p37 : lw_okq (⟨"PaymentHub$Ledger", "giveBack", "(II)V"⟩, 5) := ⟨⟨by decide +kernel, by decide +kernel⟩, List.mem_of_getElem? (i := 168) (by decide +kernel), List.mem_of_getElem? (i := 816) (by decide +kernel), List.mem_of_getElem? (i := 817) (by decide +kernel)⟩
theorem lw_p38 : lw_okq (⟨"PaymentHub", "hold", "(I)I"⟩, 6) := ⟨⟨by decide +kernel, by decide +kernel⟩, List.mem_of_getElem? (i := 19) (by decide +kernel), List.mem_of_getElem? (i := 837) (by decide +kernel), List.mem_of_getElem? (i := 838) (by decide +kernel)⟩
theorem lw_p39 : lw_okq (⟨"PaymentHub", "letWait", "(I)I"⟩, 6) := ⟨⟨by decide +kernel, by decide +kernel⟩, List.mem_of_getElem? (i := 19) (by decide +kernel), List.mem_of_getElem? (i := 856) (by decide +kernel), List.mem_of_getElem? (i := 857) (by decide +kernel)⟩
theorem lw_p40 : lw_okq (⟨"PaymentHubModel", "replay", "()I"⟩, 57) := ⟨⟨by decide +kernel, by decide +kernel⟩, List.mem_of_getElem? (i := 988) (by decide +kernel), List.mem_of_getElem? (i := 995) (by decide +kernel), List.mem_of_getElem? (i := 996) (by decide +kernel)⟩
theorem lw_p41 : lw_okq (⟨"PaymentHubModel", "doRecord", "(I)V"⟩, 57) := ⟨⟨by decide +kernel, by decide +kernel⟩, List.mem_of_getElem? (i := 988) (by decide +kernel), List.mem_of_getElem? (i := 999) (by decide +kernel), List.mem_of_getElem? (i := 1000) (by decide +kernel)⟩
theorem lw_p42 : lw_okq (⟨"PaymentHubModel", "doMessage", "(I)V"⟩, 57) := ⟨⟨by decide +kernel, by decide +kernel⟩, List.mem_of_getElem? (i := 988) (by decide +kernel), List.mem_of_getElem? (i := 1003) (by decide +kernel), List.mem_of_getElem? (i := 1004) (by decide +kernel)⟩
theorem lw_p43 : lw_okq (⟨"PaymentHubModel", "next", "(IC)I"⟩, 57) := ⟨⟨by decide +kernel, by decide +kernel⟩, List.mem_of_getElem? (i := 988) (by decide +kernel), List.mem_of_getElem? (i := 1007) (by decide +kernel), List.mem_of_getElem? (i := 1008) (by decide +kernel)⟩
theorem lw_p44 : lw_okq (⟨"PaymentHubModel", "isTag", "(IC)Z"⟩, 57) := ⟨⟨by decide +kernel, by decide +kernel⟩, List.mem_of_getElem? (i := 988) (by decide +kernel), List.mem_of_getElem? (i := 1011) (by decide +kernel), List.mem_of_getElem? (i := 1012) (by decide +kernel)⟩
theorem lw_p45 : lw_okq (⟨"PaymentHubModel", "nameAt", "(I)I"⟩, 57) := ⟨⟨by decide +kernel, by decide +kernel⟩, List.mem_of_getElem? (i := 988) (by decide +kernel), List.mem_of_getElem? (i := 1015) (by decide +kernel), List.mem_of_getElem? (i := 1016) (by decide +kernel)⟩
theorem lw_p46 : lw_okq (⟨"PaymentHubModel", "doPart", "(II)V"⟩, 57) := ⟨⟨by decide +kernel, by decide +kernel⟩, List.mem_of_getElem? (i := 988) (by decide +kernel), List.mem_of_getElem? (i := 1019) (by decide +kernel), List.mem_of_getElem? (i := 1020) (by decide +kernel)⟩
theorem lw_p47 : lw_okq (⟨"PaymentHubModel", "amountAt", "(I)I"⟩, 57) := ⟨⟨by decide +kernel, by decide +kernel⟩, List.mem_of_getElem? (i := 988) (by decide +kernel), List.mem_of_getElem? (i := 1023) (by decide +kernel), List.mem_of_getElem? (i := 1024) (by decide +kernel)⟩
def lw_privs_3 : List (MethodName × Nat) := [(⟨"PaymentHub$Ledger", "receive", "(LPaymentHub$Message;)V"⟩, 5), (⟨"PaymentHub$Transactions", "enqueue", "(I)V"⟩, 9), (⟨"PaymentHub$Ledger", "answer", "(II)V"⟩, 5), (⟨"PaymentHub$Ledger", "settle", "(I)V"⟩, 5), (⟨"PaymentHub$Ledger", "end", "(II)V"⟩, 5), (⟨"PaymentHub$Ledger", "giveBack", "(II)V"⟩, 5), (⟨"PaymentHub", "hold", "(I)I"⟩, 6), (⟨"PaymentHub", "letWait", "(I)I"⟩, 6), (⟨"PaymentHubModel", "replay", "()I"⟩, 57), (⟨"PaymentHubModel", "doRecord", "(I)V"⟩, 57), (⟨"PaymentHubModel", "doMessage", "(I)V"⟩, 57), (⟨"PaymentHubModel", "next", "(IC)I"⟩, 57), (⟨"PaymentHubModel", "isTag", "(IC)Z"⟩, 57), (⟨"PaymentHubModel", "nameAt", "(I)I"⟩, 57), (⟨"PaymentHubModel", "doPart", "(II)V"⟩, 57), (⟨"PaymentHubModel", "amountAt", "(I)I"⟩, 57)]
theorem lw_r3 : ∀ q ∈ lw_privs_3, lw_okq q := List.forall_mem_cons.mpr ⟨lw_p32, List.forall_mem_cons.mpr ⟨lw_p33, List.forall_mem_cons.mpr ⟨lw_p34, List.forall_mem_cons.mpr ⟨lw_p35, List.forall_mem_cons.mpr ⟨lw_p36, List.forall_mem_cons.mpr ⟨lw_p37, List.forall_mem_cons.mpr ⟨lw_p38, List.forall_mem_cons.mpr ⟨lw_p39, List.forall_mem_cons.mpr ⟨lw_p40, List.forall_mem_cons.mpr ⟨lw_p41, List.forall_mem_cons.mpr ⟨lw_p42, List.forall_mem_cons.mpr ⟨lw_p43, List.forall_mem_cons.mpr ⟨lw_p44, List.forall_mem_cons.mpr ⟨lw_p45, List.forall_mem_cons.mpr ⟨lw_p46, List.forall_mem_cons.mpr ⟨lw_p47, fun _ h => absurd h List.not_mem_nil⟩⟩⟩⟩⟩⟩⟩⟩⟩⟩⟩⟩⟩⟩⟩⟩
theorem lw_p48 : lw_okq (⟨"PaymentHubModel", "known", "(I)I"⟩, 57) := ⟨⟨by decide +kernel, by decide +kernel⟩, List.mem_of_getElem? (i := 988) (by decide +kernel), List.mem_of_getElem? (i := 1027) (by decide +kernel), List.mem_of_getElem? (i := 1028) (by decide +kernel)⟩
theorem lw_p49 : lw_okq (⟨"PaymentHubModel", "reject", "(I)V"⟩, 57) := ⟨⟨by decide +kernel, by decide +kernel⟩, List.mem_of_getElem? (i := 988) (by decide +kernel), List.mem_of_getElem? (i := 1031) (by decide +kernel), List.mem_of_getElem? (i := 1032) (by decide +kernel)⟩
theorem lw_p50 : lw_okq (⟨"PaymentHubModel", "tell", "(III)V"⟩, 57) := ⟨⟨by decide +kernel, by decide +kernel⟩, List.mem_of_getElem? (i := 988) (by decide +kernel), List.mem_of_getElem? (i := 1035) (by decide +kernel), List.mem_of_getElem? (i := 1036) (by decide +kernel)⟩
theorem lw_p51 : lw_okq (⟨"PaymentHubModel", "enter", "(II)V"⟩, 57) := ⟨⟨by decide +kernel, by decide +kernel⟩, List.mem_of_getElem? (i := 988) (by decide +kernel), List.mem_of_getElem? (i := 1039) (by decide +kernel), List.mem_of_getElem? (i := 1040) (by decide +kernel)⟩
theorem lw_p52 : lw_okq (⟨"PaymentHubModel", "leaveRow", "(I)V"⟩, 57) := ⟨⟨by decide +kernel, by decide +kernel⟩, List.mem_of_getElem? (i := 988) (by decide +kernel), List.mem_of_getElem? (i := 1043) (by decide +kernel), List.mem_of_getElem? (i := 1044) (by decide +kernel)⟩
theorem lw_p53 : lw_okq (⟨"PaymentHubModel", "broken", "()I"⟩, 57) := ⟨⟨by decide +kernel, by decide +kernel⟩, List.mem_of_getElem? (i := 988) (by decide +kernel), List.mem_of_getElem? (i := 1231) (by decide +kernel), List.mem_of_getElem? (i := 1232) (by decide +kernel)⟩
theorem lw_p54 : lw_okq (⟨"PaymentHubModel", "isDocument", "()Z"⟩, 57) := ⟨⟨by decide +kernel, by decide +kernel⟩, List.mem_of_getElem? (i := 988) (by decide +kernel), List.mem_of_getElem? (i := 1235) (by decide +kernel), List.mem_of_getElem? (i := 1236) (by decide +kernel)⟩
theorem lw_p55 : lw_okq (⟨"PaymentHubModel", "sees", "(IC)Z"⟩, 57) := ⟨⟨by decide +kernel, by decide +kernel⟩, List.mem_of_getElem? (i := 988) (by decide +kernel), List.mem_of_getElem? (i := 1239) (by decide +kernel), List.mem_of_getElem? (i := 1240) (by decide +kernel)⟩
theorem lw_p56 : lw_okq (⟨"PaymentHubModel", "comment", "()V"⟩, 57) := ⟨⟨by decide +kernel, by decide +kernel⟩, List.mem_of_getElem? (i := 988) (by decide +kernel), List.mem_of_getElem? (i := 1243) (by decide +kernel), List.mem_of_getElem? (i := 1244) (by decide +kernel)⟩
theorem lw_p57 : lw_okq (⟨"PaymentHubModel", "closing", "()V"⟩, 57) := ⟨⟨by decide +kernel, by decide +kernel⟩, List.mem_of_getElem? (i := 988) (by decide +kernel), List.mem_of_getElem? (i := 1247) (by decide +kernel), List.mem_of_getElem? (i := 1248) (by decide +kernel)⟩
theorem lw_p58 : lw_okq (⟨"PaymentHubModel", "skipBlanks", "()V"⟩, 57) := ⟨⟨by decide +kernel, by decide +kernel⟩, List.mem_of_getElem? (i := 988) (by decide +kernel), List.mem_of_getElem? (i := 1251) (by decide +kernel), List.mem_of_getElem? (i := 1252) (by decide +kernel)⟩
theorem lw_p59 : lw_okq (⟨"PaymentHubModel", "opening", "()V"⟩, 57) := ⟨⟨by decide +kernel, by decide +kernel⟩, List.mem_of_getElem? (i := 988) (by decide +kernel), List.mem_of_getElem? (i := 1255) (by decide +kernel), List.mem_of_getElem? (i := 1256) (by decide +kernel)⟩
theorem lw_p60 : lw_okq (⟨"PaymentHubModel", "reference", "()V"⟩, 57) := ⟨⟨by decide +kernel, by decide +kernel⟩, List.mem_of_getElem? (i := 988) (by decide +kernel), List.mem_of_getElem? (i := 1262) (by decide +kernel), List.mem_of_getElem? (i := 1263) (by decide +kernel)⟩
theorem lw_p61 : lw_okq (⟨"PaymentHubModel", "letterIn", "(C)V"⟩, 57) := ⟨⟨by decide +kernel, by decide +kernel⟩, List.mem_of_getElem? (i := 988) (by decide +kernel), List.mem_of_getElem? (i := 1269) (by decide +kernel), List.mem_of_getElem? (i := 1270) (by decide +kernel)⟩
theorem lw_p62 : lw_okq (⟨"PaymentHubModel", "isValid", "()Z"⟩, 57) := ⟨⟨by decide +kernel, by decide +kernel⟩, List.mem_of_getElem? (i := 988) (by decide +kernel), List.mem_of_getElem? (i := 1273) (by decide +kernel), List.mem_of_getElem? (i := 1274) (by decide +kernel)⟩
theorem lw_p63 : lw_okq (⟨"PaymentHubModel", "isLeaf", "(IIC)Z"⟩, 57) := ⟨⟨by decide +kernel, by decide +kernel⟩, List.mem_of_getElem? (i := 988) (by decide +kernel), List.mem_of_getElem? (i := 1277) (by decide +kernel), List.mem_of_getElem? (i := 1278) (by decide +kernel)⟩
def lw_privs_4 : List (MethodName × Nat) := [(⟨"PaymentHubModel", "known", "(I)I"⟩, 57), (⟨"PaymentHubModel", "reject", "(I)V"⟩, 57), (⟨"PaymentHubModel", "tell", "(III)V"⟩, 57), (⟨"PaymentHubModel", "enter", "(II)V"⟩, 57), (⟨"PaymentHubModel", "leaveRow", "(I)V"⟩, 57), (⟨"PaymentHubModel", "broken", "()I"⟩, 57), (⟨"PaymentHubModel", "isDocument", "()Z"⟩, 57), (⟨"PaymentHubModel", "sees", "(IC)Z"⟩, 57), (⟨"PaymentHubModel", "comment", "()V"⟩, 57), (⟨"PaymentHubModel", "closing", "()V"⟩, 57), (⟨"PaymentHubModel", "skipBlanks", "()V"⟩, 57), (⟨"PaymentHubModel", "opening", "()V"⟩, 57), (⟨"PaymentHubModel", "reference", "()V"⟩, 57), (⟨"PaymentHubModel", "letterIn", "(C)V"⟩, 57), (⟨"PaymentHubModel", "isValid", "()Z"⟩, 57), (⟨"PaymentHubModel", "isLeaf", "(IIC)Z"⟩, 57)]
theorem lw_r4 : ∀ q ∈ lw_privs_4, lw_okq q := List.forall_mem_cons.mpr ⟨lw_p48, List.forall_mem_cons.mpr ⟨lw_p49, List.forall_mem_cons.mpr ⟨lw_p50, List.forall_mem_cons.mpr ⟨lw_p51, List.forall_mem_cons.mpr ⟨lw_p52, List.forall_mem_cons.mpr ⟨lw_p53, List.forall_mem_cons.mpr ⟨lw_p54, List.forall_mem_cons.mpr ⟨lw_p55, List.forall_mem_cons.mpr ⟨lw_p56, List.forall_mem_cons.mpr ⟨lw_p57, List.forall_mem_cons.mpr ⟨lw_p58, List.forall_mem_cons.mpr ⟨lw_p59, List.forall_mem_cons.mpr ⟨lw_p60, List.forall_mem_cons.mpr ⟨lw_p61, List.forall_mem_cons.mpr ⟨lw_p62, List.forall_mem_cons.mpr ⟨lw_p63, fun _ h => absurd h List.not_mem_nil⟩⟩⟩⟩⟩⟩⟩⟩⟩⟩⟩⟩⟩⟩⟩⟩
theorem lw_p64 : lw_okq (⟨"PaymentHubModel", "child", "(II)I"⟩, 57) := ⟨⟨by decide +kernel, by decide +kernel⟩, List.mem_of_getElem? (i := 988) (by decide +kernel), List.mem_of_getElem? (i := 1281) (by decide +kernel), List.mem_of_getElem? (i := 1282) (by decide +kernel)⟩
theorem lw_p65 : lw_okq (⟨"PaymentHubModel", "name", "(I)I"⟩, 57) := ⟨⟨by decide +kernel, by decide +kernel⟩, List.mem_of_getElem? (i := 988) (by decide +kernel), List.mem_of_getElem? (i := 1285) (by decide +kernel), List.mem_of_getElem? (i := 1286) (by decide +kernel)⟩
theorem lw_p66 : lw_okq (⟨"PaymentHubModel", "small", "(II)I"⟩, 57) := ⟨⟨by decide +kernel, by decide +kernel⟩, List.mem_of_getElem? (i := 988) (by decide +kernel), List.mem_of_getElem? (i := 1289) (by decide +kernel), List.mem_of_getElem? (i := 1290) (by decide +kernel)⟩
theorem lw_p67 : lw_okq (⟨"PaymentHubModel", "amount", "(I)I"⟩, 57) := ⟨⟨by decide +kernel, by decide +kernel⟩, List.mem_of_getElem? (i := 988) (by decide +kernel), List.mem_of_getElem? (i := 1293) (by decide +kernel), List.mem_of_getElem? (i := 1294) (by decide +kernel)⟩
theorem lw_p68 : lw_okq (⟨"PaymentHubModel", "readPart", "(I)Z"⟩, 57) := ⟨⟨by decide +kernel, by decide +kernel⟩, List.mem_of_getElem? (i := 988) (by decide +kernel), List.mem_of_getElem? (i := 1297) (by decide +kernel), List.mem_of_getElem? (i := 1298) (by decide +kernel)⟩
theorem lw_p69 : lw_okq (⟨"PaymentHubModel", "placeOf", "(I)I"⟩, 57) := ⟨⟨by decide +kernel, by decide +kernel⟩, List.mem_of_getElem? (i := 988) (by decide +kernel), List.mem_of_getElem? (i := 1301) (by decide +kernel), List.mem_of_getElem? (i := 1302) (by decide +kernel)⟩
theorem lw_p70 : lw_okq (⟨"PaymentHubModel", "brokenByPayment", "()I"⟩, 57) := ⟨⟨by decide +kernel, by decide +kernel⟩, List.mem_of_getElem? (i := 988) (by decide +kernel), List.mem_of_getElem? (i := 1305) (by decide +kernel), List.mem_of_getElem? (i := 1306) (by decide +kernel)⟩
theorem lw_p71 : lw_okq (⟨"PaymentHubModel", "brokenByAnswer", "(Z)I"⟩, 57) := ⟨⟨by decide +kernel, by decide +kernel⟩, List.mem_of_getElem? (i := 988) (by decide +kernel), List.mem_of_getElem? (i := 1312) (by decide +kernel), List.mem_of_getElem? (i := 1313) (by decide +kernel)⟩
theorem lw_p72 : lw_okq (⟨"PaymentHubModel", "canonical", "()V"⟩, 57) := ⟨⟨by decide +kernel, by decide +kernel⟩, List.mem_of_getElem? (i := 988) (by decide +kernel), List.mem_of_getElem? (i := 1316) (by decide +kernel), List.mem_of_getElem? (i := 1317) (by decide +kernel)⟩
theorem lw_p73 : lw_okq (⟨"PaymentHubModel", "tagOut", "(CZ)V"⟩, 57) := ⟨⟨by decide +kernel, by decide +kernel⟩, List.mem_of_getElem? (i := 988) (by decide +kernel), List.mem_of_getElem? (i := 1320) (by decide +kernel), List.mem_of_getElem? (i := 1321) (by decide +kernel)⟩
theorem lw_p74 : lw_okq (⟨"PaymentHubModel", "byteOut", "(I)V"⟩, 57) := ⟨⟨by decide +kernel, by decide +kernel⟩, List.mem_of_getElem? (i := 988) (by decide +kernel), List.mem_of_getElem? (i := 1324) (by decide +kernel), List.mem_of_getElem? (i := 1325) (by decide +kernel)⟩
theorem lw_p75 : lw_okq (⟨"PaymentHubModel", "leafOut", "(I)V"⟩, 57) := ⟨⟨by decide +kernel, by decide +kernel⟩, List.mem_of_getElem? (i := 988) (by decide +kernel), List.mem_of_getElem? (i := 1328) (by decide +kernel), List.mem_of_getElem? (i := 1329) (by decide +kernel)⟩
theorem lw_p76 : lw_okq (⟨"PaymentHubModel", "numberOut", "(I)V"⟩, 57) := ⟨⟨by decide +kernel, by decide +kernel⟩, List.mem_of_getElem? (i := 988) (by decide +kernel), List.mem_of_getElem? (i := 1332) (by decide +kernel), List.mem_of_getElem? (i := 1333) (by decide +kernel)⟩
theorem lw_p77 : lw_okq (⟨"PaymentHubModel", "write", "(I)Z"⟩, 57) := ⟨⟨by decide +kernel, by decide +kernel⟩, List.mem_of_getElem? (i := 988) (by decide +kernel), List.mem_of_getElem? (i := 1336) (by decide +kernel), List.mem_of_getElem? (i := 1337) (by decide +kernel)⟩
theorem lw_p78 : lw_okq (⟨"PaymentHubModel", "writeOne", "(II)Z"⟩, 57) := ⟨⟨by decide +kernel, by decide +kernel⟩, List.mem_of_getElem? (i := 988) (by decide +kernel), List.mem_of_getElem? (i := 1344) (by decide +kernel), List.mem_of_getElem? (i := 1345) (by decide +kernel)⟩
def lw_privs_5 : List (MethodName × Nat) := [(⟨"PaymentHubModel", "child", "(II)I"⟩, 57), (⟨"PaymentHubModel", "name", "(I)I"⟩, 57), (⟨"PaymentHubModel", "small", "(II)I"⟩, 57), (⟨"PaymentHubModel", "amount", "(I)I"⟩, 57), (⟨"PaymentHubModel", "readPart", "(I)Z"⟩, 57), (⟨"PaymentHubModel", "placeOf", "(I)I"⟩, 57), (⟨"PaymentHubModel", "brokenByPayment", "()I"⟩, 57), (⟨"PaymentHubModel", "brokenByAnswer", "(Z)I"⟩, 57), (⟨"PaymentHubModel", "canonical", "()V"⟩, 57), (⟨"PaymentHubModel", "tagOut", "(CZ)V"⟩, 57), (⟨"PaymentHubModel", "byteOut", "(I)V"⟩, 57), (⟨"PaymentHubModel", "leafOut", "(I)V"⟩, 57), (⟨"PaymentHubModel", "numberOut", "(I)V"⟩, 57), (⟨"PaymentHubModel", "write", "(I)Z"⟩, 57), (⟨"PaymentHubModel", "writeOne", "(II)Z"⟩, 57)]
theorem lw_r5 : ∀ q ∈ lw_privs_5, lw_okq q := List.forall_mem_cons.mpr ⟨lw_p64, List.forall_mem_cons.mpr ⟨lw_p65, List.forall_mem_cons.mpr ⟨lw_p66, List.forall_mem_cons.mpr ⟨lw_p67, List.forall_mem_cons.mpr ⟨lw_p68, List.forall_mem_cons.mpr ⟨lw_p69, List.forall_mem_cons.mpr ⟨lw_p70, List.forall_mem_cons.mpr ⟨lw_p71, List.forall_mem_cons.mpr ⟨lw_p72, List.forall_mem_cons.mpr ⟨lw_p73, List.forall_mem_cons.mpr ⟨lw_p74, List.forall_mem_cons.mpr ⟨lw_p75, List.forall_mem_cons.mpr ⟨lw_p76, List.forall_mem_cons.mpr ⟨lw_p77, List.forall_mem_cons.mpr ⟨lw_p78, fun _ h => absurd h List.not_mem_nil⟩⟩⟩⟩⟩⟩⟩⟩⟩⟩⟩⟩⟩⟩⟩
def lw_privs : List (MethodName × Nat) := lw_privs_1 ++ (lw_privs_2 ++ (lw_privs_3 ++ (lw_privs_4 ++ (lw_privs_5))))
def lw_tbl : List Cond := k2_sels lw_privs ++ tables_1
theorem lw_privs_ok : ∀ q ∈ lw_privs, lw_okq q := by
  show ∀ q ∈ lw_privs_1 ++ (lw_privs_2 ++ (lw_privs_3 ++ (lw_privs_4 ++ (lw_privs_5)))), lw_okq q
  exact List.forall_mem_append.mpr ⟨lw_r1, List.forall_mem_append.mpr ⟨lw_r2, List.forall_mem_append.mpr ⟨lw_r3, List.forall_mem_append.mpr ⟨lw_r4, lw_r5⟩⟩⟩⟩
/-! ===== BEGIN words of one list among another's, by their places ===== -/
theorem goodIn_r {big : List Cond} (ws : List Cond) (ps : List Nat) (hp : ws = ps.filterMap (fun i => big[i]?)) (h : ws.all goodWord = true) : GoodIn big ws := by
  intro w hw
  have h1 := List.all_eq_true.mp h w hw
  rw [hp] at hw
  obtain ⟨i, -, hi⟩ := List.mem_filterMap.mp hw
  have hm : w ∈ big := by first | exact List.mem_of_getElem? hi | exact List.getElem?_mem hi
  exact ⟨hm, good_of_word h1⟩
theorem goodIn_app {big a b : List Cond} (ha : GoodIn big a) (hb : GoodIn big b) : GoodIn big (a ++ b) := fun w h => (List.mem_append.mp h).elim (ha w) (hb w)
theorem goodIn_ca {big a b : List Cond} {c : Cond} (ha : GoodIn big (c :: a)) (hb : GoodIn big b) : GoodIn big (c :: (a ++ b)) := fun w h => (List.mem_cons.mp h).elim (fun e => ha w (List.mem_cons.mpr (Or.inl e))) (fun h => (List.mem_append.mp h).elim (fun h => ha w (List.mem_cons.mpr (Or.inr h))) (hb w))
theorem goodIn_sub {big ws : List Cond} (hm : ∀ w ∈ ws, w ∈ big) (h : ws.all goodWord = true) : GoodIn big ws := fun w hw => ⟨hm w hw, good_of_word (List.all_eq_true.mp h w hw)⟩
/-! ===== END ===== -/

/-! ===== BEGIN printed: names, fields, word lists, decode rows ===== -/
def RX0 : String := "PaymentHub$Accounts"
def TX0 : u_T := fun k => match k with
  | 0 => ("PaymentHub$Accounts", "limit", "I", true)
  | 1 => ("PaymentHub$Accounts", "balances", "[I", true)
  | 2 => ("PaymentHub$Accounts", "reserved", "[I", true)
  | 3 => ("PaymentHub$Accounts", "counts", "[I", true)
  | _ => ("PaymentHub$Accounts", "entries", "[[I", true)
def tyX0 : Nat → FieldType := fun k => match k with
  | 0 => .int
  | 1 => .array .int
  | 2 => .array .int
  | 3 => .array .int
  | _ => .array (.array .int)
abbrev wsX00 : List Cond := u_ws RX0 TX0 5
theorem nmX0 : ∀ a, a < 5 → ∀ b, b < 5 → a ≠ b → (TX0 a).2.1 ≠ (TX0 b).2.1 := by decide +kernel
theorem tyX0_ok : ∀ k, k < 5 → parseFieldDescriptor (TX0 k).2.2.1 = some (tyX0 k) := by decide +kernel
abbrev cX0_init : ByteArray := prog_2_method_1_code
def yX0_init : MethodName := ⟨RX0, "<init>", "(II)V"⟩
abbrev cX0_available : ByteArray := prog_2_method_2_code
def yX0_available : MethodName := ⟨RX0, "available", "(I)I"⟩
abbrev cX0_balanceOf : ByteArray := prog_2_method_3_code
def yX0_balanceOf : MethodName := ⟨RX0, "balanceOf", "(I)I"⟩
abbrev cX0_reservedOn : ByteArray := prog_2_method_4_code
def yX0_reservedOn : MethodName := ⟨RX0, "reservedOn", "(I)I"⟩
abbrev cX0_entriesOf : ByteArray := prog_2_method_5_code
def yX0_entriesOf : MethodName := ⟨RX0, "entriesOf", "(I)I"⟩
abbrev cX0_entryAt : ByteArray := prog_2_method_6_code
def yX0_entryAt : MethodName := ⟨RX0, "entryAt", "(II)I"⟩
abbrev cX0_reserve : ByteArray := prog_2_method_7_code
def yX0_reserve : MethodName := ⟨RX0, "reserve", "(II)V"⟩
abbrev cX0_book : ByteArray := prog_2_method_8_code
def yX0_book : MethodName := ⟨RX0, "book", "(II)V"⟩
abbrev cX0_has : ByteArray := prog_2_method_9_code
def yX0_has : MethodName := ⟨RX0, "has", "(I)Z"⟩
def RX1 : String := "PaymentHub$Form"
def TX1 : u_T := fun k => match k with
  | _ => ("PaymentHub$Form", "records", "LPaymentHub$Records;", true)
def tyX1 : Nat → FieldType := fun k => match k with
  | _ => .object "PaymentHub$Records"
abbrev wsX10 : List Cond := u_ws RX1 TX1 1
theorem nmX1 : ∀ a, a < 1 → ∀ b, b < 1 → a ≠ b → (TX1 a).2.1 ≠ (TX1 b).2.1 := by decide +kernel
theorem tyX1_ok : ∀ k, k < 1 → parseFieldDescriptor (TX1 k).2.2.1 = some (tyX1 k) := by decide +kernel
abbrev cX1_init : ByteArray := prog_3_method_1_code
def yX1_init : MethodName := ⟨RX1, "<init>", "(LPaymentHub$Records;)V"⟩
abbrev cX1_compose : ByteArray := prog_3_method_2_code
def yX1_compose : MethodName := ⟨RX1, "compose", "(LPaymentHub$Message;)V"⟩
abbrev cX1_addRow : ByteArray := prog_3_method_3_code
def yX1_addRow : MethodName := ⟨RX1, "addRow", "(LPaymentHub$Message;ILjava/lang/String;)V"⟩
abbrev cX1_addBegin : ByteArray := prog_3_method_4_code
def yX1_addBegin : MethodName := ⟨RX1, "addBegin", "(I)V"⟩
abbrev cX1_addEnd : ByteArray := prog_3_method_5_code
def yX1_addEnd : MethodName := ⟨RX1, "addEnd", "(I)V"⟩
abbrev cX1_addValue : ByteArray := prog_3_method_6_code
def yX1_addValue : MethodName := ⟨RX1, "addValue", "(II)V"⟩
abbrev cX1_addName : ByteArray := prog_3_method_7_code
def yX1_addName : MethodName := ⟨RX1, "addName", "(I)V"⟩
abbrev cX1_addNumber : ByteArray := prog_3_method_8_code
def yX1_addNumber : MethodName := ⟨RX1, "addNumber", "(I)V"⟩
abbrev cX1_addTwoDigits : ByteArray := prog_3_method_9_code
def yX1_addTwoDigits : MethodName := ⟨RX1, "addTwoDigits", "(I)V"⟩
def RX2 : String := "PaymentHub$Ledger"
def TX2 : u_T := fun k => match k with
  | 0 => ("PaymentHub$Ledger", "accounts", "LPaymentHub$Accounts;", true)
  | 1 => ("PaymentHub$Ledger", "transactions", "LPaymentHub$Transactions;", true)
  | 2 => ("PaymentHub$Ledger", "reports", "LPaymentHub$Reports;", true)
  | 3 => ("PaymentHub$Ledger", "messageNames", "[I", true)
  | _ => ("PaymentHub$Ledger", "messages", "I", false)
def tyX2 : Nat → FieldType := fun k => match k with
  | 0 => .object "PaymentHub$Accounts"
  | 1 => .object "PaymentHub$Transactions"
  | 2 => .object "PaymentHub$Reports"
  | 3 => .array .int
  | _ => .int
abbrev wsX20 : List Cond := u_ws RX2 TX2 5
theorem nmX2 : ∀ a, a < 5 → ∀ b, b < 5 → a ≠ b → (TX2 a).2.1 ≠ (TX2 b).2.1 := by decide +kernel
theorem tyX2_ok : ∀ k, k < 5 → parseFieldDescriptor (TX2 k).2.2.1 = some (tyX2 k) := by decide +kernel
abbrev cX2_init : ByteArray := prog_4_method_1_code
def yX2_init : MethodName := ⟨RX2, "<init>", "(II)V"⟩
abbrev cX2_knows : ByteArray := prog_4_method_2_code
def yX2_knows : MethodName := ⟨RX2, "knows", "(I)Z"⟩
abbrev cX2_knowsAnyOf : ByteArray := prog_4_method_3_code
def yX2_knowsAnyOf : MethodName := ⟨RX2, "knowsAnyOf", "(LPaymentHub$Message;)Z"⟩
abbrev cX2_canPay : ByteArray := prog_4_method_4_code
def yX2_canPay : MethodName := ⟨RX2, "canPay", "(I)Z"⟩
abbrev cX2_take : ByteArray := prog_4_method_5_code
def yX2_take : MethodName := ⟨RX2, "take", "(LPaymentHub$Message;)V"⟩
abbrev cX2_hold : ByteArray := prog_4_method_6_code
def yX2_hold : MethodName := ⟨RX2, "hold", "(II)V"⟩
abbrev cX2_letWait : ByteArray := prog_4_method_7_code
def yX2_letWait : MethodName := ⟨RX2, "letWait", "(I)V"⟩
abbrev cX2_reject : ByteArray := prog_4_method_8_code
def yX2_reject : MethodName := ⟨RX2, "reject", "(I)V"⟩
abbrev cX2_receive : ByteArray := prog_4_method_9_code
def yX2_receive : MethodName := ⟨RX2, "receive", "(LPaymentHub$Message;)V"⟩
abbrev cX2_answer : ByteArray := prog_4_method_10_code
def yX2_answer : MethodName := ⟨RX2, "answer", "(II)V"⟩
abbrev cX2_settle : ByteArray := prog_4_method_11_code
def yX2_settle : MethodName := ⟨RX2, "settle", "(I)V"⟩
abbrev cX2_giveBack : ByteArray := prog_4_method_12_code
def yX2_giveBack : MethodName := ⟨RX2, "giveBack", "(II)V"⟩
abbrev cX2_end : ByteArray := prog_4_method_13_code
def yX2_end : MethodName := ⟨RX2, "end", "(II)V"⟩
def RX3 : String := "PaymentHub$Message"
def TX3 : u_T := fun k => match k with
  | 0 => ("PaymentHub$Message", "tree", "LPaymentHub$Tree;", true)
  | 1 => ("PaymentHub$Message", "value", "LPaymentHub$Value;", true)
  | 2 => ("PaymentHub$Message", "values", "[I", true)
  | 3 => ("PaymentHub$Message", "kind", "I", false)
  | _ => ("PaymentHub$Message", "size", "I", false)
def tyX3 : Nat → FieldType := fun k => match k with
  | 0 => .object "PaymentHub$Tree"
  | 1 => .object "PaymentHub$Value"
  | 2 => .array .int
  | 3 => .int
  | _ => .int
abbrev wsX30 : List Cond := u_ws RX3 TX3 5
theorem nmX3 : ∀ a, a < 5 → ∀ b, b < 5 → a ≠ b → (TX3 a).2.1 ≠ (TX3 b).2.1 := by decide +kernel
theorem tyX3_ok : ∀ k, k < 5 → parseFieldDescriptor (TX3 k).2.2.1 = some (tyX3 k) := by decide +kernel
abbrev cX3_init : ByteArray := prog_5_method_1_code
def yX3_init : MethodName := ⟨RX3, "<init>", "(LPaymentHub$Tree;)V"⟩
abbrev cX3_take : ByteArray := prog_5_method_2_code
def yX3_take : MethodName := ⟨RX3, "take", "()Z"⟩
abbrev cX3_takeRow : ByteArray := prog_5_method_3_code
def yX3_takeRow : MethodName := ⟨RX3, "takeRow", "(ILjava/lang/String;I)Z"⟩
abbrev cX3_kind : ByteArray := prog_5_method_4_code
def yX3_kind : MethodName := ⟨RX3, "kind", "()I"⟩
abbrev cX3_size : ByteArray := prog_5_method_5_code
def yX3_size : MethodName := ⟨RX3, "size", "()I"⟩
abbrev cX3_placeOf : ByteArray := prog_5_method_6_code
def yX3_placeOf : MethodName := ⟨RX3, "placeOf", "(I)I"⟩
abbrev cX3_valueAt : ByteArray := prog_5_method_7_code
def yX3_valueAt : MethodName := ⟨RX3, "valueAt", "(I)I"⟩
abbrev cX3_name : ByteArray := prog_5_method_8_code
def yX3_name : MethodName := ⟨RX3, "name", "()I"⟩
abbrev cX3_number : ByteArray := prog_5_method_9_code
def yX3_number : MethodName := ⟨RX3, "number", "()I"⟩
abbrev cX3_sum : ByteArray := prog_5_method_10_code
def yX3_sum : MethodName := ⟨RX3, "sum", "()I"⟩
abbrev cX3_original : ByteArray := prog_5_method_11_code
def yX3_original : MethodName := ⟨RX3, "original", "()I"⟩
abbrev cX3_verdict : ByteArray := prog_5_method_12_code
def yX3_verdict : MethodName := ⟨RX3, "verdict", "()I"⟩
abbrev cX3_returned : ByteArray := prog_5_method_13_code
def yX3_returned : MethodName := ⟨RX3, "returned", "()I"⟩
abbrev cX3_nameOf : ByteArray := prog_5_method_14_code
def yX3_nameOf : MethodName := ⟨RX3, "nameOf", "(I)I"⟩
abbrev cX3_debtorOf : ByteArray := prog_5_method_15_code
def yX3_debtorOf : MethodName := ⟨RX3, "debtorOf", "(I)I"⟩
abbrev cX3_creditorOf : ByteArray := prog_5_method_16_code
def yX3_creditorOf : MethodName := ⟨RX3, "creditorOf", "(I)I"⟩
abbrev cX3_amountOf : ByteArray := prog_5_method_17_code
def yX3_amountOf : MethodName := ⟨RX3, "amountOf", "(I)I"⟩
abbrev cX3_total : ByteArray := prog_5_method_18_code
def yX3_total : MethodName := ⟨RX3, "total", "()I"⟩
abbrev cX3_hasGoodAccounts : ByteArray := prog_5_method_19_code
def yX3_hasGoodAccounts : MethodName := ⟨RX3, "hasGoodAccounts", "()Z"⟩
abbrev cX3_joinsDifferentAccounts : ByteArray := prog_5_method_20_code
def yX3_joinsDifferentAccounts : MethodName := ⟨RX3, "joinsDifferentAccounts", "()Z"⟩
abbrev cX3_hasDifferentNames : ByteArray := prog_5_method_21_code
def yX3_hasDifferentNames : MethodName := ⟨RX3, "hasDifferentNames", "()Z"⟩
def RX4 : String := "PaymentHub$Records"
def TX4 : u_T := fun k => match k with
  | 0 => ("PaymentHub$Records", "bytes", "[B", true)
  | 1 => ("PaymentHub$Records", "length", "I", false)
  | 2 => ("PaymentHub$Records", "whole", "I", false)
  | 3 => ("PaymentHub$Records", "draft", "[I", true)
  | 4 => ("PaymentHub$Records", "drafted", "I", false)
  | 5 => ("PaymentHub$Records", "failing", "Z", false)
  | 6 => ("PaymentHub$Records", "left", "I", false)
  | 7 => ("PaymentHub$Records", "cut", "I", false)
  | _ => ("PaymentHub$Records", "down", "Z", false)
def tyX4 : Nat → FieldType := fun k => match k with
  | 0 => .array .byte
  | 1 => .int
  | 2 => .int
  | 3 => .array .int
  | 4 => .int
  | 5 => .boolean
  | 6 => .int
  | 7 => .int
  | _ => .boolean
abbrev wsX40 : List Cond := u_ws RX4 TX4 9
theorem nmX4 : ∀ a, a < 9 → ∀ b, b < 9 → a ≠ b → (TX4 a).2.1 ≠ (TX4 b).2.1 := by decide +kernel
theorem tyX4_ok : ∀ k, k < 9 → parseFieldDescriptor (TX4 k).2.2.1 = some (tyX4 k) := by decide +kernel
abbrev cX4_init : ByteArray := prog_6_method_1_code
def yX4_init : MethodName := ⟨RX4, "<init>", "()V"⟩
abbrev cX4_isDown : ByteArray := prog_6_method_2_code
def yX4_isDown : MethodName := ⟨RX4, "isDown", "()Z"⟩
abbrev cX4_length : ByteArray := prog_6_method_3_code
def yX4_length : MethodName := ⟨RX4, "length", "()I"⟩
abbrev cX4_byteAt : ByteArray := prog_6_method_4_code
def yX4_byteAt : MethodName := ⟨RX4, "byteAt", "(I)I"⟩
abbrev cX4_breakAfter : ByteArray := prog_6_method_5_code
def yX4_breakAfter : MethodName := ⟨RX4, "breakAfter", "(II)V"⟩
abbrev cX4_restore : ByteArray := prog_6_method_6_code
def yX4_restore : MethodName := ⟨RX4, "restore", "()V"⟩
abbrev cX4_begin : ByteArray := prog_6_method_7_code
def yX4_begin : MethodName := ⟨RX4, "begin", "(I)V"⟩
abbrev cX4_add : ByteArray := prog_6_method_8_code
def yX4_add : MethodName := ⟨RX4, "add", "(I)V"⟩
abbrev cX4_writeNumber : ByteArray := prog_6_method_9_code
def yX4_writeNumber : MethodName := ⟨RX4, "writeNumber", "(II)Z"⟩
abbrev cX4_write : ByteArray := prog_6_method_10_code
def yX4_write : MethodName := ⟨RX4, "write", "()Z"⟩
abbrev cX4_check : ByteArray := prog_6_method_11_code
def yX4_check : MethodName := ⟨RX4, "check", "()I"⟩
abbrev cX4_append : ByteArray := prog_6_method_12_code
def yX4_append : MethodName := ⟨RX4, "append", "(I)V"⟩
def RX5 : String := "PaymentHub$Reports"
def TX5 : u_T := fun k => match k with
  | 0 => ("PaymentHub$Reports", "ended", "[I", true)
  | 1 => ("PaymentHub$Reports", "statuses", "[I", true)
  | 2 => ("PaymentHub$Reports", "marked", "[Z", true)
  | 3 => ("PaymentHub$Reports", "copied", "[I", true)
  | _ => ("PaymentHub$Reports", "size", "I", false)
def tyX5 : Nat → FieldType := fun k => match k with
  | 0 => .array .int
  | 1 => .array .int
  | 2 => .array .boolean
  | 3 => .array .int
  | _ => .int
abbrev wsX50 : List Cond := u_ws RX5 TX5 5
theorem nmX5 : ∀ a, a < 5 → ∀ b, b < 5 → a ≠ b → (TX5 a).2.1 ≠ (TX5 b).2.1 := by decide +kernel
theorem tyX5_ok : ∀ k, k < 5 → parseFieldDescriptor (TX5 k).2.2.1 = some (tyX5 k) := by decide +kernel
abbrev cX5_init : ByteArray := prog_7_method_1_code
def yX5_init : MethodName := ⟨RX5, "<init>", "()V"⟩
abbrev cX5_has : ByteArray := prog_7_method_2_code
def yX5_has : MethodName := ⟨RX5, "has", "(I)Z"⟩
abbrev cX5_add : ByteArray := prog_7_method_3_code
def yX5_add : MethodName := ⟨RX5, "add", "(II)V"⟩
abbrev cX5_transactionOf : ByteArray := prog_7_method_4_code
def yX5_transactionOf : MethodName := ⟨RX5, "transactionOf", "(I)I"⟩
abbrev cX5_statusOf : ByteArray := prog_7_method_5_code
def yX5_statusOf : MethodName := ⟨RX5, "statusOf", "(I)I"⟩
abbrev cX5_isMarked : ByteArray := prog_7_method_6_code
def yX5_isMarked : MethodName := ⟨RX5, "isMarked", "(I)Z"⟩
abbrev cX5_copiesOf : ByteArray := prog_7_method_7_code
def yX5_copiesOf : MethodName := ⟨RX5, "copiesOf", "(I)I"⟩
abbrev cX5_firstUnmarked : ByteArray := prog_7_method_8_code
def yX5_firstUnmarked : MethodName := ⟨RX5, "firstUnmarked", "()I"⟩
abbrev cX5_copy : ByteArray := prog_7_method_9_code
def yX5_copy : MethodName := ⟨RX5, "copy", "(I)V"⟩
abbrev cX5_mark : ByteArray := prog_7_method_10_code
def yX5_mark : MethodName := ⟨RX5, "mark", "(I)V"⟩
def RX6 : String := "PaymentHub$Text"
def TX6 : u_T := fun k => match k with
  | 0 => ("PaymentHub$Text", "tree", "LPaymentHub$Tree;", true)
  | 1 => ("PaymentHub$Text", "characters", "[I", true)
  | 2 => ("PaymentHub$Text", "length", "I", false)
  | _ => ("PaymentHub$Text", "at", "I", false)
def tyX6 : Nat → FieldType := fun k => match k with
  | 0 => .object "PaymentHub$Tree"
  | 1 => .array .int
  | 2 => .int
  | _ => .int
abbrev wsX60 : List Cond := u_ws RX6 TX6 4
theorem nmX6 : ∀ a, a < 4 → ∀ b, b < 4 → a ≠ b → (TX6 a).2.1 ≠ (TX6 b).2.1 := by decide +kernel
theorem tyX6_ok : ∀ k, k < 4 → parseFieldDescriptor (TX6 k).2.2.1 = some (tyX6 k) := by decide +kernel
abbrev cX6_init : ByteArray := prog_8_method_1_code
def yX6_init : MethodName := ⟨RX6, "<init>", "(LPaymentHub$Tree;)V"⟩
abbrev cX6_length : ByteArray := prog_8_method_2_code
def yX6_length : MethodName := ⟨RX6, "length", "()I"⟩
abbrev cX6_hasRoomFor : ByteArray := prog_8_method_3_code
def yX6_hasRoomFor : MethodName := ⟨RX6, "hasRoomFor", "(I)Z"⟩
abbrev cX6_add : ByteArray := prog_8_method_4_code
def yX6_add : MethodName := ⟨RX6, "add", "(I)V"⟩
abbrev cX6_clear : ByteArray := prog_8_method_5_code
def yX6_clear : MethodName := ⟨RX6, "clear", "()V"⟩
abbrev cX6_read : ByteArray := prog_8_method_6_code
def yX6_read : MethodName := ⟨RX6, "read", "()Z"⟩
abbrev cX6_readNext : ByteArray := prog_8_method_7_code
def yX6_readNext : MethodName := ⟨RX6, "readNext", "()Z"⟩
abbrev cX6_readSign : ByteArray := prog_8_method_8_code
def yX6_readSign : MethodName := ⟨RX6, "readSign", "()Z"⟩
abbrev cX6_readComment : ByteArray := prog_8_method_9_code
def yX6_readComment : MethodName := ⟨RX6, "readComment", "()Z"⟩
abbrev cX6_readBegin : ByteArray := prog_8_method_10_code
def yX6_readBegin : MethodName := ⟨RX6, "readBegin", "()Z"⟩
abbrev cX6_readEnd : ByteArray := prog_8_method_11_code
def yX6_readEnd : MethodName := ⟨RX6, "readEnd", "()Z"⟩
abbrev cX6_readClosingSign : ByteArray := prog_8_method_12_code
def yX6_readClosingSign : MethodName := ⟨RX6, "readClosingSign", "()Z"⟩
abbrev cX6_readReference : ByteArray := prog_8_method_13_code
def yX6_readReference : MethodName := ⟨RX6, "readReference", "()Z"⟩
abbrev cX6_skipBlanks : ByteArray := prog_8_method_14_code
def yX6_skipBlanks : MethodName := ⟨RX6, "skipBlanks", "()V"⟩
abbrev cX6_peek : ByteArray := prog_8_method_15_code
def yX6_peek : MethodName := ⟨RX6, "peek", "(I)I"⟩
def RX7 : String := "PaymentHub$Transactions"
def TX7 : u_T := fun k => match k with
  | 0 => ("PaymentHub$Transactions", "names", "[I", true)
  | 1 => ("PaymentHub$Transactions", "amounts", "[I", true)
  | 2 => ("PaymentHub$Transactions", "debtors", "[I", true)
  | 3 => ("PaymentHub$Transactions", "creditors", "[I", true)
  | 4 => ("PaymentHub$Transactions", "statuses", "[I", true)
  | 5 => ("PaymentHub$Transactions", "deadlines", "[I", true)
  | 6 => ("PaymentHub$Transactions", "size", "I", false)
  | 7 => ("PaymentHub$Transactions", "queued", "[I", true)
  | _ => ("PaymentHub$Transactions", "queueLength", "I", false)
def tyX7 : Nat → FieldType := fun k => match k with
  | 0 => .array .int
  | 1 => .array .int
  | 2 => .array .int
  | 3 => .array .int
  | 4 => .array .int
  | 5 => .array .int
  | 6 => .int
  | 7 => .array .int
  | _ => .int
abbrev wsX70 : List Cond := u_ws RX7 TX7 9
theorem nmX7 : ∀ a, a < 9 → ∀ b, b < 9 → a ≠ b → (TX7 a).2.1 ≠ (TX7 b).2.1 := by decide +kernel
theorem tyX7_ok : ∀ k, k < 9 → parseFieldDescriptor (TX7 k).2.2.1 = some (tyX7 k) := by decide +kernel
abbrev cX7_init : ByteArray := prog_9_method_1_code
def yX7_init : MethodName := ⟨RX7, "<init>", "()V"⟩
abbrev cX7_has : ByteArray := prog_9_method_2_code
def yX7_has : MethodName := ⟨RX7, "has", "(I)Z"⟩
abbrev cX7_hasRoomFor : ByteArray := prog_9_method_3_code
def yX7_hasRoomFor : MethodName := ⟨RX7, "hasRoomFor", "(I)Z"⟩
abbrev cX7_find : ByteArray := prog_9_method_4_code
def yX7_find : MethodName := ⟨RX7, "find", "(I)I"⟩
abbrev cX7_statusOf : ByteArray := prog_9_method_5_code
def yX7_statusOf : MethodName := ⟨RX7, "statusOf", "(I)I"⟩
abbrev cX7_amountOf : ByteArray := prog_9_method_6_code
def yX7_amountOf : MethodName := ⟨RX7, "amountOf", "(I)I"⟩
abbrev cX7_debtorOf : ByteArray := prog_9_method_7_code
def yX7_debtorOf : MethodName := ⟨RX7, "debtorOf", "(I)I"⟩
abbrev cX7_creditorOf : ByteArray := prog_9_method_8_code
def yX7_creditorOf : MethodName := ⟨RX7, "creditorOf", "(I)I"⟩
abbrev cX7_deadlineOf : ByteArray := prog_9_method_9_code
def yX7_deadlineOf : MethodName := ⟨RX7, "deadlineOf", "(I)I"⟩
abbrev cX7_isDue : ByteArray := prog_9_method_10_code
def yX7_isDue : MethodName := ⟨RX7, "isDue", "(II)Z"⟩
abbrev cX7_firstQueued : ByteArray := prog_9_method_11_code
def yX7_firstQueued : MethodName := ⟨RX7, "firstQueued", "()I"⟩
abbrev cX7_queuedAt : ByteArray := prog_9_method_12_code
def yX7_queuedAt : MethodName := ⟨RX7, "queuedAt", "(I)I"⟩
abbrev cX7_receive : ByteArray := prog_9_method_13_code
def yX7_receive : MethodName := ⟨RX7, "receive", "(IIII)V"⟩
abbrev cX7_become : ByteArray := prog_9_method_14_code
def yX7_become : MethodName := ⟨RX7, "become", "(II)V"⟩
abbrev cX7_setDeadline : ByteArray := prog_9_method_15_code
def yX7_setDeadline : MethodName := ⟨RX7, "setDeadline", "(II)V"⟩
abbrev cX7_dropFirstQueued : ByteArray := prog_9_method_16_code
def yX7_dropFirstQueued : MethodName := ⟨RX7, "dropFirstQueued", "()V"⟩
abbrev cX7_wakeThoseOf : ByteArray := prog_9_method_17_code
def yX7_wakeThoseOf : MethodName := ⟨RX7, "wakeThoseOf", "(I)V"⟩
abbrev cX7_enqueue : ByteArray := prog_9_method_18_code
def yX7_enqueue : MethodName := ⟨RX7, "enqueue", "(I)V"⟩
def RX8 : String := "PaymentHub$Tree"
def TX8 : u_T := fun k => match k with
  | 0 => ("PaymentHub$Tree", "letters", "[I", true)
  | 1 => ("PaymentHub$Tree", "depths", "[I", true)
  | 2 => ("PaymentHub$Tree", "begins", "[I", true)
  | 3 => ("PaymentHub$Tree", "ends", "[I", true)
  | 4 => ("PaymentHub$Tree", "written", "[Z", true)
  | 5 => ("PaymentHub$Tree", "size", "I", false)
  | 6 => ("PaymentHub$Tree", "path", "[I", true)
  | 7 => ("PaymentHub$Tree", "open", "I", false)
  | 8 => ("PaymentHub$Tree", "characters", "[I", true)
  | _ => ("PaymentHub$Tree", "length", "I", false)
def tyX8 : Nat → FieldType := fun k => match k with
  | 0 => .array .int
  | 1 => .array .int
  | 2 => .array .int
  | 3 => .array .int
  | 4 => .array .boolean
  | 5 => .int
  | 6 => .array .int
  | 7 => .int
  | 8 => .array .int
  | _ => .int
abbrev wsX80 : List Cond := u_ws RX8 TX8 10
theorem nmX8 : ∀ a, a < 10 → ∀ b, b < 10 → a ≠ b → (TX8 a).2.1 ≠ (TX8 b).2.1 := by decide +kernel
theorem tyX8_ok : ∀ k, k < 10 → parseFieldDescriptor (TX8 k).2.2.1 = some (tyX8 k) := by decide +kernel
abbrev cX8_init : ByteArray := prog_10_method_1_code
def yX8_init : MethodName := ⟨RX8, "<init>", "()V"⟩
abbrev cX8_clear : ByteArray := prog_10_method_2_code
def yX8_clear : MethodName := ⟨RX8, "clear", "()V"⟩
abbrev cX8_isOpen : ByteArray := prog_10_method_3_code
def yX8_isOpen : MethodName := ⟨RX8, "isOpen", "()Z"⟩
abbrev cX8_isComplete : ByteArray := prog_10_method_4_code
def yX8_isComplete : MethodName := ⟨RX8, "isComplete", "()Z"⟩
abbrev cX8_size : ByteArray := prog_10_method_5_code
def yX8_size : MethodName := ⟨RX8, "size", "()I"⟩
abbrev cX8_begin : ByteArray := prog_10_method_6_code
def yX8_begin : MethodName := ⟨RX8, "begin", "(I)Z"⟩
abbrev cX8_end : ByteArray := prog_10_method_7_code
def yX8_end : MethodName := ⟨RX8, "end", "(I)Z"⟩
abbrev cX8_add : ByteArray := prog_10_method_8_code
def yX8_add : MethodName := ⟨RX8, "add", "(I)Z"⟩
abbrev cX8_isAt : ByteArray := prog_10_method_9_code
def yX8_isAt : MethodName := ⟨RX8, "isAt", "(III)Z"⟩
abbrev cX8_letterAt : ByteArray := prog_10_method_10_code
def yX8_letterAt : MethodName := ⟨RX8, "letterAt", "(I)I"⟩
abbrev cX8_hasOnlyBlanks : ByteArray := prog_10_method_11_code
def yX8_hasOnlyBlanks : MethodName := ⟨RX8, "hasOnlyBlanks", "(I)Z"⟩
abbrev cX8_beginOf : ByteArray := prog_10_method_12_code
def yX8_beginOf : MethodName := ⟨RX8, "beginOf", "(I)I"⟩
abbrev cX8_endOf : ByteArray := prog_10_method_13_code
def yX8_endOf : MethodName := ⟨RX8, "endOf", "(I)I"⟩
abbrev cX8_characterAt : ByteArray := prog_10_method_14_code
def yX8_characterAt : MethodName := ⟨RX8, "characterAt", "(I)I"⟩
abbrev cX8_has : ByteArray := prog_10_method_15_code
def yX8_has : MethodName := ⟨RX8, "has", "(I)Z"⟩
abbrev cX8_innermost : ByteArray := prog_10_method_16_code
def yX8_innermost : MethodName := ⟨RX8, "innermost", "()I"⟩
def RX9 : String := "PaymentHub$Value"
def TX9 : u_T := fun k => match k with
  | 0 => ("PaymentHub$Value", "tree", "LPaymentHub$Tree;", true)
  | 1 => ("PaymentHub$Value", "from", "I", false)
  | _ => ("PaymentHub$Value", "length", "I", false)
def tyX9 : Nat → FieldType := fun k => match k with
  | 0 => .object "PaymentHub$Tree"
  | 1 => .int
  | _ => .int
abbrev wsX90 : List Cond := u_ws RX9 TX9 3
theorem nmX9 : ∀ a, a < 3 → ∀ b, b < 3 → a ≠ b → (TX9 a).2.1 ≠ (TX9 b).2.1 := by decide +kernel
theorem tyX9_ok : ∀ k, k < 3 → parseFieldDescriptor (TX9 k).2.2.1 = some (tyX9 k) := by decide +kernel
abbrev cX9_init : ByteArray := prog_11_method_1_code
def yX9_init : MethodName := ⟨RX9, "<init>", "(LPaymentHub$Tree;)V"⟩
abbrev cX9_read : ByteArray := prog_11_method_2_code
def yX9_read : MethodName := ⟨RX9, "read", "(I)I"⟩
abbrev cX9_trim : ByteArray := prog_11_method_3_code
def yX9_trim : MethodName := ⟨RX9, "trim", "(II)V"⟩
abbrev cX9_name : ByteArray := prog_11_method_4_code
def yX9_name : MethodName := ⟨RX9, "name", "()I"⟩
abbrev cX9_accountNumber : ByteArray := prog_11_method_5_code
def yX9_accountNumber : MethodName := ⟨RX9, "accountNumber", "()I"⟩
abbrev cX9_verdict : ByteArray := prog_11_method_6_code
def yX9_verdict : MethodName := ⟨RX9, "verdict", "()I"⟩
abbrev cX9_amount : ByteArray := prog_11_method_7_code
def yX9_amount : MethodName := ⟨RX9, "amount", "()I"⟩
abbrev cX9_digits : ByteArray := prog_11_method_8_code
def yX9_digits : MethodName := ⟨RX9, "digits", "(III)I"⟩
def RX10 : String := "PaymentHub"
def TX10 : u_T := fun k => match k with
  | 0 => ("PaymentHub", "text", "LPaymentHub$Text;", true)
  | 1 => ("PaymentHub", "message", "LPaymentHub$Message;", true)
  | 2 => ("PaymentHub", "records", "LPaymentHub$Records;", true)
  | 3 => ("PaymentHub", "form", "LPaymentHub$Form;", true)
  | 4 => ("PaymentHub", "ledger", "LPaymentHub$Ledger;", true)
  | _ => ("PaymentHub", "clock", "I", false)
def tyX10 : Nat → FieldType := fun k => match k with
  | 0 => .object "PaymentHub$Text"
  | 1 => .object "PaymentHub$Message"
  | 2 => .object "PaymentHub$Records"
  | 3 => .object "PaymentHub$Form"
  | 4 => .object "PaymentHub$Ledger"
  | _ => .int
abbrev wsX100 : List Cond := u_ws RX10 TX10 6
theorem nmX10 : ∀ a, a < 6 → ∀ b, b < 6 → a ≠ b → (TX10 a).2.1 ≠ (TX10 b).2.1 := by decide +kernel
theorem tyX10_ok : ∀ k, k < 6 → parseFieldDescriptor (TX10 k).2.2.1 = some (tyX10 k) := by decide +kernel
abbrev cX10_init : ByteArray := prog_1_method_1_code
def yX10_init : MethodName := ⟨RX10, "<init>", "(II)V"⟩
abbrev cX10_put : ByteArray := prog_1_method_2_code
def yX10_put : MethodName := ⟨RX10, "put", "(JI)I"⟩
abbrev cX10_submit : ByteArray := prog_1_method_3_code
def yX10_submit : MethodName := ⟨RX10, "submit", "()I"⟩
abbrev cX10_work : ByteArray := prog_1_method_4_code
def yX10_work : MethodName := ⟨RX10, "work", "()I"⟩
abbrev cX10_tick : ByteArray := prog_1_method_5_code
def yX10_tick : MethodName := ⟨RX10, "tick", "(I)I"⟩
abbrev cX10_send : ByteArray := prog_1_method_6_code
def yX10_send : MethodName := ⟨RX10, "send", "()I"⟩
abbrev cX10_fail : ByteArray := prog_1_method_7_code
def yX10_fail : MethodName := ⟨RX10, "fail", "(II)Z"⟩
abbrev cX10_recover : ByteArray := prog_1_method_8_code
def yX10_recover : MethodName := ⟨RX10, "recover", "()Z"⟩
abbrev cX10_journal : ByteArray := prog_1_method_9_code
def yX10_journal : MethodName := ⟨RX10, "journal", "()I"⟩
abbrev cX10_octet : ByteArray := prog_1_method_10_code
def yX10_octet : MethodName := ⟨RX10, "octet", "(I)I"⟩
abbrev cX10_transaction : ByteArray := prog_1_method_11_code
def yX10_transaction : MethodName := ⟨RX10, "transaction", "(II)I"⟩
abbrev cX10_queue : ByteArray := prog_1_method_12_code
def yX10_queue : MethodName := ⟨RX10, "queue", "(I)I"⟩
abbrev cX10_account : ByteArray := prog_1_method_13_code
def yX10_account : MethodName := ⟨RX10, "account", "(II)I"⟩
abbrev cX10_entry : ByteArray := prog_1_method_14_code
def yX10_entry : MethodName := ⟨RX10, "entry", "(II)I"⟩
abbrev cX10_report : ByteArray := prog_1_method_15_code
def yX10_report : MethodName := ⟨RX10, "report", "(II)I"⟩
abbrev cX10_copies : ByteArray := prog_1_method_16_code
def yX10_copies : MethodName := ⟨RX10, "copies", "(I)I"⟩
abbrev cX10_hold : ByteArray := prog_1_method_17_code
def yX10_hold : MethodName := ⟨RX10, "hold", "(I)I"⟩
abbrev cX10_letWait : ByteArray := prog_1_method_18_code
def yX10_letWait : MethodName := ⟨RX10, "letWait", "(I)I"⟩
abbrev cX10_ruleBroken : ByteArray := prog_1_method_19_code
def yX10_ruleBroken : MethodName := ⟨RX10, "ruleBroken", "()I"⟩
abbrev cX10_ruleBrokenByPayment : ByteArray := prog_1_method_20_code
def yX10_ruleBrokenByPayment : MethodName := ⟨RX10, "ruleBrokenByPayment", "()I"⟩
abbrev cX10_ruleBrokenByFollower : ByteArray := prog_1_method_21_code
def yX10_ruleBrokenByFollower : MethodName := ⟨RX10, "ruleBrokenByFollower", "(I)I"⟩
abbrev cX10_ruleBrokenByReturn : ByteArray := prog_1_method_22_code
def yX10_ruleBrokenByReturn : MethodName := ⟨RX10, "ruleBrokenByReturn", "()I"⟩
abbrev cX10_nearestMoney : ByteArray := prog_1_method_23_code
def yX10_nearestMoney : MethodName := ⟨RX10, "nearestMoney", "(I)I"⟩
abbrev cX10_byteOf : ByteArray := prog_1_method_24_code
def yX10_byteOf : MethodName := ⟨RX10, "byteOf", "(JI)I"⟩
abbrev cX10_areReadable : ByteArray := prog_1_method_25_code
def yX10_areReadable : MethodName := ⟨RX10, "areReadable", "(JI)Z"⟩
abbrev cX10_isDigit : ByteArray := prog_1_method_26_code
def yX10_isDigit : MethodName := ⟨RX10, "isDigit", "(I)Z"⟩
abbrev cX10_isLetter : ByteArray := prog_1_method_27_code
def yX10_isLetter : MethodName := ⟨RX10, "isLetter", "(I)Z"⟩
abbrev cX10_rowOf : ByteArray := prog_1_method_28_code
def yX10_rowOf : MethodName := ⟨RX10, "rowOf", "(I)Ljava/lang/String;"⟩
abbrev cX10_letterPlaceOf : ByteArray := prog_1_method_29_code
def yX10_letterPlaceOf : MethodName := ⟨RX10, "letterPlaceOf", "(I)I"⟩
def RX11 : String := "PaymentHubModel"
def TX11 : u_T := fun k => match k with
  | 0 => ("PaymentHubModel", "open", "I", false)
  | 1 => ("PaymentHubModel", "limit", "I", false)
  | 2 => ("PaymentHubModel", "clock", "I", false)
  | 3 => ("PaymentHubModel", "down", "Z", false)
  | 4 => ("PaymentHubModel", "armed", "I", false)
  | 5 => ("PaymentHubModel", "armedBytes", "I", false)
  | 6 => ("PaymentHubModel", "text", "[C", false)
  | 7 => ("PaymentHubModel", "length", "I", false)
  | 8 => ("PaymentHubModel", "letter", "[C", false)
  | 9 => ("PaymentHubModel", "parent", "[I", false)
  | 10 => ("PaymentHubModel", "kids", "[I", false)
  | 11 => ("PaymentHubModel", "solid", "[Z", false)
  | 12 => ("PaymentHubModel", "begins", "[I", false)
  | 13 => ("PaymentHubModel", "ends", "[I", false)
  | 14 => ("PaymentHubModel", "elements", "I", false)
  | 15 => ("PaymentHubModel", "chars", "[C", false)
  | 16 => ("PaymentHubModel", "written", "I", false)
  | 17 => ("PaymentHubModel", "stack", "[I", false)
  | 18 => ("PaymentHubModel", "depth", "I", false)
  | 19 => ("PaymentHubModel", "rooted", "Z", false)
  | 20 => ("PaymentHubModel", "at", "I", false)
  | 21 => ("PaymentHubModel", "fine", "Z", false)
  | 22 => ("PaymentHubModel", "message", "I", false)
  | 23 => ("PaymentHubModel", "number", "I", false)
  | 24 => ("PaymentHubModel", "sum", "I", false)
  | 25 => ("PaymentHubModel", "names", "[I", false)
  | 26 => ("PaymentHubModel", "debtors", "[I", false)
  | 27 => ("PaymentHubModel", "creditors", "[I", false)
  | 28 => ("PaymentHubModel", "digits", "[I", false)
  | 29 => ("PaymentHubModel", "amounts", "[I", false)
  | 30 => ("PaymentHubModel", "parts", "I", false)
  | 31 => ("PaymentHubModel", "answered", "I", false)
  | 32 => ("PaymentHubModel", "agrees", "Z", false)
  | 33 => ("PaymentHubModel", "record", "[I", false)
  | 34 => ("PaymentHubModel", "size", "I", false)
  | 35 => ("PaymentHubModel", "journal", "[I", false)
  | 36 => ("PaymentHubModel", "bytes", "I", false)
  | 37 => ("PaymentHubModel", "messages", "[I", false)
  | 38 => ("PaymentHubModel", "accepted", "I", false)
  | 39 => ("PaymentHubModel", "nameOf", "[I", false)
  | 40 => ("PaymentHubModel", "amountOf", "[I", false)
  | 41 => ("PaymentHubModel", "debtorOf", "[I", false)
  | 42 => ("PaymentHubModel", "creditorOf", "[I", false)
  | 43 => ("PaymentHubModel", "statusOf", "[I", false)
  | 44 => ("PaymentHubModel", "deadlineOf", "[I", false)
  | 45 => ("PaymentHubModel", "transactions", "I", false)
  | 46 => ("PaymentHubModel", "row", "[I", false)
  | 47 => ("PaymentHubModel", "queued", "I", false)
  | 48 => ("PaymentHubModel", "balance", "[I", false)
  | 49 => ("PaymentHubModel", "reserved", "[I", false)
  | 50 => ("PaymentHubModel", "entries", "[I", false)
  | 51 => ("PaymentHubModel", "entryCount", "[I", false)
  | 52 => ("PaymentHubModel", "reportOf", "[I", false)
  | 53 => ("PaymentHubModel", "reportStatus", "[I", false)
  | 54 => ("PaymentHubModel", "marked", "[Z", false)
  | 55 => ("PaymentHubModel", "reports", "I", false)
  | _ => ("PaymentHubModel", "copiesOf", "[I", false)
def tyX11 : Nat → FieldType := fun k => match k with
  | 0 => .int
  | 1 => .int
  | 2 => .int
  | 3 => .boolean
  | 4 => .int
  | 5 => .int
  | 6 => .array .char
  | 7 => .int
  | 8 => .array .char
  | 9 => .array .int
  | 10 => .array .int
  | 11 => .array .boolean
  | 12 => .array .int
  | 13 => .array .int
  | 14 => .int
  | 15 => .array .char
  | 16 => .int
  | 17 => .array .int
  | 18 => .int
  | 19 => .boolean
  | 20 => .int
  | 21 => .boolean
  | 22 => .int
  | 23 => .int
  | 24 => .int
  | 25 => .array .int
  | 26 => .array .int
  | 27 => .array .int
  | 28 => .array .int
  | 29 => .array .int
  | 30 => .int
  | 31 => .int
  | 32 => .boolean
  | 33 => .array .int
  | 34 => .int
  | 35 => .array .int
  | 36 => .int
  | 37 => .array .int
  | 38 => .int
  | 39 => .array .int
  | 40 => .array .int
  | 41 => .array .int
  | 42 => .array .int
  | 43 => .array .int
  | 44 => .array .int
  | 45 => .int
  | 46 => .array .int
  | 47 => .int
  | 48 => .array .int
  | 49 => .array .int
  | 50 => .array .int
  | 51 => .array .int
  | 52 => .array .int
  | 53 => .array .int
  | 54 => .array .boolean
  | 55 => .int
  | _ => .array .int
abbrev wsX110 : List Cond := u_ws RX11 TX11 57
theorem nmX11 : ∀ a, a < 57 → ∀ b, b < 57 → a ≠ b → (TX11 a).2.1 ≠ (TX11 b).2.1 := by decide +kernel
theorem tyX11_ok : ∀ k, k < 57 → parseFieldDescriptor (TX11 k).2.2.1 = some (tyX11 k) := by decide +kernel
abbrev cX11_init : ByteArray := prog_13_method_1_code
def yX11_init : MethodName := ⟨RX11, "<init>", "(II)V"⟩
abbrev cX11_put : ByteArray := prog_13_method_2_code
def yX11_put : MethodName := ⟨RX11, "put", "(JI)I"⟩
abbrev cX11_sees : ByteArray := prog_13_method_3_code
def yX11_sees : MethodName := ⟨RX11, "sees", "(IC)Z"⟩
abbrev cX11_isLetter : ByteArray := prog_13_method_4_code
def yX11_isLetter : MethodName := ⟨RX11, "isLetter", "(C)Z"⟩
abbrev cX11_isDigit : ByteArray := prog_13_method_5_code
def yX11_isDigit : MethodName := ⟨RX11, "isDigit", "(C)Z"⟩
abbrev cX11_skipBlanks : ByteArray := prog_13_method_6_code
def yX11_skipBlanks : MethodName := ⟨RX11, "skipBlanks", "()V"⟩
abbrev cX11_comment : ByteArray := prog_13_method_7_code
def yX11_comment : MethodName := ⟨RX11, "comment", "()V"⟩
abbrev cX11_closing : ByteArray := prog_13_method_8_code
def yX11_closing : MethodName := ⟨RX11, "closing", "()V"⟩
abbrev cX11_opening : ByteArray := prog_13_method_9_code
def yX11_opening : MethodName := ⟨RX11, "opening", "()V"⟩
abbrev cX11_letterIn : ByteArray := prog_13_method_10_code
def yX11_letterIn : MethodName := ⟨RX11, "letterIn", "(C)V"⟩
abbrev cX11_reference : ByteArray := prog_13_method_11_code
def yX11_reference : MethodName := ⟨RX11, "reference", "()V"⟩
abbrev cX11_isDocument : ByteArray := prog_13_method_12_code
def yX11_isDocument : MethodName := ⟨RX11, "isDocument", "()Z"⟩
abbrev cX11_child : ByteArray := prog_13_method_13_code
def yX11_child : MethodName := ⟨RX11, "child", "(II)I"⟩
abbrev cX11_isLeaf : ByteArray := prog_13_method_14_code
def yX11_isLeaf : MethodName := ⟨RX11, "isLeaf", "(IIC)Z"⟩
abbrev cX11_name : ByteArray := prog_13_method_15_code
def yX11_name : MethodName := ⟨RX11, "name", "(I)I"⟩
abbrev cX11_small : ByteArray := prog_13_method_16_code
def yX11_small : MethodName := ⟨RX11, "small", "(II)I"⟩
abbrev cX11_placeOf : ByteArray := prog_13_method_17_code
def yX11_placeOf : MethodName := ⟨RX11, "placeOf", "(I)I"⟩
abbrev cX11_amount : ByteArray := prog_13_method_18_code
def yX11_amount : MethodName := ⟨RX11, "amount", "(I)I"⟩
abbrev cX11_readPart : ByteArray := prog_13_method_19_code
def yX11_readPart : MethodName := ⟨RX11, "readPart", "(I)Z"⟩
abbrev cX11_isValid : ByteArray := prog_13_method_20_code
def yX11_isValid : MethodName := ⟨RX11, "isValid", "()Z"⟩
abbrev cX11_isRight : ByteArray := prog_13_method_21_code
def yX11_isRight : MethodName := ⟨RX11, "isRight", "(II)Z"⟩
abbrev cX11_known : ByteArray := prog_13_method_22_code
def yX11_known : MethodName := ⟨RX11, "known", "(I)I"⟩
abbrev cX11_brokenByPayment : ByteArray := prog_13_method_23_code
def yX11_brokenByPayment : MethodName := ⟨RX11, "brokenByPayment", "()I"⟩
abbrev cX11_brokenByAnswer : ByteArray := prog_13_method_24_code
def yX11_brokenByAnswer : MethodName := ⟨RX11, "brokenByAnswer", "(Z)I"⟩
abbrev cX11_broken : ByteArray := prog_13_method_25_code
def yX11_broken : MethodName := ⟨RX11, "broken", "()I"⟩
abbrev cX11_byteOut : ByteArray := prog_13_method_26_code
def yX11_byteOut : MethodName := ⟨RX11, "byteOut", "(I)V"⟩
abbrev cX11_tagOut : ByteArray := prog_13_method_27_code
def yX11_tagOut : MethodName := ⟨RX11, "tagOut", "(CZ)V"⟩
abbrev cX11_numberOut : ByteArray := prog_13_method_28_code
def yX11_numberOut : MethodName := ⟨RX11, "numberOut", "(I)V"⟩
abbrev cX11_leafOut : ByteArray := prog_13_method_29_code
def yX11_leafOut : MethodName := ⟨RX11, "leafOut", "(I)V"⟩
abbrev cX11_canonical : ByteArray := prog_13_method_30_code
def yX11_canonical : MethodName := ⟨RX11, "canonical", "()V"⟩
abbrev cX11_write : ByteArray := prog_13_method_31_code
def yX11_write : MethodName := ⟨RX11, "write", "(I)Z"⟩
abbrev cX11_writeOne : ByteArray := prog_13_method_32_code
def yX11_writeOne : MethodName := ⟨RX11, "writeOne", "(II)Z"⟩
abbrev cX11_isTag : ByteArray := prog_13_method_33_code
def yX11_isTag : MethodName := ⟨RX11, "isTag", "(IC)Z"⟩
abbrev cX11_next : ByteArray := prog_13_method_34_code
def yX11_next : MethodName := ⟨RX11, "next", "(IC)I"⟩
abbrev cX11_nameAt : ByteArray := prog_13_method_35_code
def yX11_nameAt : MethodName := ⟨RX11, "nameAt", "(I)I"⟩
abbrev cX11_amountAt : ByteArray := prog_13_method_36_code
def yX11_amountAt : MethodName := ⟨RX11, "amountAt", "(I)I"⟩
abbrev cX11_leaveRow : ByteArray := prog_13_method_37_code
def yX11_leaveRow : MethodName := ⟨RX11, "leaveRow", "(I)V"⟩
abbrev cX11_enter : ByteArray := prog_13_method_38_code
def yX11_enter : MethodName := ⟨RX11, "enter", "(II)V"⟩
abbrev cX11_tell : ByteArray := prog_13_method_39_code
def yX11_tell : MethodName := ⟨RX11, "tell", "(III)V"⟩
abbrev cX11_reject : ByteArray := prog_13_method_40_code
def yX11_reject : MethodName := ⟨RX11, "reject", "(I)V"⟩
abbrev cX11_doMessage : ByteArray := prog_13_method_41_code
def yX11_doMessage : MethodName := ⟨RX11, "doMessage", "(I)V"⟩
abbrev cX11_doPart : ByteArray := prog_13_method_42_code
def yX11_doPart : MethodName := ⟨RX11, "doPart", "(II)V"⟩
abbrev cX11_doRecord : ByteArray := prog_13_method_43_code
def yX11_doRecord : MethodName := ⟨RX11, "doRecord", "(I)V"⟩
abbrev cX11_replay : ByteArray := prog_13_method_44_code
def yX11_replay : MethodName := ⟨RX11, "replay", "()I"⟩
abbrev cX11_submit : ByteArray := prog_13_method_45_code
def yX11_submit : MethodName := ⟨RX11, "submit", "()I"⟩
abbrev cX11_work : ByteArray := prog_13_method_46_code
def yX11_work : MethodName := ⟨RX11, "work", "()I"⟩
abbrev cX11_tick : ByteArray := prog_13_method_47_code
def yX11_tick : MethodName := ⟨RX11, "tick", "(I)I"⟩
abbrev cX11_send : ByteArray := prog_13_method_48_code
def yX11_send : MethodName := ⟨RX11, "send", "()I"⟩
abbrev cX11_fail : ByteArray := prog_13_method_49_code
def yX11_fail : MethodName := ⟨RX11, "fail", "(II)Z"⟩
abbrev cX11_recover : ByteArray := prog_13_method_50_code
def yX11_recover : MethodName := ⟨RX11, "recover", "()Z"⟩
abbrev cX11_journal : ByteArray := prog_13_method_51_code
def yX11_journal : MethodName := ⟨RX11, "journal", "()I"⟩
abbrev cX11_octet : ByteArray := prog_13_method_52_code
def yX11_octet : MethodName := ⟨RX11, "octet", "(I)I"⟩
abbrev cX11_transaction : ByteArray := prog_13_method_53_code
def yX11_transaction : MethodName := ⟨RX11, "transaction", "(II)I"⟩
abbrev cX11_queue : ByteArray := prog_13_method_54_code
def yX11_queue : MethodName := ⟨RX11, "queue", "(I)I"⟩
abbrev cX11_account : ByteArray := prog_13_method_55_code
def yX11_account : MethodName := ⟨RX11, "account", "(II)I"⟩
abbrev cX11_entry : ByteArray := prog_13_method_56_code
def yX11_entry : MethodName := ⟨RX11, "entry", "(II)I"⟩
abbrev cX11_report : ByteArray := prog_13_method_57_code
def yX11_report : MethodName := ⟨RX11, "report", "(II)I"⟩
abbrev cX11_copies : ByteArray := prog_13_method_58_code
def yX11_copies : MethodName := ⟨RX11, "copies", "(I)I"⟩
def RJ9 : String := "java/lang/Math"
def TJ9 : u_T := fun k => match k with
  | _ => ("", "", "", false)
def tyJ9 : Nat → FieldType := fun k => match k with
  | _ => .int
abbrev wsJ90 : List Cond := u_ws RJ9 TJ9 0
theorem nmJ9 : ∀ a, a < 0 → ∀ b, b < 0 → a ≠ b → (TJ9 a).2.1 ≠ (TJ9 b).2.1 := by decide +kernel
theorem tyJ9_ok : ∀ k, k < 0 → parseFieldDescriptor (TJ9 k).2.2.1 = some (tyJ9 k) := by decide +kernel
abbrev cJ9_max_7cf53 : ByteArray := prog_14_method_65_code
def yJ9_max_7cf53 : MethodName := ⟨RJ9, "max", "(II)I"⟩
abbrev cJ9_min_7cf53 : ByteArray := prog_14_method_69_code
def yJ9_min_7cf53 : MethodName := ⟨RJ9, "min", "(II)I"⟩
def RJ0 : String := "java/lang/String"
def TJ0 : u_T := fun k => match k with
  | _ => ("", "", "", false)
def tyJ0 : Nat → FieldType := fun k => match k with
  | _ => .int
abbrev wsJ00 : List Cond := u_ws RJ0 TJ0 0
theorem nmJ0 : ∀ a, a < 0 → ∀ b, b < 0 → a ≠ b → (TJ0 a).2.1 ≠ (TJ0 b).2.1 := by decide +kernel
theorem tyJ0_ok : ∀ k, k < 0 → parseFieldDescriptor (TJ0 k).2.2.1 = some (tyJ0 k) := by decide +kernel
abbrev cJ0_length_8abf5 : ByteArray := prog_15_method_54_code
def yJ0_length_8abf5 : MethodName := ⟨RJ0, "length", "()I"⟩
abbrev cJ0_isEmpty_aae02 : ByteArray := prog_15_method_55_code
def yJ0_isEmpty_aae02 : MethodName := ⟨RJ0, "isEmpty", "()Z"⟩
abbrev cJ0_charAt_5068e : ByteArray := prog_15_method_56_code
def yJ0_charAt_5068e : MethodName := ⟨RJ0, "charAt", "(I)C"⟩
abbrev cJ0_coder_7d493 : ByteArray := prog_15_method_152_code
def yJ0_coder_7d493 : MethodName := ⟨RJ0, "coder", "()B"⟩
abbrev cJ0_isLatin1_aae02 : ByteArray := prog_15_method_154_code
def yJ0_isLatin1_aae02 : MethodName := ⟨RJ0, "isLatin1", "()Z"⟩
abbrev cJ0_checkIndex_df160 : ByteArray := prog_15_method_155_code
def yJ0_checkIndex_df160 : MethodName := ⟨RJ0, "checkIndex", "(II)V"⟩
def RJ1 : String := "java/lang/StringLatin1"
def TJ1 : u_T := fun k => match k with
  | _ => ("", "", "", false)
def tyJ1 : Nat → FieldType := fun k => match k with
  | _ => .int
abbrev wsJ10 : List Cond := u_ws RJ1 TJ1 0
theorem nmJ1 : ∀ a, a < 0 → ∀ b, b < 0 → a ≠ b → (TJ1 a).2.1 ≠ (TJ1 b).2.1 := by decide +kernel
theorem tyJ1_ok : ∀ k, k < 0 → parseFieldDescriptor (TJ1 k).2.2.1 = some (tyJ1 k) := by decide +kernel
abbrev cJ1_charAt_3b067 : ByteArray := prog_16_method_2_code
def yJ1_charAt_3b067 : MethodName := ⟨RJ1, "charAt", "([BI)C"⟩
def RJ2 : String := "java/lang/StringUTF16"
def TJ2 : u_T := fun k => match k with
  | _ => ("", "", "", false)
def tyJ2 : Nat → FieldType := fun k => match k with
  | _ => .int
abbrev wsJ20 : List Cond := u_ws RJ2 TJ2 0
theorem nmJ2 : ∀ a, a < 0 → ∀ b, b < 0 → a ≠ b → (TJ2 a).2.1 ≠ (TJ2 b).2.1 := by decide +kernel
theorem tyJ2_ok : ∀ k, k < 0 → parseFieldDescriptor (TJ2 k).2.2.1 = some (tyJ2 k) := by decide +kernel
abbrev cJ2_getChar_3b067 : ByteArray := prog_17_method_5_code
def yJ2_getChar_3b067 : MethodName := ⟨RJ2, "getChar", "([BI)C"⟩
abbrev cJ2_length_9d52b : ByteArray := prog_17_method_6_code
def yJ2_length_9d52b : MethodName := ⟨RJ2, "length", "([B)I"⟩
abbrev cJ2_charAt_3b067 : ByteArray := prog_17_method_83_code
def yJ2_charAt_3b067 : MethodName := ⟨RJ2, "charAt", "([BI)C"⟩
abbrev cJ2_checkIndex_2214a : ByteArray := prog_17_method_91_code
def yJ2_checkIndex_2214a : MethodName := ⟨RJ2, "checkIndex", "(I[B)V"⟩
def RJ3 : String := "jdk/internal/util/Preconditions"
def TJ3 : u_T := fun k => match k with
  | _ => ("", "", "", false)
def tyJ3 : Nat → FieldType := fun k => match k with
  | _ => .int
abbrev wsJ30 : List Cond := u_ws RJ3 TJ3 0
theorem nmJ3 : ∀ a, a < 0 → ∀ b, b < 0 → a ≠ b → (TJ3 a).2.1 ≠ (TJ3 b).2.1 := by decide +kernel
theorem tyJ3_ok : ∀ k, k < 0 → parseFieldDescriptor (TJ3 k).2.2.1 = some (tyJ3 k) := by decide +kernel
abbrev cJ3_checkIndex_8e157 : ByteArray := prog_18_method_11_code
def yJ3_checkIndex_8e157 : MethodName := ⟨RJ3, "checkIndex", "(IILjava/util/function/BiFunction;)I"⟩
def RL : String := "PaymentHubLaw"
abbrev cL_cell : ByteArray := method_2_code
def yL_cell : MethodName := ⟨RL, "cell", "([II)I"⟩
abbrev cL_law : ByteArray := code
def yL_law : MethodName := ⟨RL, "law", "([I)Z"⟩
abbrev vwCl : List vw_C := [(RX0, TX0, 5), (RX1, TX1, 1), (RX2, TX2, 5), (RX3, TX3, 5), (RX4, TX4, 9), (RX5, TX5, 5), (RX6, TX6, 4), (RX7, TX7, 9), (RX8, TX8, 10), (RX9, TX9, 3), (RX10, TX10, 6), (RX11, TX11, 57)]
