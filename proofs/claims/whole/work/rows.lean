section
-- ===== PART A: goes FIRST, ahead of the names: the tables' words, and 'selects' of the private methods out of them =====
/-- a private method of a class that the tables say can be made, by its rows of tables_1 -/
def lw_okq (q : MethodName × Nat) : Prop := (q.1.cls ≠ "java/lang/invoke/MethodHandle" ∧ q.1.cls ≠ "java/lang/invoke/VarHandle") ∧ Cond.instantiable q.1.cls q.2 ∈ tables_1 ∧ Cond.privateMethod q.1 ∈ tables_1 ∧ Cond.instanceMethod q.1 ∈ tables_1
theorem lw_p0 : lw_okq (⟨"PaymentHub$Text", "readNext", "()Z"⟩, 4) := ⟨⟨by decide +kernel, by decide +kernel⟩, List.mem_of_getElem? (i := 66) (by decide +kernel), List.mem_of_getElem? (i := 340) (by decide +kernel), List.mem_of_getElem? (i := 341) (by decide +kernel)⟩
theorem lw_p1 : lw_okq (⟨"PaymentHub$Text", "peek", "(I)I"⟩, 4) := ⟨⟨by decide +kernel, by decide +kernel⟩, List.mem_of_getElem? (i := 66) (by decide +kernel), List.mem_of_getElem? (i := 344) (by decide +kernel), List.mem_of_getElem? (i := 345) (by decide +kernel)⟩
theorem lw_p2 : lw_okq (⟨"PaymentHub$Text", "readSign", "()Z"⟩, 4) := ⟨⟨by decide +kernel, by decide +kernel⟩, List.mem_of_getElem? (i := 66) (by decide +kernel), List.mem_of_getElem? (i := 348) (by decide +kernel), List.mem_of_getElem? (i := 349) (by decide +kernel)⟩
theorem lw_p3 : lw_okq (⟨"PaymentHub$Text", "readComment", "()Z"⟩, 4) := ⟨⟨by decide +kernel, by decide +kernel⟩, List.mem_of_getElem? (i := 66) (by decide +kernel), List.mem_of_getElem? (i := 352) (by decide +kernel), List.mem_of_getElem? (i := 353) (by decide +kernel)⟩
theorem lw_p4 : lw_okq (⟨"PaymentHub$Text", "readEnd", "()Z"⟩, 4) := ⟨⟨by decide +kernel, by decide +kernel⟩, List.mem_of_getElem? (i := 66) (by decide +kernel), List.mem_of_getElem? (i := 356) (by decide +kernel), List.mem_of_getElem? (i := 357) (by decide +kernel)⟩
theorem lw_p5 : lw_okq (⟨"PaymentHub$Tree", "innermost", "()I"⟩, 10) := ⟨⟨by decide +kernel, by decide +kernel⟩, List.mem_of_getElem? (i := 27) (by decide +kernel), List.mem_of_getElem? (i := 364) (by decide +kernel), List.mem_of_getElem? (i := 365) (by decide +kernel)⟩
theorem lw_p6 : lw_okq (⟨"PaymentHub$Tree", "has", "(I)Z"⟩, 10) := ⟨⟨by decide +kernel, by decide +kernel⟩, List.mem_of_getElem? (i := 27) (by decide +kernel), List.mem_of_getElem? (i := 368) (by decide +kernel), List.mem_of_getElem? (i := 369) (by decide +kernel)⟩
theorem lw_p7 : lw_okq (⟨"PaymentHub$Text", "skipBlanks", "()V"⟩, 4) := ⟨⟨by decide +kernel, by decide +kernel⟩, List.mem_of_getElem? (i := 66) (by decide +kernel), List.mem_of_getElem? (i := 372) (by decide +kernel), List.mem_of_getElem? (i := 373) (by decide +kernel)⟩
theorem lw_p8 : lw_okq (⟨"PaymentHub$Text", "readClosingSign", "()Z"⟩, 4) := ⟨⟨by decide +kernel, by decide +kernel⟩, List.mem_of_getElem? (i := 66) (by decide +kernel), List.mem_of_getElem? (i := 376) (by decide +kernel), List.mem_of_getElem? (i := 377) (by decide +kernel)⟩
theorem lw_p9 : lw_okq (⟨"PaymentHub$Text", "readBegin", "()Z"⟩, 4) := ⟨⟨by decide +kernel, by decide +kernel⟩, List.mem_of_getElem? (i := 66) (by decide +kernel), List.mem_of_getElem? (i := 380) (by decide +kernel), List.mem_of_getElem? (i := 381) (by decide +kernel)⟩
theorem lw_p10 : lw_okq (⟨"PaymentHub$Text", "readReference", "()Z"⟩, 4) := ⟨⟨by decide +kernel, by decide +kernel⟩, List.mem_of_getElem? (i := 66) (by decide +kernel), List.mem_of_getElem? (i := 391) (by decide +kernel), List.mem_of_getElem? (i := 392) (by decide +kernel)⟩
theorem lw_p11 : lw_okq (⟨"PaymentHub$Message", "takeRow", "(ILjava/lang/String;I)Z"⟩, 5) := ⟨⟨by decide +kernel, by decide +kernel⟩, List.mem_of_getElem? (i := 85) (by decide +kernel), List.mem_of_getElem? (i := 433) (by decide +kernel), List.mem_of_getElem? (i := 434) (by decide +kernel)⟩
theorem lw_p12 : lw_okq (⟨"PaymentHub$Value", "trim", "(II)V"⟩, 3) := ⟨⟨by decide +kernel, by decide +kernel⟩, List.mem_of_getElem? (i := 91) (by decide +kernel), List.mem_of_getElem? (i := 509) (by decide +kernel), List.mem_of_getElem? (i := 510) (by decide +kernel)⟩
theorem lw_p13 : lw_okq (⟨"PaymentHub$Value", "name", "()I"⟩, 3) := ⟨⟨by decide +kernel, by decide +kernel⟩, List.mem_of_getElem? (i := 91) (by decide +kernel), List.mem_of_getElem? (i := 518) (by decide +kernel), List.mem_of_getElem? (i := 519) (by decide +kernel)⟩
theorem lw_p14 : lw_okq (⟨"PaymentHub$Value", "digits", "(III)I"⟩, 3) := ⟨⟨by decide +kernel, by decide +kernel⟩, List.mem_of_getElem? (i := 91) (by decide +kernel), List.mem_of_getElem? (i := 523) (by decide +kernel), List.mem_of_getElem? (i := 524) (by decide +kernel)⟩
theorem lw_p15 : lw_okq (⟨"PaymentHub$Value", "accountNumber", "()I"⟩, 3) := ⟨⟨by decide +kernel, by decide +kernel⟩, List.mem_of_getElem? (i := 91) (by decide +kernel), List.mem_of_getElem? (i := 527) (by decide +kernel), List.mem_of_getElem? (i := 528) (by decide +kernel)⟩
def lw_privs_1 : List (MethodName × Nat) := [(⟨"PaymentHub$Text", "readNext", "()Z"⟩, 4), (⟨"PaymentHub$Text", "peek", "(I)I"⟩, 4), (⟨"PaymentHub$Text", "readSign", "()Z"⟩, 4), (⟨"PaymentHub$Text", "readComment", "()Z"⟩, 4), (⟨"PaymentHub$Text", "readEnd", "()Z"⟩, 4), (⟨"PaymentHub$Tree", "innermost", "()I"⟩, 10), (⟨"PaymentHub$Tree", "has", "(I)Z"⟩, 10), (⟨"PaymentHub$Text", "skipBlanks", "()V"⟩, 4), (⟨"PaymentHub$Text", "readClosingSign", "()Z"⟩, 4), (⟨"PaymentHub$Text", "readBegin", "()Z"⟩, 4), (⟨"PaymentHub$Text", "readReference", "()Z"⟩, 4), (⟨"PaymentHub$Message", "takeRow", "(ILjava/lang/String;I)Z"⟩, 5), (⟨"PaymentHub$Value", "trim", "(II)V"⟩, 3), (⟨"PaymentHub$Value", "name", "()I"⟩, 3), (⟨"PaymentHub$Value", "digits", "(III)I"⟩, 3), (⟨"PaymentHub$Value", "accountNumber", "()I"⟩, 3)]
theorem lw_r1 : ∀ q ∈ lw_privs_1, lw_okq q := List.forall_mem_cons.mpr ⟨lw_p0, List.forall_mem_cons.mpr ⟨lw_p1, List.forall_mem_cons.mpr ⟨lw_p2, List.forall_mem_cons.mpr ⟨lw_p3, List.forall_mem_cons.mpr ⟨lw_p4, List.forall_mem_cons.mpr ⟨lw_p5, List.forall_mem_cons.mpr ⟨lw_p6, List.forall_mem_cons.mpr ⟨lw_p7, List.forall_mem_cons.mpr ⟨lw_p8, List.forall_mem_cons.mpr ⟨lw_p9, List.forall_mem_cons.mpr ⟨lw_p10, List.forall_mem_cons.mpr ⟨lw_p11, List.forall_mem_cons.mpr ⟨lw_p12, List.forall_mem_cons.mpr ⟨lw_p13, List.forall_mem_cons.mpr ⟨lw_p14, List.forall_mem_cons.mpr ⟨lw_p15, fun _ h => absurd h List.not_mem_nil⟩⟩⟩⟩⟩⟩⟩⟩⟩⟩⟩⟩⟩⟩⟩⟩
theorem lw_p16 : lw_okq (⟨"PaymentHub$Value", "verdict", "()I"⟩, 3) := ⟨⟨by decide +kernel, by decide +kernel⟩, List.mem_of_getElem? (i := 91) (by decide +kernel), List.mem_of_getElem? (i := 531) (by decide +kernel), List.mem_of_getElem? (i := 532) (by decide +kernel)⟩
theorem lw_p17 : lw_okq (⟨"PaymentHub$Value", "amount", "()I"⟩, 3) := ⟨⟨by decide +kernel, by decide +kernel⟩, List.mem_of_getElem? (i := 91) (by decide +kernel), List.mem_of_getElem? (i := 535) (by decide +kernel), List.mem_of_getElem? (i := 536) (by decide +kernel)⟩
theorem lw_p18 : lw_okq (⟨"PaymentHub", "ruleBroken", "()I"⟩, 6) := ⟨⟨by decide +kernel, by decide +kernel⟩, List.mem_of_getElem? (i := 19) (by decide +kernel), List.mem_of_getElem? (i := 544) (by decide +kernel), List.mem_of_getElem? (i := 545) (by decide +kernel)⟩
theorem lw_p19 : lw_okq (⟨"PaymentHub", "ruleBrokenByPayment", "()I"⟩, 6) := ⟨⟨by decide +kernel, by decide +kernel⟩, List.mem_of_getElem? (i := 19) (by decide +kernel), List.mem_of_getElem? (i := 564) (by decide +kernel), List.mem_of_getElem? (i := 565) (by decide +kernel)⟩
theorem lw_p20 : lw_okq (⟨"PaymentHub", "ruleBrokenByFollower", "(I)I"⟩, 6) := ⟨⟨by decide +kernel, by decide +kernel⟩, List.mem_of_getElem? (i := 19) (by decide +kernel), List.mem_of_getElem? (i := 633) (by decide +kernel), List.mem_of_getElem? (i := 634) (by decide +kernel)⟩
theorem lw_p21 : lw_okq (⟨"PaymentHub", "ruleBrokenByReturn", "()I"⟩, 6) := ⟨⟨by decide +kernel, by decide +kernel⟩, List.mem_of_getElem? (i := 19) (by decide +kernel), List.mem_of_getElem? (i := 650) (by decide +kernel), List.mem_of_getElem? (i := 651) (by decide +kernel)⟩
theorem lw_p22 : lw_okq (⟨"PaymentHub$Accounts", "has", "(I)Z"⟩, 5) := ⟨⟨by decide +kernel, by decide +kernel⟩, List.mem_of_getElem? (i := 184) (by decide +kernel), List.mem_of_getElem? (i := 674) (by decide +kernel), List.mem_of_getElem? (i := 675) (by decide +kernel)⟩
theorem lw_p23 : lw_okq (⟨"PaymentHub$Form", "addRow", "(LPaymentHub$Message;ILjava/lang/String;)V"⟩, 1) := ⟨⟨by decide +kernel, by decide +kernel⟩, List.mem_of_getElem? (i := 158) (by decide +kernel), List.mem_of_getElem? (i := 696) (by decide +kernel), List.mem_of_getElem? (i := 697) (by decide +kernel)⟩
theorem lw_p24 : lw_okq (⟨"PaymentHub$Form", "addBegin", "(I)V"⟩, 1) := ⟨⟨by decide +kernel, by decide +kernel⟩, List.mem_of_getElem? (i := 158) (by decide +kernel), List.mem_of_getElem? (i := 702) (by decide +kernel), List.mem_of_getElem? (i := 703) (by decide +kernel)⟩
theorem lw_p25 : lw_okq (⟨"PaymentHub$Form", "addValue", "(II)V"⟩, 1) := ⟨⟨by decide +kernel, by decide +kernel⟩, List.mem_of_getElem? (i := 158) (by decide +kernel), List.mem_of_getElem? (i := 708) (by decide +kernel), List.mem_of_getElem? (i := 709) (by decide +kernel)⟩
theorem lw_p26 : lw_okq (⟨"PaymentHub$Form", "addNumber", "(I)V"⟩, 1) := ⟨⟨by decide +kernel, by decide +kernel⟩, List.mem_of_getElem? (i := 158) (by decide +kernel), List.mem_of_getElem? (i := 712) (by decide +kernel), List.mem_of_getElem? (i := 713) (by decide +kernel)⟩
theorem lw_p27 : lw_okq (⟨"PaymentHub$Form", "addTwoDigits", "(I)V"⟩, 1) := ⟨⟨by decide +kernel, by decide +kernel⟩, List.mem_of_getElem? (i := 158) (by decide +kernel), List.mem_of_getElem? (i := 718) (by decide +kernel), List.mem_of_getElem? (i := 719) (by decide +kernel)⟩
theorem lw_p28 : lw_okq (⟨"PaymentHub$Form", "addName", "(I)V"⟩, 1) := ⟨⟨by decide +kernel, by decide +kernel⟩, List.mem_of_getElem? (i := 158) (by decide +kernel), List.mem_of_getElem? (i := 722) (by decide +kernel), List.mem_of_getElem? (i := 723) (by decide +kernel)⟩
theorem lw_p29 : lw_okq (⟨"PaymentHub$Form", "addEnd", "(I)V"⟩, 1) := ⟨⟨by decide +kernel, by decide +kernel⟩, List.mem_of_getElem? (i := 158) (by decide +kernel), List.mem_of_getElem? (i := 726) (by decide +kernel), List.mem_of_getElem? (i := 727) (by decide +kernel)⟩
theorem lw_p30 : lw_okq (⟨"PaymentHub$Records", "check", "()I"⟩, 9) := ⟨⟨by decide +kernel, by decide +kernel⟩, List.mem_of_getElem? (i := 123) (by decide +kernel), List.mem_of_getElem? (i := 737) (by decide +kernel), List.mem_of_getElem? (i := 738) (by decide +kernel)⟩
theorem lw_p31 : lw_okq (⟨"PaymentHub$Records", "append", "(I)V"⟩, 9) := ⟨⟨by decide +kernel, by decide +kernel⟩, List.mem_of_getElem? (i := 123) (by decide +kernel), List.mem_of_getElem? (i := 742) (by decide +kernel), List.mem_of_getElem? (i := 743) (by decide +kernel)⟩
def lw_privs_2 : List (MethodName × Nat) := [(⟨"PaymentHub$Value", "verdict", "()I"⟩, 3), (⟨"PaymentHub$Value", "amount", "()I"⟩, 3), (⟨"PaymentHub", "ruleBroken", "()I"⟩, 6), (⟨"PaymentHub", "ruleBrokenByPayment", "()I"⟩, 6), (⟨"PaymentHub", "ruleBrokenByFollower", "(I)I"⟩, 6), (⟨"PaymentHub", "ruleBrokenByReturn", "()I"⟩, 6), (⟨"PaymentHub$Accounts", "has", "(I)Z"⟩, 5), (⟨"PaymentHub$Form", "addRow", "(LPaymentHub$Message;ILjava/lang/String;)V"⟩, 1), (⟨"PaymentHub$Form", "addBegin", "(I)V"⟩, 1), (⟨"PaymentHub$Form", "addValue", "(II)V"⟩, 1), (⟨"PaymentHub$Form", "addNumber", "(I)V"⟩, 1), (⟨"PaymentHub$Form", "addTwoDigits", "(I)V"⟩, 1), (⟨"PaymentHub$Form", "addName", "(I)V"⟩, 1), (⟨"PaymentHub$Form", "addEnd", "(I)V"⟩, 1), (⟨"PaymentHub$Records", "check", "()I"⟩, 9), (⟨"PaymentHub$Records", "append", "(I)V"⟩, 9)]
theorem lw_r2 : ∀ q ∈ lw_privs_2, lw_okq q := List.forall_mem_cons.mpr ⟨lw_p16, List.forall_mem_cons.mpr ⟨lw_p17, List.forall_mem_cons.mpr ⟨lw_p18, List.forall_mem_cons.mpr ⟨lw_p19, List.forall_mem_cons.mpr ⟨lw_p20, List.forall_mem_cons.mpr ⟨lw_p21, List.forall_mem_cons.mpr ⟨lw_p22, List.forall_mem_cons.mpr ⟨lw_p23, List.forall_mem_cons.mpr ⟨lw_p24, List.forall_mem_cons.mpr ⟨lw_p25, List.forall_mem_cons.mpr ⟨lw_p26, List.forall_mem_cons.mpr ⟨lw_p27, List.forall_mem_cons.mpr ⟨lw_p28, List.forall_mem_cons.mpr ⟨lw_p29, List.forall_mem_cons.mpr ⟨lw_p30, List.forall_mem_cons.mpr ⟨lw_p31, fun _ h => absurd h List.not_mem_nil⟩⟩⟩⟩⟩⟩⟩⟩⟩⟩⟩⟩⟩⟩⟩⟩
theorem lw_p32 : lw_okq (⟨"PaymentHub$Ledger", "receive", "(LPaymentHub$Message;)V"⟩, 5) := ⟨⟨by decide +kernel, by decide +kernel⟩, List.mem_of_getElem? (i := 168) (by decide +kernel), List.mem_of_getElem? (i := 752) (by decide +kernel), List.mem_of_getElem? (i := 753) (by decide +kernel)⟩
theorem lw_p33 : lw_okq (⟨"PaymentHub$Transactions", "enqueue", "(I)V"⟩, 9) := ⟨⟨by decide +kernel, by decide +kernel⟩, List.mem_of_getElem? (i := 208) (by decide +kernel), List.mem_of_getElem? (i := 764) (by decide +kernel), List.mem_of_getElem? (i := 765) (by decide +kernel)⟩
theorem lw_p34 : lw_okq (⟨"PaymentHub$Ledger", "answer", "(II)V"⟩, 5) := ⟨⟨by decide +kernel, by decide +kernel⟩, List.mem_of_getElem? (i := 168) (by decide +kernel), List.mem_of_getElem? (i := 773) (by decide +kernel), List.mem_of_getElem? (i := 774) (by decide +kernel)⟩
theorem lw_p35 : lw_okq (⟨"PaymentHub$Ledger", "settle", "(I)V"⟩, 5) := ⟨⟨by decide +kernel, by decide +kernel⟩, List.mem_of_getElem? (i := 168) (by decide +kernel), List.mem_of_getElem? (i := 777) (by decide +kernel), List.mem_of_getElem? (i := 778) (by decide +kernel)⟩
theorem lw_p36 : lw_okq (⟨"PaymentHub$Ledger", "end", "(II)V"⟩, 5) := ⟨⟨by decide +kernel, by decide +kernel⟩, List.mem_of_getElem? (i := 168) (by decide +kernel), List.mem_of_getElem? (i := 795) (by decide +kernel), List.mem_of_getElem? (i := 796) (by decide +kernel)⟩
theorem lw_p37 : lw_okq (⟨"PaymentHub$Ledger", "giveBack", "(II)V"⟩, 5) := ⟨⟨by decide +kernel, by decide +kernel⟩, List.mem_of_getElem? (i := 168) (by decide +kernel), List.mem_of_getElem? (i := 816) (by decide +kernel), List.mem_of_getElem? (i := 817) (by decide +kernel)⟩
theorem lw_p38 : lw_okq (⟨"PaymentHub", "hold", "(I)I"⟩, 6) := ⟨⟨by decide +kernel, by decide +kernel⟩, List.mem_of_getElem? (i := 19) (by decide +kernel), List.mem_of_getElem? (i := 837) (by decide +kernel), List.mem_of_getElem? (i := 838) (by decide +kernel)⟩
theorem lw_p39 : lw_okq (⟨"PaymentHub", "letWait", "(I)I"⟩, 6) := ⟨⟨by decide +kernel, by decide +kernel⟩, List.mem_of_getElem? (i := 19) (by decide +kernel), List.mem_of_getElem? (i := 856) (by decide +kernel), List.mem_of_getElem? (i := 857) (by decide +kernel)⟩
theorem lw_p40 : lw_okq (⟨"PaymentHubModel", "replay", "()I"⟩, 57) := ⟨⟨by decide +kernel, by decide +kernel⟩, List.mem_of_getElem? (i := 988) (by decide +kernel), List.mem_of_getElem? (i := 995) (by decide +kernel), List.mem_of_getElem? (i := 996) (by decide +kernel)⟩
theorem lw_p41 : lw_okq (⟨"PaymentHubModel", "doRecord", "(I)V"⟩, 57) := ⟨⟨by decide +kernel, by decide +kernel⟩, List.mem_of_getElem? (i := 988) (by decide +kernel), List.mem_of_getElem? (i := 999) (by decide +kernel), List.mem_of_getElem? (i := 1000) (by decide +kernel)⟩
theorem lw_p42 : lw_okq (⟨"PaymentHubModel", "doMessage", "(I)V"⟩, 57) := ⟨⟨by decide +kernel, by decide +kernel⟩, List.mem_of_getElem? (i := 988) (by decide +kernel), List.mem_of_getElem? (i := 1003) (by decide +kernel), List.mem_of_getElem? (i := 1004) (by decide +kernel)⟩
theorem lw_p43 : lw_okq (⟨"PaymentHubModel", "next", "(IC)I"⟩, 57) := ⟨⟨by decide +kernel, by decide +kernel⟩, List.mem_of_getElem? (i := 988) (by decide +kernel), List.mem_of_getElem? (i := 1007) (by decide +kernel), List.mem_of_getElem? (i := 1008) (by decide +kernel)⟩
theorem lw_p44 : lw_okq (⟨"PaymentHubModel", "isTag", "(IC)Z"⟩, 57) := ⟨⟨by decide +kernel, by decide +kernel⟩, List.mem_of_getElem? (i := 988) (by decide +kernel), List.mem_of_getElem? (i := 1011) (by decide +kernel), List.mem_of_getElem? (i := 1012) (by decide +kernel)⟩
theorem lw_p45 : lw_okq (⟨"PaymentHubModel", "nameAt", "(I)I"⟩, 57) := ⟨⟨by decide +kernel, by decide +kernel⟩, List.mem_of_getElem? (i := 988) (by decide +kernel), List.mem_of_getElem? (i := 1015) (by decide +kernel), List.mem_of_getElem? (i := 1016) (by decide +kernel)⟩
theorem lw_p46 : lw_okq (⟨"PaymentHubModel", "doPart", "(II)V"⟩, 57) := ⟨⟨by decide +kernel, by decide +kernel⟩, List.mem_of_getElem? (i := 988) (by decide +kernel), List.mem_of_getElem? (i := 1019) (by decide +kernel), List.mem_of_getElem? (i := 1020) (by decide +kernel)⟩
theorem lw_p47 : lw_okq (⟨"PaymentHubModel", "amountAt", "(I)I"⟩, 57) := ⟨⟨by decide +kernel, by decide +kernel⟩, List.mem_of_getElem? (i := 988) (by decide +kernel), List.mem_of_getElem? (i := 1023) (by decide +kernel), List.mem_of_getElem? (i := 1024) (by decide +kernel)⟩
def lw_privs_3 : List (MethodName × Nat) := [(⟨"PaymentHub$Ledger", "receive", "(LPaymentHub$Message;)V"⟩, 5), (⟨"PaymentHub$Transactions", "enqueue", "(I)V"⟩, 9), (⟨"PaymentHub$Ledger", "answer", "(II)V"⟩, 5), (⟨"PaymentHub$Ledger", "settle", "(I)V"⟩, 5), (⟨"PaymentHub$Ledger", "end", "(II)V"⟩, 5), (⟨"PaymentHub$Ledger", "giveBack", "(II)V"⟩, 5), (⟨"PaymentHub", "hold", "(I)I"⟩, 6), (⟨"PaymentHub", "letWait", "(I)I"⟩, 6), (⟨"PaymentHubModel", "replay", "()I"⟩, 57), (⟨"PaymentHubModel", "doRecord", "(I)V"⟩, 57), (⟨"PaymentHubModel", "doMessage", "(I)V"⟩, 57), (⟨"PaymentHubModel", "next", "(IC)I"⟩, 57), (⟨"PaymentHubModel", "isTag", "(IC)Z"⟩, 57), (⟨"PaymentHubModel", "nameAt", "(I)I"⟩, 57), (⟨"PaymentHubModel", "doPart", "(II)V"⟩, 57), (⟨"PaymentHubModel", "amountAt", "(I)I"⟩, 57)]
theorem lw_r3 : ∀ q ∈ lw_privs_3, lw_okq q := List.forall_mem_cons.mpr ⟨lw_p32, List.forall_mem_cons.mpr ⟨lw_p33, List.forall_mem_cons.mpr ⟨lw_p34, List.forall_mem_cons.mpr ⟨lw_p35, List.forall_mem_cons.mpr ⟨lw_p36, List.forall_mem_cons.mpr ⟨lw_p37, List.forall_mem_cons.mpr ⟨lw_p38, List.forall_mem_cons.mpr ⟨lw_p39, List.forall_mem_cons.mpr ⟨lw_p40, List.forall_mem_cons.mpr ⟨lw_p41, List.forall_mem_cons.mpr ⟨lw_p42, List.forall_mem_cons.mpr ⟨lw_p43, List.forall_mem_cons.mpr ⟨lw_p44, List.forall_mem_cons.mpr ⟨lw_p45, List.forall_mem_cons.mpr ⟨lw_p46, List.forall_mem_cons.mpr ⟨lw_p47, fun _ h => absurd h List.not_mem_nil⟩⟩⟩⟩⟩⟩⟩⟩⟩⟩⟩⟩⟩⟩⟩⟩
theorem lw_p48 : lw_okq (⟨"PaymentHubModel", "known", "(I)I"⟩, 57) := ⟨⟨by decide +kernel, by decide +kernel⟩, List.mem_of_getElem? (i := 988) (by decide +kernel), List.mem_of_getElem? (i := 1027) (by decide +kernel), List.mem_of_getElem? (i := 1028) (by decide +kernel)⟩
theorem lw_p49 : lw_okq (⟨"PaymentHubModel", "reject", "(I)V"⟩, 57) := ⟨⟨by decide +kernel, by decide +kernel⟩, List.mem_of_getElem? (i := 988) (by decide +kernel), List.mem_of_getElem? (i := 1031) (by decide +kernel), List.mem_of_getElem? (i := 1032) (by decide +kernel)⟩
theorem lw_p50 : lw_okq (⟨"PaymentHubModel", "tell", "(III)V"⟩, 57) := ⟨⟨by decide +kernel, by decide +kernel⟩, List.mem_of_getElem? (i := 988) (by decide +kernel), List.mem_of_getElem? (i := 1035) (by decide +kernel), List.mem_of_getElem? (i := 1036) (by decide +kernel)⟩
theorem lw_p51 : lw_okq (⟨"PaymentHubModel", "enter", "(II)V"⟩, 57) := ⟨⟨by decide +kernel, by decide +kernel⟩, List.mem_of_getElem? (i := 988) (by decide +kernel), List.mem_of_getElem? (i := 1039) (by decide +kernel), List.mem_of_getElem? (i := 1040) (by decide +kernel)⟩
theorem lw_p52 : lw_okq (⟨"PaymentHubModel", "leaveRow", "(I)V"⟩, 57) := ⟨⟨by decide +kernel, by decide +kernel⟩, List.mem_of_getElem? (i := 988) (by decide +kernel), List.mem_of_getElem? (i := 1043) (by decide +kernel), List.mem_of_getElem? (i := 1044) (by decide +kernel)⟩
theorem lw_p53 : lw_okq (⟨"PaymentHubModel", "broken", "()I"⟩, 57) := ⟨⟨by decide +kernel, by decide +kernel⟩, List.mem_of_getElem? (i := 988) (by decide +kernel), List.mem_of_getElem? (i := 1231) (by decide +kernel), List.mem_of_getElem? (i := 1232) (by decide +kernel)⟩
theorem lw_p54 : lw_okq (⟨"PaymentHubModel", "isDocument", "()Z"⟩, 57) := ⟨⟨by decide +kernel, by decide +kernel⟩, List.mem_of_getElem? (i := 988) (by decide +kernel), List.mem_of_getElem? (i := 1235) (by decide +kernel), List.mem_of_getElem? (i := 1236) (by decide +kernel)⟩
theorem lw_p55 : lw_okq (⟨"PaymentHubModel", "sees", "(IC)Z"⟩, 57) := ⟨⟨by decide +kernel, by decide +kernel⟩, List.mem_of_getElem? (i := 988) (by decide +kernel), List.mem_of_getElem? (i := 1239) (by decide +kernel), List.mem_of_getElem? (i := 1240) (by decide +kernel)⟩
theorem lw_p56 : lw_okq (⟨"PaymentHubModel", "comment", "()V"⟩, 57) := ⟨⟨by decide +kernel, by decide +kernel⟩, List.mem_of_getElem? (i := 988) (by decide +kernel), List.mem_of_getElem? (i := 1243) (by decide +kernel), List.mem_of_getElem? (i := 1244) (by decide +kernel)⟩
theorem lw_p57 : lw_okq (⟨"PaymentHubModel", "closing", "()V"⟩, 57) := ⟨⟨by decide +kernel, by decide +kernel⟩, List.mem_of_getElem? (i := 988) (by decide +kernel), List.mem_of_getElem? (i := 1247) (by decide +kernel), List.mem_of_getElem? (i := 1248) (by decide +kernel)⟩
theorem lw_p58 : lw_okq (⟨"PaymentHubModel", "skipBlanks", "()V"⟩, 57) := ⟨⟨by decide +kernel, by decide +kernel⟩, List.mem_of_getElem? (i := 988) (by decide +kernel), List.mem_of_getElem? (i := 1251) (by decide +kernel), List.mem_of_getElem? (i := 1252) (by decide +kernel)⟩
theorem lw_p59 : lw_okq (⟨"PaymentHubModel", "opening", "()V"⟩, 57) := ⟨⟨by decide +kernel, by decide +kernel⟩, List.mem_of_getElem? (i := 988) (by decide +kernel), List.mem_of_getElem? (i := 1255) (by decide +kernel), List.mem_of_getElem? (i := 1256) (by decide +kernel)⟩
theorem lw_p60 : lw_okq (⟨"PaymentHubModel", "reference", "()V"⟩, 57) := ⟨⟨by decide +kernel, by decide +kernel⟩, List.mem_of_getElem? (i := 988) (by decide +kernel), List.mem_of_getElem? (i := 1262) (by decide +kernel), List.mem_of_getElem? (i := 1263) (by decide +kernel)⟩
theorem lw_p61 : lw_okq (⟨"PaymentHubModel", "letterIn", "(C)V"⟩, 57) := ⟨⟨by decide +kernel, by decide +kernel⟩, List.mem_of_getElem? (i := 988) (by decide +kernel), List.mem_of_getElem? (i := 1269) (by decide +kernel), List.mem_of_getElem? (i := 1270) (by decide +kernel)⟩
theorem lw_p62 : lw_okq (⟨"PaymentHubModel", "isValid", "()Z"⟩, 57) := ⟨⟨by decide +kernel, by decide +kernel⟩, List.mem_of_getElem? (i := 988) (by decide +kernel), List.mem_of_getElem? (i := 1273) (by decide +kernel), List.mem_of_getElem? (i := 1274) (by decide +kernel)⟩
theorem lw_p63 : lw_okq (⟨"PaymentHubModel", "isLeaf", "(IIC)Z"⟩, 57) := ⟨⟨by decide +kernel, by decide +kernel⟩, List.mem_of_getElem? (i := 988) (by decide +kernel), List.mem_of_getElem? (i := 1277) (by decide +kernel), List.mem_of_getElem? (i := 1278) (by decide +kernel)⟩
def lw_privs_4 : List (MethodName × Nat) := [(⟨"PaymentHubModel", "known", "(I)I"⟩, 57), (⟨"PaymentHubModel", "reject", "(I)V"⟩, 57), (⟨"PaymentHubModel", "tell", "(III)V"⟩, 57), (⟨"PaymentHubModel", "enter", "(II)V"⟩, 57), (⟨"PaymentHubModel", "leaveRow", "(I)V"⟩, 57), (⟨"PaymentHubModel", "broken", "()I"⟩, 57), (⟨"PaymentHubModel", "isDocument", "()Z"⟩, 57), (⟨"PaymentHubModel", "sees", "(IC)Z"⟩, 57), (⟨"PaymentHubModel", "comment", "()V"⟩, 57), (⟨"PaymentHubModel", "closing", "()V"⟩, 57), (⟨"PaymentHubModel", "skipBlanks", "()V"⟩, 57), (⟨"PaymentHubModel", "opening", "()V"⟩, 57), (⟨"PaymentHubModel", "reference", "()V"⟩, 57), (⟨"PaymentHubModel", "letterIn", "(C)V"⟩, 57), (⟨"PaymentHubModel", "isValid", "()Z"⟩, 57), (⟨"PaymentHubModel", "isLeaf", "(IIC)Z"⟩, 57)]
theorem lw_r4 : ∀ q ∈ lw_privs_4, lw_okq q := List.forall_mem_cons.mpr ⟨lw_p48, List.forall_mem_cons.mpr ⟨lw_p49, List.forall_mem_cons.mpr ⟨lw_p50, List.forall_mem_cons.mpr ⟨lw_p51, List.forall_mem_cons.mpr ⟨lw_p52, List.forall_mem_cons.mpr ⟨lw_p53, List.forall_mem_cons.mpr ⟨lw_p54, List.forall_mem_cons.mpr ⟨lw_p55, List.forall_mem_cons.mpr ⟨lw_p56, List.forall_mem_cons.mpr ⟨lw_p57, List.forall_mem_cons.mpr ⟨lw_p58, List.forall_mem_cons.mpr ⟨lw_p59, List.forall_mem_cons.mpr ⟨lw_p60, List.forall_mem_cons.mpr ⟨lw_p61, List.forall_mem_cons.mpr ⟨lw_p62, List.forall_mem_cons.mpr ⟨lw_p63, fun _ h => absurd h List.not_mem_nil⟩⟩⟩⟩⟩⟩⟩⟩⟩⟩⟩⟩⟩⟩⟩⟩
theorem lw_p64 : lw_okq (⟨"PaymentHubModel", "child", "(II)I"⟩, 57) := ⟨⟨by decide +kernel, by decide +kernel⟩, List.mem_of_getElem? (i := 988) (by decide +kernel), List.mem_of_getElem? (i := 1281) (by decide +kernel), List.mem_of_getElem? (i := 1282) (by decide +kernel)⟩
theorem lw_p65 : lw_okq (⟨"PaymentHubModel", "name", "(I)I"⟩, 57) := ⟨⟨by decide +kernel, by decide +kernel⟩, List.mem_of_getElem? (i := 988) (by decide +kernel), List.mem_of_getElem? (i := 1285) (by decide +kernel), List.mem_of_getElem? (i := 1286) (by decide +kernel)⟩
theorem lw_p66 : lw_okq (⟨"PaymentHubModel", "small", "(II)I"⟩, 57) := ⟨⟨by decide +kernel, by decide +kernel⟩, List.mem_of_getElem? (i := 988) (by decide +kernel), List.mem_of_getElem? (i := 1289) (by decide +kernel), List.mem_of_getElem? (i := 1290) (by decide +kernel)⟩
theorem lw_p67 : lw_okq (⟨"PaymentHubModel", "amount", "(I)I"⟩, 57) := ⟨⟨by decide +kernel, by decide +kernel⟩, List.mem_of_getElem? (i := 988) (by decide +kernel), List.mem_of_getElem? (i := 1293) (by decide +kernel), List.mem_of_getElem? (i := 1294) (by decide +kernel)⟩
theorem lw_p68 : lw_okq (⟨"PaymentHubModel", "readPart", "(I)Z"⟩, 57) := ⟨⟨by decide +kernel, by decide +kernel⟩, List.mem_of_getElem? (i := 988) (by decide +kernel), List.mem_of_getElem? (i := 1297) (by decide +kernel), List.mem_of_getElem? (i := 1298) (by decide +kernel)⟩
theorem lw_p69 : lw_okq (⟨"PaymentHubModel", "placeOf", "(I)I"⟩, 57) := ⟨⟨by decide +kernel, by decide +kernel⟩, List.mem_of_getElem? (i := 988) (by decide +kernel), List.mem_of_getElem? (i := 1301) (by decide +kernel), List.mem_of_getElem? (i := 1302) (by decide +kernel)⟩
theorem lw_p70 : lw_okq (⟨"PaymentHubModel", "brokenByPayment", "()I"⟩, 57) := ⟨⟨by decide +kernel, by decide +kernel⟩, List.mem_of_getElem? (i := 988) (by decide +kernel), List.mem_of_getElem? (i := 1305) (by decide +kernel), List.mem_of_getElem? (i := 1306) (by decide +kernel)⟩
theorem lw_p71 : lw_okq (⟨"PaymentHubModel", "brokenByAnswer", "(Z)I"⟩, 57) := ⟨⟨by decide +kernel, by decide +kernel⟩, List.mem_of_getElem? (i := 988) (by decide +kernel), List.mem_of_getElem? (i := 1312) (by decide +kernel), List.mem_of_getElem? (i := 1313) (by decide +kernel)⟩
theorem lw_p72 : lw_okq (⟨"PaymentHubModel", "canonical", "()V"⟩, 57) := ⟨⟨by decide +kernel, by decide +kernel⟩, List.mem_of_getElem? (i := 988) (by decide +kernel), List.mem_of_getElem? (i := 1316) (by decide +kernel), List.mem_of_getElem? (i := 1317) (by decide +kernel)⟩
theorem lw_p73 : lw_okq (⟨"PaymentHubModel", "tagOut", "(CZ)V"⟩, 57) := ⟨⟨by decide +kernel, by decide +kernel⟩, List.mem_of_getElem? (i := 988) (by decide +kernel), List.mem_of_getElem? (i := 1320) (by decide +kernel), List.mem_of_getElem? (i := 1321) (by decide +kernel)⟩
theorem lw_p74 : lw_okq (⟨"PaymentHubModel", "byteOut", "(I)V"⟩, 57) := ⟨⟨by decide +kernel, by decide +kernel⟩, List.mem_of_getElem? (i := 988) (by decide +kernel), List.mem_of_getElem? (i := 1324) (by decide +kernel), List.mem_of_getElem? (i := 1325) (by decide +kernel)⟩
theorem lw_p75 : lw_okq (⟨"PaymentHubModel", "leafOut", "(I)V"⟩, 57) := ⟨⟨by decide +kernel, by decide +kernel⟩, List.mem_of_getElem? (i := 988) (by decide +kernel), List.mem_of_getElem? (i := 1328) (by decide +kernel), List.mem_of_getElem? (i := 1329) (by decide +kernel)⟩
theorem lw_p76 : lw_okq (⟨"PaymentHubModel", "numberOut", "(I)V"⟩, 57) := ⟨⟨by decide +kernel, by decide +kernel⟩, List.mem_of_getElem? (i := 988) (by decide +kernel), List.mem_of_getElem? (i := 1332) (by decide +kernel), List.mem_of_getElem? (i := 1333) (by decide +kernel)⟩
theorem lw_p77 : lw_okq (⟨"PaymentHubModel", "write", "(I)Z"⟩, 57) := ⟨⟨by decide +kernel, by decide +kernel⟩, List.mem_of_getElem? (i := 988) (by decide +kernel), List.mem_of_getElem? (i := 1336) (by decide +kernel), List.mem_of_getElem? (i := 1337) (by decide +kernel)⟩
theorem lw_p78 : lw_okq (⟨"PaymentHubModel", "writeOne", "(II)Z"⟩, 57) := ⟨⟨by decide +kernel, by decide +kernel⟩, List.mem_of_getElem? (i := 988) (by decide +kernel), List.mem_of_getElem? (i := 1344) (by decide +kernel), List.mem_of_getElem? (i := 1345) (by decide +kernel)⟩
def lw_privs_5 : List (MethodName × Nat) := [(⟨"PaymentHubModel", "child", "(II)I"⟩, 57), (⟨"PaymentHubModel", "name", "(I)I"⟩, 57), (⟨"PaymentHubModel", "small", "(II)I"⟩, 57), (⟨"PaymentHubModel", "amount", "(I)I"⟩, 57), (⟨"PaymentHubModel", "readPart", "(I)Z"⟩, 57), (⟨"PaymentHubModel", "placeOf", "(I)I"⟩, 57), (⟨"PaymentHubModel", "brokenByPayment", "()I"⟩, 57), (⟨"PaymentHubModel", "brokenByAnswer", "(Z)I"⟩, 57), (⟨"PaymentHubModel", "canonical", "()V"⟩, 57), (⟨"PaymentHubModel", "tagOut", "(CZ)V"⟩, 57), (⟨"PaymentHubModel", "byteOut", "(I)V"⟩, 57), (⟨"PaymentHubModel", "leafOut", "(I)V"⟩, 57), (⟨"PaymentHubModel", "numberOut", "(I)V"⟩, 57), (⟨"PaymentHubModel", "write", "(I)Z"⟩, 57), (⟨"PaymentHubModel", "writeOne", "(II)Z"⟩, 57)]
theorem lw_r5 : ∀ q ∈ lw_privs_5, lw_okq q := List.forall_mem_cons.mpr ⟨lw_p64, List.forall_mem_cons.mpr ⟨lw_p65, List.forall_mem_cons.mpr ⟨lw_p66, List.forall_mem_cons.mpr ⟨lw_p67, List.forall_mem_cons.mpr ⟨lw_p68, List.forall_mem_cons.mpr ⟨lw_p69, List.forall_mem_cons.mpr ⟨lw_p70, List.forall_mem_cons.mpr ⟨lw_p71, List.forall_mem_cons.mpr ⟨lw_p72, List.forall_mem_cons.mpr ⟨lw_p73, List.forall_mem_cons.mpr ⟨lw_p74, List.forall_mem_cons.mpr ⟨lw_p75, List.forall_mem_cons.mpr ⟨lw_p76, List.forall_mem_cons.mpr ⟨lw_p77, List.forall_mem_cons.mpr ⟨lw_p78, fun _ h => absurd h List.not_mem_nil⟩⟩⟩⟩⟩⟩⟩⟩⟩⟩⟩⟩⟩⟩⟩
def lw_privs : List (MethodName × Nat) := lw_privs_1 ++ (lw_privs_2 ++ (lw_privs_3 ++ (lw_privs_4 ++ (lw_privs_5))))
def lw_tbl : List Cond := k2_sels lw_privs ++ tables_1
theorem lw_privs_ok : ∀ q ∈ lw_privs, lw_okq q := by
  show ∀ q ∈ lw_privs_1 ++ (lw_privs_2 ++ (lw_privs_3 ++ (lw_privs_4 ++ (lw_privs_5)))), lw_okq q
  exact List.forall_mem_append.mpr ⟨lw_r1, List.forall_mem_append.mpr ⟨lw_r2, List.forall_mem_append.mpr ⟨lw_r3, List.forall_mem_append.mpr ⟨lw_r4, lw_r5⟩⟩⟩⟩
/-! ===== BEGIN words of one list among another's, by their places ===== -/
theorem goodIn_r {big : List Cond} (ws : List Cond) (ps : List Nat) (hp : ws = ps.filterMap (fun i => big[i]?)) (h : ws.all goodWord = true) : GoodIn big ws := by
  intro w hw
  have h1 := List.all_eq_true.mp h w hw
  rw [hp] at hw
  obtain ⟨i, -, hi⟩ := List.mem_filterMap.mp hw
  have hm : w ∈ big := by first | exact List.mem_of_getElem? hi | exact List.getElem?_mem hi
  exact ⟨hm, good_of_word h1⟩
theorem goodIn_app {big a b : List Cond} (ha : GoodIn big a) (hb : GoodIn big b) : GoodIn big (a ++ b) := fun w h => (List.mem_append.mp h).elim (ha w) (hb w)
theorem goodIn_ca {big a b : List Cond} {c : Cond} (ha : GoodIn big (c :: a)) (hb : GoodIn big b) : GoodIn big (c :: (a ++ b)) := fun w h => (List.mem_cons.mp h).elim (fun e => ha w (List.mem_cons.mpr (Or.inl e))) (fun h => (List.mem_append.mp h).elim (fun h => ha w (List.mem_cons.mpr (Or.inr h))) (hb w))
theorem goodIn_sub {big ws : List Cond} (hm : ∀ w ∈ ws, w ∈ big) (h : ws.all goodWord = true) : GoodIn big ws := fun w hw => ⟨hm w hw, good_of_word (List.all_eq_true.mp h w hw)⟩
/-! ===== END ===== -/

/-! ===== BEGIN printed: names, fields, word lists, decode rows ===== -/
def RX0 : String := "PaymentHub$Accounts"
def TX0 : u_T := fun k => match k with
  | 0 => ("PaymentHub$Accounts", "limit", "I", true)
  | 1 => ("PaymentHub$Accounts", "balances", "[I", true)
  | 2 => ("PaymentHub$Accounts", "reserved", "[I", true)
  | 3 => ("PaymentHub$Accounts", "counts", "[I", true)
  | _ => ("PaymentHub$Accounts", "entries", "[[I", true)
def tyX0 : Nat → FieldType := fun k => match k with
  | 0 => .int
  | 1 => .array .int
  | 2 => .array .int
  | 3 => .array .int
  | _ => .array (.array .int)
abbrev wsX00 : List Cond := u_ws RX0 TX0 5
theorem nmX0 : ∀ a, a < 5 → ∀ b, b < 5 → a ≠ b → (TX0 a).2.1 ≠ (TX0 b).2.1 := by decide +kernel
theorem tyX0_ok : ∀ k, k < 5 → parseFieldDescriptor (TX0 k).2.2.1 = some (tyX0 k) := by decide +kernel
abbrev cX0_init : ByteArray := prog_2_method_1_code
def yX0_init : MethodName := ⟨RX0, "<init>", "(II)V"⟩
abbrev cX0_available : ByteArray := prog_2_method_2_code
def yX0_available : MethodName := ⟨RX0, "available", "(I)I"⟩
abbrev cX0_balanceOf : ByteArray := prog_2_method_3_code
def yX0_balanceOf : MethodName := ⟨RX0, "balanceOf", "(I)I"⟩
abbrev cX0_reservedOn : ByteArray := prog_2_method_4_code
def yX0_reservedOn : MethodName := ⟨RX0, "reservedOn", "(I)I"⟩
abbrev cX0_entriesOf : ByteArray := prog_2_method_5_code
def yX0_entriesOf : MethodName := ⟨RX0, "entriesOf", "(I)I"⟩
abbrev cX0_entryAt : ByteArray := prog_2_method_6_code
def yX0_entryAt : MethodName := ⟨RX0, "entryAt", "(II)I"⟩
abbrev cX0_reserve : ByteArray := prog_2_method_7_code
def yX0_reserve : MethodName := ⟨RX0, "reserve", "(II)V"⟩
abbrev cX0_book : ByteArray := prog_2_method_8_code
def yX0_book : MethodName := ⟨RX0, "book", "(II)V"⟩
abbrev cX0_has : ByteArray := prog_2_method_9_code
def yX0_has : MethodName := ⟨RX0, "has", "(I)Z"⟩
def RX1 : String := "PaymentHub$Form"
def TX1 : u_T := fun k => match k with
  | _ => ("PaymentHub$Form", "records", "LPaymentHub$Records;", true)
def tyX1 : Nat → FieldType := fun k => match k with
  | _ => .object "PaymentHub$Records"
abbrev wsX10 : List Cond := u_ws RX1 TX1 1
theorem nmX1 : ∀ a, a < 1 → ∀ b, b < 1 → a ≠ b → (TX1 a).2.1 ≠ (TX1 b).2.1 := by decide +kernel
theorem tyX1_ok : ∀ k, k < 1 → parseFieldDescriptor (TX1 k).2.2.1 = some (tyX1 k) := by decide +kernel
abbrev cX1_init : ByteArray := prog_3_method_1_code
def yX1_init : MethodName := ⟨RX1, "<init>", "(LPaymentHub$Records;)V"⟩
abbrev cX1_compose : ByteArray := prog_3_method_2_code
def yX1_compose : MethodName := ⟨RX1, "compose", "(LPaymentHub$Message;)V"⟩
abbrev cX1_addRow : ByteArray := prog_3_method_3_code
def yX1_addRow : MethodName := ⟨RX1, "addRow", "(LPaymentHub$Message;ILjava/lang/String;)V"⟩
abbrev cX1_addBegin : ByteArray := prog_3_method_4_code
def yX1_addBegin : MethodName := ⟨RX1, "addBegin", "(I)V"⟩
abbrev cX1_addEnd : ByteArray := prog_3_method_5_code
def yX1_addEnd : MethodName := ⟨RX1, "addEnd", "(I)V"⟩
abbrev cX1_addValue : ByteArray := prog_3_method_6_code
def yX1_addValue : MethodName := ⟨RX1, "addValue", "(II)V"⟩
abbrev cX1_addName : ByteArray := prog_3_method_7_code
def yX1_addName : MethodName := ⟨RX1, "addName", "(I)V"⟩
abbrev cX1_addNumber : ByteArray := prog_3_method_8_code
def yX1_addNumber : MethodName := ⟨RX1, "addNumber", "(I)V"⟩
abbrev cX1_addTwoDigits : ByteArray := prog_3_method_9_code
def yX1_addTwoDigits : MethodName := ⟨RX1, "addTwoDigits", "(I)V"⟩
def RX2 : String := "PaymentHub$Ledger"
def TX2 : u_T := fun k => match k with
  | 0 => ("PaymentHub$Ledger", "accounts", "LPaymentHub$Accounts;", true)
  | 1 => ("PaymentHub$Ledger", "transactions", "LPaymentHub$Transactions;", true)
  | 2 => ("PaymentHub$Ledger", "reports", "LPaymentHub$Reports;", true)
  | 3 => ("PaymentHub$Ledger", "messageNames", "[I", true)
  | _ => ("PaymentHub$Ledger", "messages", "I", false)
def tyX2 : Nat → FieldType := fun k => match k with
  | 0 => .object "PaymentHub$Accounts"
  | 1 => .object "PaymentHub$Transactions"
  | 2 => .object "PaymentHub$Reports"
  | 3 => .array .int
  | _ => .int
abbrev wsX20 : List Cond := u_ws RX2 TX2 5
theorem nmX2 : ∀ a, a < 5 → ∀ b, b < 5 → a ≠ b → (TX2 a).2.1 ≠ (TX2 b).2.1 := by decide +kernel
theorem tyX2_ok : ∀ k, k < 5 → parseFieldDescriptor (TX2 k).2.2.1 = some (tyX2 k) := by decide +kernel
abbrev cX2_init : ByteArray := prog_4_method_1_code
def yX2_init : MethodName := ⟨RX2, "<init>", "(II)V"⟩
abbrev cX2_knows : ByteArray := prog_4_method_2_code
def yX2_knows : MethodName := ⟨RX2, "knows", "(I)Z"⟩
abbrev cX2_knowsAnyOf : ByteArray := prog_4_method_3_code
def yX2_knowsAnyOf : MethodName := ⟨RX2, "knowsAnyOf", "(LPaymentHub$Message;)Z"⟩
abbrev cX2_canPay : ByteArray := prog_4_method_4_code
def yX2_canPay : MethodName := ⟨RX2, "canPay", "(I)Z"⟩
abbrev cX2_take : ByteArray := prog_4_method_5_code
def yX2_take : MethodName := ⟨RX2, "take", "(LPaymentHub$Message;)V"⟩
abbrev cX2_hold : ByteArray := prog_4_method_6_code
def yX2_hold : MethodName := ⟨RX2, "hold", "(II)V"⟩
abbrev cX2_letWait : ByteArray := prog_4_method_7_code
def yX2_letWait : MethodName := ⟨RX2, "letWait", "(I)V"⟩
abbrev cX2_reject : ByteArray := prog_4_method_8_code
def yX2_reject : MethodName := ⟨RX2, "reject", "(I)V"⟩
abbrev cX2_receive : ByteArray := prog_4_method_9_code
def yX2_receive : MethodName := ⟨RX2, "receive", "(LPaymentHub$Message;)V"⟩
abbrev cX2_answer : ByteArray := prog_4_method_10_code
def yX2_answer : MethodName := ⟨RX2, "answer", "(II)V"⟩
abbrev cX2_settle : ByteArray := prog_4_method_11_code
def yX2_settle : MethodName := ⟨RX2, "settle", "(I)V"⟩
abbrev cX2_giveBack : ByteArray := prog_4_method_12_code
def yX2_giveBack : MethodName := ⟨RX2, "giveBack", "(II)V"⟩
abbrev cX2_end : ByteArray := prog_4_method_13_code
def yX2_end : MethodName := ⟨RX2, "end", "(II)V"⟩
def RX3 : String := "PaymentHub$Message"
def TX3 : u_T := fun k => match k with
  | 0 => ("PaymentHub$Message", "tree", "LPaymentHub$Tree;", true)
  | 1 => ("PaymentHub$Message", "value", "LPaymentHub$Value;", true)
  | 2 => ("PaymentHub$Message", "values", "[I", true)
  | 3 => ("PaymentHub$Message", "kind", "I", false)
  | _ => ("PaymentHub$Message", "size", "I", false)
def tyX3 : Nat → FieldType := fun k => match k with
  | 0 => .object "PaymentHub$Tree"
  | 1 => .object "PaymentHub$Value"
  | 2 => .array .int
  | 3 => .int
  | _ => .int
abbrev wsX30 : List Cond := u_ws RX3 TX3 5
theorem nmX3 : ∀ a, a < 5 → ∀ b, b < 5 → a ≠ b → (TX3 a).2.1 ≠ (TX3 b).2.1 := by decide +kernel
theorem tyX3_ok : ∀ k, k < 5 → parseFieldDescriptor (TX3 k).2.2.1 = some (tyX3 k) := by decide +kernel
abbrev cX3_init : ByteArray := prog_5_method_1_code
def yX3_init : MethodName := ⟨RX3, "<init>", "(LPaymentHub$Tree;)V"⟩
abbrev cX3_take : ByteArray := prog_5_method_2_code
def yX3_take : MethodName := ⟨RX3, "take", "()Z"⟩
abbrev cX3_takeRow : ByteArray := prog_5_method_3_code
def yX3_takeRow : MethodName := ⟨RX3, "takeRow", "(ILjava/lang/String;I)Z"⟩
abbrev cX3_kind : ByteArray := prog_5_method_4_code
def yX3_kind : MethodName := ⟨RX3, "kind", "()I"⟩
abbrev cX3_size : ByteArray := prog_5_method_5_code
def yX3_size : MethodName := ⟨RX3, "size", "()I"⟩
abbrev cX3_placeOf : ByteArray := prog_5_method_6_code
def yX3_placeOf : MethodName := ⟨RX3, "placeOf", "(I)I"⟩
abbrev cX3_valueAt : ByteArray := prog_5_method_7_code
def yX3_valueAt : MethodName := ⟨RX3, "valueAt", "(I)I"⟩
abbrev cX3_name : ByteArray := prog_5_method_8_code
def yX3_name : MethodName := ⟨RX3, "name", "()I"⟩
abbrev cX3_number : ByteArray := prog_5_method_9_code
def yX3_number : MethodName := ⟨RX3, "number", "()I"⟩
abbrev cX3_sum : ByteArray := prog_5_method_10_code
def yX3_sum : MethodName := ⟨RX3, "sum", "()I"⟩
abbrev cX3_original : ByteArray := prog_5_method_11_code
def yX3_original : MethodName := ⟨RX3, "original", "()I"⟩
abbrev cX3_verdict : ByteArray := prog_5_method_12_code
def yX3_verdict : MethodName := ⟨RX3, "verdict", "()I"⟩
abbrev cX3_returned : ByteArray := prog_5_method_13_code
def yX3_returned : MethodName := ⟨RX3, "returned", "()I"⟩
abbrev cX3_nameOf : ByteArray := prog_5_method_14_code
def yX3_nameOf : MethodName := ⟨RX3, "nameOf", "(I)I"⟩
abbrev cX3_debtorOf : ByteArray := prog_5_method_15_code
def yX3_debtorOf : MethodName := ⟨RX3, "debtorOf", "(I)I"⟩
abbrev cX3_creditorOf : ByteArray := prog_5_method_16_code
def yX3_creditorOf : MethodName := ⟨RX3, "creditorOf", "(I)I"⟩
abbrev cX3_amountOf : ByteArray := prog_5_method_17_code
def yX3_amountOf : MethodName := ⟨RX3, "amountOf", "(I)I"⟩
abbrev cX3_total : ByteArray := prog_5_method_18_code
def yX3_total : MethodName := ⟨RX3, "total", "()I"⟩
abbrev cX3_hasGoodAccounts : ByteArray := prog_5_method_19_code
def yX3_hasGoodAccounts : MethodName := ⟨RX3, "hasGoodAccounts", "()Z"⟩
abbrev cX3_joinsDifferentAccounts : ByteArray := prog_5_method_20_code
def yX3_joinsDifferentAccounts : MethodName := ⟨RX3, "joinsDifferentAccounts", "()Z"⟩
abbrev cX3_hasDifferentNames : ByteArray := prog_5_method_21_code
def yX3_hasDifferentNames : MethodName := ⟨RX3, "hasDifferentNames", "()Z"⟩
def RX4 : String := "PaymentHub$Records"
def TX4 : u_T := fun k => match k with
  | 0 => ("PaymentHub$Records", "bytes", "[B", true)
  | 1 => ("PaymentHub$Records", "length", "I", false)
  | 2 => ("PaymentHub$Records", "whole", "I", false)
  | 3 => ("PaymentHub$Records", "draft", "[I", true)
  | 4 => ("PaymentHub$Records", "drafted", "I", false)
  | 5 => ("PaymentHub$Records", "failing", "Z", false)
  | 6 => ("PaymentHub$Records", "left", "I", false)
  | 7 => ("PaymentHub$Records", "cut", "I", false)
  | _ => ("PaymentHub$Records", "down", "Z", false)
def tyX4 : Nat → FieldType := fun k => match k with
  | 0 => .array .byte
  | 1 => .int
  | 2 => .int
  | 3 => .array .int
  | 4 => .int
  | 5 => .boolean
  | 6 => .int
  | 7 => .int
  | _ => .boolean
abbrev wsX40 : List Cond := u_ws RX4 TX4 9
theorem nmX4 : ∀ a, a < 9 → ∀ b, b < 9 → a ≠ b → (TX4 a).2.1 ≠ (TX4 b).2.1 := by decide +kernel
theorem tyX4_ok : ∀ k, k < 9 → parseFieldDescriptor (TX4 k).2.2.1 = some (tyX4 k) := by decide +kernel
abbrev cX4_init : ByteArray := prog_6_method_1_code
def yX4_init : MethodName := ⟨RX4, "<init>", "()V"⟩
abbrev cX4_isDown : ByteArray := prog_6_method_2_code
def yX4_isDown : MethodName := ⟨RX4, "isDown", "()Z"⟩
abbrev cX4_length : ByteArray := prog_6_method_3_code
def yX4_length : MethodName := ⟨RX4, "length", "()I"⟩
abbrev cX4_byteAt : ByteArray := prog_6_method_4_code
def yX4_byteAt : MethodName := ⟨RX4, "byteAt", "(I)I"⟩
abbrev cX4_breakAfter : ByteArray := prog_6_method_5_code
def yX4_breakAfter : MethodName := ⟨RX4, "breakAfter", "(II)V"⟩
abbrev cX4_restore : ByteArray := prog_6_method_6_code
def yX4_restore : MethodName := ⟨RX4, "restore", "()V"⟩
abbrev cX4_begin : ByteArray := prog_6_method_7_code
def yX4_begin : MethodName := ⟨RX4, "begin", "(I)V"⟩
abbrev cX4_add : ByteArray := prog_6_method_8_code
def yX4_add : MethodName := ⟨RX4, "add", "(I)V"⟩
abbrev cX4_writeNumber : ByteArray := prog_6_method_9_code
def yX4_writeNumber : MethodName := ⟨RX4, "writeNumber", "(II)Z"⟩
abbrev cX4_write : ByteArray := prog_6_method_10_code
def yX4_write : MethodName := ⟨RX4, "write", "()Z"⟩
abbrev cX4_check : ByteArray := prog_6_method_11_code
def yX4_check : MethodName := ⟨RX4, "check", "()I"⟩
abbrev cX4_append : ByteArray := prog_6_method_12_code
def yX4_append : MethodName := ⟨RX4, "append", "(I)V"⟩
def RX5 : String := "PaymentHub$Reports"
def TX5 : u_T := fun k => match k with
  | 0 => ("PaymentHub$Reports", "ended", "[I", true)
  | 1 => ("PaymentHub$Reports", "statuses", "[I", true)
  | 2 => ("PaymentHub$Reports", "marked", "[Z", true)
  | 3 => ("PaymentHub$Reports", "copied", "[I", true)
  | _ => ("PaymentHub$Reports", "size", "I", false)
def tyX5 : Nat → FieldType := fun k => match k with
  | 0 => .array .int
  | 1 => .array .int
  | 2 => .array .boolean
  | 3 => .array .int
  | _ => .int
abbrev wsX50 : List Cond := u_ws RX5 TX5 5
theorem nmX5 : ∀ a, a < 5 → ∀ b, b < 5 → a ≠ b → (TX5 a).2.1 ≠ (TX5 b).2.1 := by decide +kernel
theorem tyX5_ok : ∀ k, k < 5 → parseFieldDescriptor (TX5 k).2.2.1 = some (tyX5 k) := by decide +kernel
abbrev cX5_init : ByteArray := prog_7_method_1_code
def yX5_init : MethodName := ⟨RX5, "<init>", "()V"⟩
abbrev cX5_has : ByteArray := prog_7_method_2_code
def yX5_has : MethodName := ⟨RX5, "has", "(I)Z"⟩
abbrev cX5_add : ByteArray := prog_7_method_3_code
def yX5_add : MethodName := ⟨RX5, "add", "(II)V"⟩
abbrev cX5_transactionOf : ByteArray := prog_7_method_4_code
def yX5_transactionOf : MethodName := ⟨RX5, "transactionOf", "(I)I"⟩
abbrev cX5_statusOf : ByteArray := prog_7_method_5_code
def yX5_statusOf : MethodName := ⟨RX5, "statusOf", "(I)I"⟩
abbrev cX5_isMarked : ByteArray := prog_7_method_6_code
def yX5_isMarked : MethodName := ⟨RX5, "isMarked", "(I)Z"⟩
abbrev cX5_copiesOf : ByteArray := prog_7_method_7_code
def yX5_copiesOf : MethodName := ⟨RX5, "copiesOf", "(I)I"⟩
abbrev cX5_firstUnmarked : ByteArray := prog_7_method_8_code
def yX5_firstUnmarked : MethodName := ⟨RX5, "firstUnmarked", "()I"⟩
abbrev cX5_copy : ByteArray := prog_7_method_9_code
def yX5_copy : MethodName := ⟨RX5, "copy", "(I)V"⟩
abbrev cX5_mark : ByteArray := prog_7_method_10_code
def yX5_mark : MethodName := ⟨RX5, "mark", "(I)V"⟩
def RX6 : String := "PaymentHub$Text"
def TX6 : u_T := fun k => match k with
  | 0 => ("PaymentHub$Text", "tree", "LPaymentHub$Tree;", true)
  | 1 => ("PaymentHub$Text", "characters", "[I", true)
  | 2 => ("PaymentHub$Text", "length", "I", false)
  | _ => ("PaymentHub$Text", "at", "I", false)
def tyX6 : Nat → FieldType := fun k => match k with
  | 0 => .object "PaymentHub$Tree"
  | 1 => .array .int
  | 2 => .int
  | _ => .int
abbrev wsX60 : List Cond := u_ws RX6 TX6 4
theorem nmX6 : ∀ a, a < 4 → ∀ b, b < 4 → a ≠ b → (TX6 a).2.1 ≠ (TX6 b).2.1 := by decide +kernel
theorem tyX6_ok : ∀ k, k < 4 → parseFieldDescriptor (TX6 k).2.2.1 = some (tyX6 k) := by decide +kernel
abbrev cX6_init : ByteArray := prog_8_method_1_code
def yX6_init : MethodName := ⟨RX6, "<init>", "(LPaymentHub$Tree;)V"⟩
abbrev cX6_length : ByteArray := prog_8_method_2_code
def yX6_length : MethodName := ⟨RX6, "length", "()I"⟩
abbrev cX6_hasRoomFor : ByteArray := prog_8_method_3_code
def yX6_hasRoomFor : MethodName := ⟨RX6, "hasRoomFor", "(I)Z"⟩
abbrev cX6_add : ByteArray := prog_8_method_4_code
def yX6_add : MethodName := ⟨RX6, "add", "(I)V"⟩
abbrev cX6_clear : ByteArray := prog_8_method_5_code
def yX6_clear : MethodName := ⟨RX6, "clear", "()V"⟩
abbrev cX6_read : ByteArray := prog_8_method_6_code
def yX6_read : MethodName := ⟨RX6, "read", "()Z"⟩
abbrev cX6_readNext : ByteArray := prog_8_method_7_code
def yX6_readNext : MethodName := ⟨RX6, "readNext", "()Z"⟩
abbrev cX6_readSign : ByteArray := prog_8_method_8_code
def yX6_readSign : MethodName := ⟨RX6, "readSign", "()Z"⟩
abbrev cX6_readComment : ByteArray := prog_8_method_9_code
def yX6_readComment : MethodName := ⟨RX6, "readComment", "()Z"⟩
abbrev cX6_readBegin : ByteArray := prog_8_method_10_code
def yX6_readBegin : MethodName := ⟨RX6, "readBegin", "()Z"⟩
abbrev cX6_readEnd : ByteArray := prog_8_method_11_code
def yX6_readEnd : MethodName := ⟨RX6, "readEnd", "()Z"⟩
abbrev cX6_readClosingSign : ByteArray := prog_8_method_12_code
def yX6_readClosingSign : MethodName := ⟨RX6, "readClosingSign", "()Z"⟩
abbrev cX6_readReference : ByteArray := prog_8_method_13_code
def yX6_readReference : MethodName := ⟨RX6, "readReference", "()Z"⟩
abbrev cX6_skipBlanks : ByteArray := prog_8_method_14_code
def yX6_skipBlanks : MethodName := ⟨RX6, "skipBlanks", "()V"⟩
abbrev cX6_peek : ByteArray := prog_8_method_15_code
def yX6_peek : MethodName := ⟨RX6, "peek", "(I)I"⟩
def RX7 : String := "PaymentHub$Transactions"
def TX7 : u_T := fun k => match k with
  | 0 => ("PaymentHub$Transactions", "names", "[I", true)
  | 1 => ("PaymentHub$Transactions", "amounts", "[I", true)
  | 2 => ("PaymentHub$Transactions", "debtors", "[I", true)
  | 3 => ("PaymentHub$Transactions", "creditors", "[I", true)
  | 4 => ("PaymentHub$Transactions", "statuses", "[I", true)
  | 5 => ("PaymentHub$Transactions", "deadlines", "[I", true)
  | 6 => ("PaymentHub$Transactions", "size", "I", false)
  | 7 => ("PaymentHub$Transactions", "queued", "[I", true)
  | _ => ("PaymentHub$Transactions", "queueLength", "I", false)
def tyX7 : Nat → FieldType := fun k => match k with
  | 0 => .array .int
  | 1 => .array .int
  | 2 => .array .int
  | 3 => .array .int
  | 4 => .array .int
  | 5 => .array .int
  | 6 => .int
  | 7 => .array .int
  | _ => .int
abbrev wsX70 : List Cond := u_ws RX7 TX7 9
theorem nmX7 : ∀ a, a < 9 → ∀ b, b < 9 → a ≠ b → (TX7 a).2.1 ≠ (TX7 b).2.1 := by decide +kernel
theorem tyX7_ok : ∀ k, k < 9 → parseFieldDescriptor (TX7 k).2.2.1 = some (tyX7 k) := by decide +kernel
abbrev cX7_init : ByteArray := prog_9_method_1_code
def yX7_init : MethodName := ⟨RX7, "<init>", "()V"⟩
abbrev cX7_has : ByteArray := prog_9_method_2_code
def yX7_has : MethodName := ⟨RX7, "has", "(I)Z"⟩
abbrev cX7_hasRoomFor : ByteArray := prog_9_method_3_code
def yX7_hasRoomFor : MethodName := ⟨RX7, "hasRoomFor", "(I)Z"⟩
abbrev cX7_find : ByteArray := prog_9_method_4_code
def yX7_find : MethodName := ⟨RX7, "find", "(I)I"⟩
abbrev cX7_statusOf : ByteArray := prog_9_method_5_code
def yX7_statusOf : MethodName := ⟨RX7, "statusOf", "(I)I"⟩
abbrev cX7_amountOf : ByteArray := prog_9_method_6_code
def yX7_amountOf : MethodName := ⟨RX7, "amountOf", "(I)I"⟩
abbrev cX7_debtorOf : ByteArray := prog_9_method_7_code
def yX7_debtorOf : MethodName := ⟨RX7, "debtorOf", "(I)I"⟩
abbrev cX7_creditorOf : ByteArray := prog_9_method_8_code
def yX7_creditorOf : MethodName := ⟨RX7, "creditorOf", "(I)I"⟩
abbrev cX7_deadlineOf : ByteArray := prog_9_method_9_code
def yX7_deadlineOf : MethodName := ⟨RX7, "deadlineOf", "(I)I"⟩
abbrev cX7_isDue : ByteArray := prog_9_method_10_code
def yX7_isDue : MethodName := ⟨RX7, "isDue", "(II)Z"⟩
abbrev cX7_firstQueued : ByteArray := prog_9_method_11_code
def yX7_firstQueued : MethodName := ⟨RX7, "firstQueued", "()I"⟩
abbrev cX7_queuedAt : ByteArray := prog_9_method_12_code
def yX7_queuedAt : MethodName := ⟨RX7, "queuedAt", "(I)I"⟩
abbrev cX7_receive : ByteArray := prog_9_method_13_code
def yX7_receive : MethodName := ⟨RX7, "receive", "(IIII)V"⟩
abbrev cX7_become : ByteArray := prog_9_method_14_code
def yX7_become : MethodName := ⟨RX7, "become", "(II)V"⟩
abbrev cX7_setDeadline : ByteArray := prog_9_method_15_code
def yX7_setDeadline : MethodName := ⟨RX7, "setDeadline", "(II)V"⟩
abbrev cX7_dropFirstQueued : ByteArray := prog_9_method_16_code
def yX7_dropFirstQueued : MethodName := ⟨RX7, "dropFirstQueued", "()V"⟩
abbrev cX7_wakeThoseOf : ByteArray := prog_9_method_17_code
def yX7_wakeThoseOf : MethodName := ⟨RX7, "wakeThoseOf", "(I)V"⟩
abbrev cX7_enqueue : ByteArray := prog_9_method_18_code
def yX7_enqueue : MethodName := ⟨RX7, "enqueue", "(I)V"⟩
def RX8 : String := "PaymentHub$Tree"
def TX8 : u_T := fun k => match k with
  | 0 => ("PaymentHub$Tree", "letters", "[I", true)
  | 1 => ("PaymentHub$Tree", "depths", "[I", true)
  | 2 => ("PaymentHub$Tree", "begins", "[I", true)
  | 3 => ("PaymentHub$Tree", "ends", "[I", true)
  | 4 => ("PaymentHub$Tree", "written", "[Z", true)
  | 5 => ("PaymentHub$Tree", "size", "I", false)
  | 6 => ("PaymentHub$Tree", "path", "[I", true)
  | 7 => ("PaymentHub$Tree", "open", "I", false)
  | 8 => ("PaymentHub$Tree", "characters", "[I", true)
  | _ => ("PaymentHub$Tree", "length", "I", false)
def tyX8 : Nat → FieldType := fun k => match k with
  | 0 => .array .int
  | 1 => .array .int
  | 2 => .array .int
  | 3 => .array .int
  | 4 => .array .boolean
  | 5 => .int
  | 6 => .array .int
  | 7 => .int
  | 8 => .array .int
  | _ => .int
abbrev wsX80 : List Cond := u_ws RX8 TX8 10
theorem nmX8 : ∀ a, a < 10 → ∀ b, b < 10 → a ≠ b → (TX8 a).2.1 ≠ (TX8 b).2.1 := by decide +kernel
theorem tyX8_ok : ∀ k, k < 10 → parseFieldDescriptor (TX8 k).2.2.1 = some (tyX8 k) := by decide +kernel
abbrev cX8_init : ByteArray := prog_10_method_1_code
def yX8_init : MethodName := ⟨RX8, "<init>", "()V"⟩
abbrev cX8_clear : ByteArray := prog_10_method_2_code
def yX8_clear : MethodName := ⟨RX8, "clear", "()V"⟩
abbrev cX8_isOpen : ByteArray := prog_10_method_3_code
def yX8_isOpen : MethodName := ⟨RX8, "isOpen", "()Z"⟩
abbrev cX8_isComplete : ByteArray := prog_10_method_4_code
def yX8_isComplete : MethodName := ⟨RX8, "isComplete", "()Z"⟩
abbrev cX8_size : ByteArray := prog_10_method_5_code
def yX8_size : MethodName := ⟨RX8, "size", "()I"⟩
abbrev cX8_begin : ByteArray := prog_10_method_6_code
def yX8_begin : MethodName := ⟨RX8, "begin", "(I)Z"⟩
abbrev cX8_end : ByteArray := prog_10_method_7_code
def yX8_end : MethodName := ⟨RX8, "end", "(I)Z"⟩
abbrev cX8_add : ByteArray := prog_10_method_8_code
def yX8_add : MethodName := ⟨RX8, "add", "(I)Z"⟩
abbrev cX8_isAt : ByteArray := prog_10_method_9_code
def yX8_isAt : MethodName := ⟨RX8, "isAt", "(III)Z"⟩
abbrev cX8_letterAt : ByteArray := prog_10_method_10_code
def yX8_letterAt : MethodName := ⟨RX8, "letterAt", "(I)I"⟩
abbrev cX8_hasOnlyBlanks : ByteArray := prog_10_method_11_code
def yX8_hasOnlyBlanks : MethodName := ⟨RX8, "hasOnlyBlanks", "(I)Z"⟩
abbrev cX8_beginOf : ByteArray := prog_10_method_12_code
def yX8_beginOf : MethodName := ⟨RX8, "beginOf", "(I)I"⟩
abbrev cX8_endOf : ByteArray := prog_10_method_13_code
def yX8_endOf : MethodName := ⟨RX8, "endOf", "(I)I"⟩
abbrev cX8_characterAt : ByteArray := prog_10_method_14_code
def yX8_characterAt : MethodName := ⟨RX8, "characterAt", "(I)I"⟩
abbrev cX8_has : ByteArray := prog_10_method_15_code
def yX8_has : MethodName := ⟨RX8, "has", "(I)Z"⟩
abbrev cX8_innermost : ByteArray := prog_10_method_16_code
def yX8_innermost : MethodName := ⟨RX8, "innermost", "()I"⟩
def RX9 : String := "PaymentHub$Value"
def TX9 : u_T := fun k => match k with
  | 0 => ("PaymentHub$Value", "tree", "LPaymentHub$Tree;", true)
  | 1 => ("PaymentHub$Value", "from", "I", false)
  | _ => ("PaymentHub$Value", "length", "I", false)
def tyX9 : Nat → FieldType := fun k => match k with
  | 0 => .object "PaymentHub$Tree"
  | 1 => .int
  | _ => .int
abbrev wsX90 : List Cond := u_ws RX9 TX9 3
theorem nmX9 : ∀ a, a < 3 → ∀ b, b < 3 → a ≠ b → (TX9 a).2.1 ≠ (TX9 b).2.1 := by decide +kernel
theorem tyX9_ok : ∀ k, k < 3 → parseFieldDescriptor (TX9 k).2.2.1 = some (tyX9 k) := by decide +kernel
abbrev cX9_init : ByteArray := prog_11_method_1_code
def yX9_init : MethodName := ⟨RX9, "<init>", "(LPaymentHub$Tree;)V"⟩
abbrev cX9_read : ByteArray := prog_11_method_2_code
def yX9_read : MethodName := ⟨RX9, "read", "(I)I"⟩
abbrev cX9_trim : ByteArray := prog_11_method_3_code
def yX9_trim : MethodName := ⟨RX9, "trim", "(II)V"⟩
abbrev cX9_name : ByteArray := prog_11_method_4_code
def yX9_name : MethodName := ⟨RX9, "name", "()I"⟩
abbrev cX9_accountNumber : ByteArray := prog_11_method_5_code
def yX9_accountNumber : MethodName := ⟨RX9, "accountNumber", "()I"⟩
abbrev cX9_verdict : ByteArray := prog_11_method_6_code
def yX9_verdict : MethodName := ⟨RX9, "verdict", "()I"⟩
abbrev cX9_amount : ByteArray := prog_11_method_7_code
def yX9_amount : MethodName := ⟨RX9, "amount", "()I"⟩
abbrev cX9_digits : ByteArray := prog_11_method_8_code
def yX9_digits : MethodName := ⟨RX9, "digits", "(III)I"⟩
def RX10 : String := "PaymentHub"
def TX10 : u_T := fun k => match k with
  | 0 => ("PaymentHub", "text", "LPaymentHub$Text;", true)
  | 1 => ("PaymentHub", "message", "LPaymentHub$Message;", true)
  | 2 => ("PaymentHub", "records", "LPaymentHub$Records;", true)
  | 3 => ("PaymentHub", "form", "LPaymentHub$Form;", true)
  | 4 => ("PaymentHub", "ledger", "LPaymentHub$Ledger;", true)
  | _ => ("PaymentHub", "clock", "I", false)
def tyX10 : Nat → FieldType := fun k => match k with
  | 0 => .object "PaymentHub$Text"
  | 1 => .object "PaymentHub$Message"
  | 2 => .object "PaymentHub$Records"
  | 3 => .object "PaymentHub$Form"
  | 4 => .object "PaymentHub$Ledger"
  | _ => .int
abbrev wsX100 : List Cond := u_ws RX10 TX10 6
theorem nmX10 : ∀ a, a < 6 → ∀ b, b < 6 → a ≠ b → (TX10 a).2.1 ≠ (TX10 b).2.1 := by decide +kernel
theorem tyX10_ok : ∀ k, k < 6 → parseFieldDescriptor (TX10 k).2.2.1 = some (tyX10 k) := by decide +kernel
abbrev cX10_init : ByteArray := prog_1_method_1_code
def yX10_init : MethodName := ⟨RX10, "<init>", "(II)V"⟩
abbrev cX10_put : ByteArray := prog_1_method_2_code
def yX10_put : MethodName := ⟨RX10, "put", "(JI)I"⟩
abbrev cX10_submit : ByteArray := prog_1_method_3_code
def yX10_submit : MethodName := ⟨RX10, "submit", "()I"⟩
abbrev cX10_work : ByteArray := prog_1_method_4_code
def yX10_work : MethodName := ⟨RX10, "work", "()I"⟩
abbrev cX10_tick : ByteArray := prog_1_method_5_code
def yX10_tick : MethodName := ⟨RX10, "tick", "(I)I"⟩
abbrev cX10_send : ByteArray := prog_1_method_6_code
def yX10_send : MethodName := ⟨RX10, "send", "()I"⟩
abbrev cX10_fail : ByteArray := prog_1_method_7_code
def yX10_fail : MethodName := ⟨RX10, "fail", "(II)Z"⟩
abbrev cX10_recover : ByteArray := prog_1_method_8_code
def yX10_recover : MethodName := ⟨RX10, "recover", "()Z"⟩
abbrev cX10_journal : ByteArray := prog_1_method_9_code
def yX10_journal : MethodName := ⟨RX10, "journal", "()I"⟩
abbrev cX10_octet : ByteArray := prog_1_method_10_code
def yX10_octet : MethodName := ⟨RX10, "octet", "(I)I"⟩
abbrev cX10_transaction : ByteArray := prog_1_method_11_code
def yX10_transaction : MethodName := ⟨RX10, "transaction", "(II)I"⟩
abbrev cX10_queue : ByteArray := prog_1_method_12_code
def yX10_queue : MethodName := ⟨RX10, "queue", "(I)I"⟩
abbrev cX10_account : ByteArray := prog_1_method_13_code
def yX10_account : MethodName := ⟨RX10, "account", "(II)I"⟩
abbrev cX10_entry : ByteArray := prog_1_method_14_code
def yX10_entry : MethodName := ⟨RX10, "entry", "(II)I"⟩
abbrev cX10_report : ByteArray := prog_1_method_15_code
def yX10_report : MethodName := ⟨RX10, "report", "(II)I"⟩
abbrev cX10_copies : ByteArray := prog_1_method_16_code
def yX10_copies : MethodName := ⟨RX10, "copies", "(I)I"⟩
abbrev cX10_hold : ByteArray := prog_1_method_17_code
def yX10_hold : MethodName := ⟨RX10, "hold", "(I)I"⟩
abbrev cX10_letWait : ByteArray := prog_1_method_18_code
def yX10_letWait : MethodName := ⟨RX10, "letWait", "(I)I"⟩
abbrev cX10_ruleBroken : ByteArray := prog_1_method_19_code
def yX10_ruleBroken : MethodName := ⟨RX10, "ruleBroken", "()I"⟩
abbrev cX10_ruleBrokenByPayment : ByteArray := prog_1_method_20_code
def yX10_ruleBrokenByPayment : MethodName := ⟨RX10, "ruleBrokenByPayment", "()I"⟩
abbrev cX10_ruleBrokenByFollower : ByteArray := prog_1_method_21_code
def yX10_ruleBrokenByFollower : MethodName := ⟨RX10, "ruleBrokenByFollower", "(I)I"⟩
abbrev cX10_ruleBrokenByReturn : ByteArray := prog_1_method_22_code
def yX10_ruleBrokenByReturn : MethodName := ⟨RX10, "ruleBrokenByReturn", "()I"⟩
abbrev cX10_nearestMoney : ByteArray := prog_1_method_23_code
def yX10_nearestMoney : MethodName := ⟨RX10, "nearestMoney", "(I)I"⟩
abbrev cX10_byteOf : ByteArray := prog_1_method_24_code
def yX10_byteOf : MethodName := ⟨RX10, "byteOf", "(JI)I"⟩
abbrev cX10_areReadable : ByteArray := prog_1_method_25_code
def yX10_areReadable : MethodName := ⟨RX10, "areReadable", "(JI)Z"⟩
abbrev cX10_isDigit : ByteArray := prog_1_method_26_code
def yX10_isDigit : MethodName := ⟨RX10, "isDigit", "(I)Z"⟩
abbrev cX10_isLetter : ByteArray := prog_1_method_27_code
def yX10_isLetter : MethodName := ⟨RX10, "isLetter", "(I)Z"⟩
abbrev cX10_rowOf : ByteArray := prog_1_method_28_code
def yX10_rowOf : MethodName := ⟨RX10, "rowOf", "(I)Ljava/lang/String;"⟩
abbrev cX10_letterPlaceOf : ByteArray := prog_1_method_29_code
def yX10_letterPlaceOf : MethodName := ⟨RX10, "letterPlaceOf", "(I)I"⟩
def RX11 : String := "PaymentHubModel"
def TX11 : u_T := fun k => match k with
  | 0 => ("PaymentHubModel", "open", "I", false)
  | 1 => ("PaymentHubModel", "limit", "I", false)
  | 2 => ("PaymentHubModel", "clock", "I", false)
  | 3 => ("PaymentHubModel", "down", "Z", false)
  | 4 => ("PaymentHubModel", "armed", "I", false)
  | 5 => ("PaymentHubModel", "armedBytes", "I", false)
  | 6 => ("PaymentHubModel", "text", "[C", false)
  | 7 => ("PaymentHubModel", "length", "I", false)
  | 8 => ("PaymentHubModel", "letter", "[C", false)
  | 9 => ("PaymentHubModel", "parent", "[I", false)
  | 10 => ("PaymentHubModel", "kids", "[I", false)
  | 11 => ("PaymentHubModel", "solid", "[Z", false)
  | 12 => ("PaymentHubModel", "begins", "[I", false)
  | 13 => ("PaymentHubModel", "ends", "[I", false)
  | 14 => ("PaymentHubModel", "elements", "I", false)
  | 15 => ("PaymentHubModel", "chars", "[C", false)
  | 16 => ("PaymentHubModel", "written", "I", false)
  | 17 => ("PaymentHubModel", "stack", "[I", false)
  | 18 => ("PaymentHubModel", "depth", "I", false)
  | 19 => ("PaymentHubModel", "rooted", "Z", false)
  | 20 => ("PaymentHubModel", "at", "I", false)
  | 21 => ("PaymentHubModel", "fine", "Z", false)
  | 22 => ("PaymentHubModel", "message", "I", false)
  | 23 => ("PaymentHubModel", "number", "I", false)
  | 24 => ("PaymentHubModel", "sum", "I", false)
  | 25 => ("PaymentHubModel", "names", "[I", false)
  | 26 => ("PaymentHubModel", "debtors", "[I", false)
  | 27 => ("PaymentHubModel", "creditors", "[I", false)
  | 28 => ("PaymentHubModel", "digits", "[I", false)
  | 29 => ("PaymentHubModel", "amounts", "[I", false)
  | 30 => ("PaymentHubModel", "parts", "I", false)
  | 31 => ("PaymentHubModel", "answered", "I", false)
  | 32 => ("PaymentHubModel", "agrees", "Z", false)
  | 33 => ("PaymentHubModel", "record", "[I", false)
  | 34 => ("PaymentHubModel", "size", "I", false)
  | 35 => ("PaymentHubModel", "journal", "[I", false)
  | 36 => ("PaymentHubModel", "bytes", "I", false)
  | 37 => ("PaymentHubModel", "messages", "[I", false)
  | 38 => ("PaymentHubModel", "accepted", "I", false)
  | 39 => ("PaymentHubModel", "nameOf", "[I", false)
  | 40 => ("PaymentHubModel", "amountOf", "[I", false)
  | 41 => ("PaymentHubModel", "debtorOf", "[I", false)
  | 42 => ("PaymentHubModel", "creditorOf", "[I", false)
  | 43 => ("PaymentHubModel", "statusOf", "[I", false)
  | 44 => ("PaymentHubModel", "deadlineOf", "[I", false)
  | 45 => ("PaymentHubModel", "transactions", "I", false)
  | 46 => ("PaymentHubModel", "row", "[I", false)
  | 47 => ("PaymentHubModel", "queued", "I", false)
  | 48 => ("PaymentHubModel", "balance", "[I", false)
  | 49 => ("PaymentHubModel", "reserved", "[I", false)
  | 50 => ("PaymentHubModel", "entries", "[I", false)
  | 51 => ("PaymentHubModel", "entryCount", "[I", false)
  | 52 => ("PaymentHubModel", "reportOf", "[I", false)
  | 53 => ("PaymentHubModel", "reportStatus", "[I", false)
  | 54 => ("PaymentHubModel", "marked", "[Z", false)
  | 55 => ("PaymentHubModel", "reports", "I", false)
  | _ => ("PaymentHubModel", "copiesOf", "[I", false)
def tyX11 : Nat → FieldType := fun k => match k with
  | 0 => .int
  | 1 => .int
  | 2 => .int
  | 3 => .boolean
  | 4 => .int
  | 5 => .int
  | 6 => .array .char
  | 7 => .int
  | 8 => .array .char
  | 9 => .array .int
  | 10 => .array .int
  | 11 => .array .boolean
  | 12 => .array .int
  | 13 => .array .int
  | 14 => .int
  | 15 => .array .char
  | 16 => .int
  | 17 => .array .int
  | 18 => .int
  | 19 => .boolean
  | 20 => .int
  | 21 => .boolean
  | 22 => .int
  | 23 => .int
  | 24 => .int
  | 25 => .array .int
  | 26 => .array .int
  | 27 => .array .int
  | 28 => .array .int
  | 29 => .array .int
  | 30 => .int
  | 31 => .int
  | 32 => .boolean
  | 33 => .array .int
  | 34 => .int
  | 35 => .array .int
  | 36 => .int
  | 37 => .array .int
  | 38 => .int
  | 39 => .array .int
  | 40 => .array .int
  | 41 => .array .int
  | 42 => .array .int
  | 43 => .array .int
  | 44 => .array .int
  | 45 => .int
  | 46 => .array .int
  | 47 => .int
  | 48 => .array .int
  | 49 => .array .int
  | 50 => .array .int
  | 51 => .array .int
  | 52 => .array .int
  | 53 => .array .int
  | 54 => .array .boolean
  | 55 => .int
  | _ => .array .int
abbrev wsX110 : List Cond := u_ws RX11 TX11 57
theorem nmX11 : ∀ a, a < 57 → ∀ b, b < 57 → a ≠ b → (TX11 a).2.1 ≠ (TX11 b).2.1 := by decide +kernel
theorem tyX11_ok : ∀ k, k < 57 → parseFieldDescriptor (TX11 k).2.2.1 = some (tyX11 k) := by decide +kernel
abbrev cX11_init : ByteArray := prog_13_method_1_code
def yX11_init : MethodName := ⟨RX11, "<init>", "(II)V"⟩
abbrev cX11_put : ByteArray := prog_13_method_2_code
def yX11_put : MethodName := ⟨RX11, "put", "(JI)I"⟩
abbrev cX11_sees : ByteArray := prog_13_method_3_code
def yX11_sees : MethodName := ⟨RX11, "sees", "(IC)Z"⟩
abbrev cX11_isLetter : ByteArray := prog_13_method_4_code
def yX11_isLetter : MethodName := ⟨RX11, "isLetter", "(C)Z"⟩
abbrev cX11_isDigit : ByteArray := prog_13_method_5_code
def yX11_isDigit : MethodName := ⟨RX11, "isDigit", "(C)Z"⟩
abbrev cX11_skipBlanks : ByteArray := prog_13_method_6_code
def yX11_skipBlanks : MethodName := ⟨RX11, "skipBlanks", "()V"⟩
abbrev cX11_comment : ByteArray := prog_13_method_7_code
def yX11_comment : MethodName := ⟨RX11, "comment", "()V"⟩
abbrev cX11_closing : ByteArray := prog_13_method_8_code
def yX11_closing : MethodName := ⟨RX11, "closing", "()V"⟩
abbrev cX11_opening : ByteArray := prog_13_method_9_code
def yX11_opening : MethodName := ⟨RX11, "opening", "()V"⟩
abbrev cX11_letterIn : ByteArray := prog_13_method_10_code
def yX11_letterIn : MethodName := ⟨RX11, "letterIn", "(C)V"⟩
abbrev cX11_reference : ByteArray := prog_13_method_11_code
def yX11_reference : MethodName := ⟨RX11, "reference", "()V"⟩
abbrev cX11_isDocument : ByteArray := prog_13_method_12_code
def yX11_isDocument : MethodName := ⟨RX11, "isDocument", "()Z"⟩
abbrev cX11_child : ByteArray := prog_13_method_13_code
def yX11_child : MethodName := ⟨RX11, "child", "(II)I"⟩
abbrev cX11_isLeaf : ByteArray := prog_13_method_14_code
def yX11_isLeaf : MethodName := ⟨RX11, "isLeaf", "(IIC)Z"⟩
abbrev cX11_name : ByteArray := prog_13_method_15_code
def yX11_name : MethodName := ⟨RX11, "name", "(I)I"⟩
abbrev cX11_small : ByteArray := prog_13_method_16_code
def yX11_small : MethodName := ⟨RX11, "small", "(II)I"⟩
abbrev cX11_placeOf : ByteArray := prog_13_method_17_code
def yX11_placeOf : MethodName := ⟨RX11, "placeOf", "(I)I"⟩
abbrev cX11_amount : ByteArray := prog_13_method_18_code
def yX11_amount : MethodName := ⟨RX11, "amount", "(I)I"⟩
abbrev cX11_readPart : ByteArray := prog_13_method_19_code
def yX11_readPart : MethodName := ⟨RX11, "readPart", "(I)Z"⟩
abbrev cX11_isValid : ByteArray := prog_13_method_20_code
def yX11_isValid : MethodName := ⟨RX11, "isValid", "()Z"⟩
abbrev cX11_isRight : ByteArray := prog_13_method_21_code
def yX11_isRight : MethodName := ⟨RX11, "isRight", "(II)Z"⟩
abbrev cX11_known : ByteArray := prog_13_method_22_code
def yX11_known : MethodName := ⟨RX11, "known", "(I)I"⟩
abbrev cX11_brokenByPayment : ByteArray := prog_13_method_23_code
def yX11_brokenByPayment : MethodName := ⟨RX11, "brokenByPayment", "()I"⟩
abbrev cX11_brokenByAnswer : ByteArray := prog_13_method_24_code
def yX11_brokenByAnswer : MethodName := ⟨RX11, "brokenByAnswer", "(Z)I"⟩
abbrev cX11_broken : ByteArray := prog_13_method_25_code
def yX11_broken : MethodName := ⟨RX11, "broken", "()I"⟩
abbrev cX11_byteOut : ByteArray := prog_13_method_26_code
def yX11_byteOut : MethodName := ⟨RX11, "byteOut", "(I)V"⟩
abbrev cX11_tagOut : ByteArray := prog_13_method_27_code
def yX11_tagOut : MethodName := ⟨RX11, "tagOut", "(CZ)V"⟩
abbrev cX11_numberOut : ByteArray := prog_13_method_28_code
def yX11_numberOut : MethodName := ⟨RX11, "numberOut", "(I)V"⟩
abbrev cX11_leafOut : ByteArray := prog_13_method_29_code
def yX11_leafOut : MethodName := ⟨RX11, "leafOut", "(I)V"⟩
abbrev cX11_canonical : ByteArray := prog_13_method_30_code
def yX11_canonical : MethodName := ⟨RX11, "canonical", "()V"⟩
abbrev cX11_write : ByteArray := prog_13_method_31_code
def yX11_write : MethodName := ⟨RX11, "write", "(I)Z"⟩
abbrev cX11_writeOne : ByteArray := prog_13_method_32_code
def yX11_writeOne : MethodName := ⟨RX11, "writeOne", "(II)Z"⟩
abbrev cX11_isTag : ByteArray := prog_13_method_33_code
def yX11_isTag : MethodName := ⟨RX11, "isTag", "(IC)Z"⟩
abbrev cX11_next : ByteArray := prog_13_method_34_code
def yX11_next : MethodName := ⟨RX11, "next", "(IC)I"⟩
abbrev cX11_nameAt : ByteArray := prog_13_method_35_code
def yX11_nameAt : MethodName := ⟨RX11, "nameAt", "(I)I"⟩
abbrev cX11_amountAt : ByteArray := prog_13_method_36_code
def yX11_amountAt : MethodName := ⟨RX11, "amountAt", "(I)I"⟩
abbrev cX11_leaveRow : ByteArray := prog_13_method_37_code
def yX11_leaveRow : MethodName := ⟨RX11, "leaveRow", "(I)V"⟩
abbrev cX11_enter : ByteArray := prog_13_method_38_code
def yX11_enter : MethodName := ⟨RX11, "enter", "(II)V"⟩
abbrev cX11_tell : ByteArray := prog_13_method_39_code
def yX11_tell : MethodName := ⟨RX11, "tell", "(III)V"⟩
abbrev cX11_reject : ByteArray := prog_13_method_40_code
def yX11_reject : MethodName := ⟨RX11, "reject", "(I)V"⟩
abbrev cX11_doMessage : ByteArray := prog_13_method_41_code
def yX11_doMessage : MethodName := ⟨RX11, "doMessage", "(I)V"⟩
abbrev cX11_doPart : ByteArray := prog_13_method_42_code
def yX11_doPart : MethodName := ⟨RX11, "doPart", "(II)V"⟩
abbrev cX11_doRecord : ByteArray := prog_13_method_43_code
def yX11_doRecord : MethodName := ⟨RX11, "doRecord", "(I)V"⟩
abbrev cX11_replay : ByteArray := prog_13_method_44_code
def yX11_replay : MethodName := ⟨RX11, "replay", "()I"⟩
abbrev cX11_submit : ByteArray := prog_13_method_45_code
def yX11_submit : MethodName := ⟨RX11, "submit", "()I"⟩
abbrev cX11_work : ByteArray := prog_13_method_46_code
def yX11_work : MethodName := ⟨RX11, "work", "()I"⟩
abbrev cX11_tick : ByteArray := prog_13_method_47_code
def yX11_tick : MethodName := ⟨RX11, "tick", "(I)I"⟩
abbrev cX11_send : ByteArray := prog_13_method_48_code
def yX11_send : MethodName := ⟨RX11, "send", "()I"⟩
abbrev cX11_fail : ByteArray := prog_13_method_49_code
def yX11_fail : MethodName := ⟨RX11, "fail", "(II)Z"⟩
abbrev cX11_recover : ByteArray := prog_13_method_50_code
def yX11_recover : MethodName := ⟨RX11, "recover", "()Z"⟩
abbrev cX11_journal : ByteArray := prog_13_method_51_code
def yX11_journal : MethodName := ⟨RX11, "journal", "()I"⟩
abbrev cX11_octet : ByteArray := prog_13_method_52_code
def yX11_octet : MethodName := ⟨RX11, "octet", "(I)I"⟩
abbrev cX11_transaction : ByteArray := prog_13_method_53_code
def yX11_transaction : MethodName := ⟨RX11, "transaction", "(II)I"⟩
abbrev cX11_queue : ByteArray := prog_13_method_54_code
def yX11_queue : MethodName := ⟨RX11, "queue", "(I)I"⟩
abbrev cX11_account : ByteArray := prog_13_method_55_code
def yX11_account : MethodName := ⟨RX11, "account", "(II)I"⟩
abbrev cX11_entry : ByteArray := prog_13_method_56_code
def yX11_entry : MethodName := ⟨RX11, "entry", "(II)I"⟩
abbrev cX11_report : ByteArray := prog_13_method_57_code
def yX11_report : MethodName := ⟨RX11, "report", "(II)I"⟩
abbrev cX11_copies : ByteArray := prog_13_method_58_code
def yX11_copies : MethodName := ⟨RX11, "copies", "(I)I"⟩
def RJ9 : String := "java/lang/Math"
def TJ9 : u_T := fun k => match k with
  | _ => ("", "", "", false)
def tyJ9 : Nat → FieldType := fun k => match k with
  | _ => .int
abbrev wsJ90 : List Cond := u_ws RJ9 TJ9 0
theorem nmJ9 : ∀ a, a < 0 → ∀ b, b < 0 → a ≠ b → (TJ9 a).2.1 ≠ (TJ9 b).2.1 := by decide +kernel
theorem tyJ9_ok : ∀ k, k < 0 → parseFieldDescriptor (TJ9 k).2.2.1 = some (tyJ9 k) := by decide +kernel
abbrev cJ9_max_7cf53 : ByteArray := prog_14_method_65_code
def yJ9_max_7cf53 : MethodName := ⟨RJ9, "max", "(II)I"⟩
abbrev cJ9_min_7cf53 : ByteArray := prog_14_method_69_code
def yJ9_min_7cf53 : MethodName := ⟨RJ9, "min", "(II)I"⟩
def RJ0 : String := "java/lang/String"
def TJ0 : u_T := fun k => match k with
  | _ => ("", "", "", false)
def tyJ0 : Nat → FieldType := fun k => match k with
  | _ => .int
abbrev wsJ00 : List Cond := u_ws RJ0 TJ0 0
theorem nmJ0 : ∀ a, a < 0 → ∀ b, b < 0 → a ≠ b → (TJ0 a).2.1 ≠ (TJ0 b).2.1 := by decide +kernel
theorem tyJ0_ok : ∀ k, k < 0 → parseFieldDescriptor (TJ0 k).2.2.1 = some (tyJ0 k) := by decide +kernel
abbrev cJ0_length_8abf5 : ByteArray := prog_15_method_54_code
def yJ0_length_8abf5 : MethodName := ⟨RJ0, "length", "()I"⟩
abbrev cJ0_isEmpty_aae02 : ByteArray := prog_15_method_55_code
def yJ0_isEmpty_aae02 : MethodName := ⟨RJ0, "isEmpty", "()Z"⟩
abbrev cJ0_charAt_5068e : ByteArray := prog_15_method_56_code
def yJ0_charAt_5068e : MethodName := ⟨RJ0, "charAt", "(I)C"⟩
abbrev cJ0_coder_7d493 : ByteArray := prog_15_method_152_code
def yJ0_coder_7d493 : MethodName := ⟨RJ0, "coder", "()B"⟩
abbrev cJ0_isLatin1_aae02 : ByteArray := prog_15_method_154_code
def yJ0_isLatin1_aae02 : MethodName := ⟨RJ0, "isLatin1", "()Z"⟩
abbrev cJ0_checkIndex_df160 : ByteArray := prog_15_method_155_code
def yJ0_checkIndex_df160 : MethodName := ⟨RJ0, "checkIndex", "(II)V"⟩
def RJ1 : String := "java/lang/StringLatin1"
def TJ1 : u_T := fun k => match k with
  | _ => ("", "", "", false)
def tyJ1 : Nat → FieldType := fun k => match k with
  | _ => .int
abbrev wsJ10 : List Cond := u_ws RJ1 TJ1 0
theorem nmJ1 : ∀ a, a < 0 → ∀ b, b < 0 → a ≠ b → (TJ1 a).2.1 ≠ (TJ1 b).2.1 := by decide +kernel
theorem tyJ1_ok : ∀ k, k < 0 → parseFieldDescriptor (TJ1 k).2.2.1 = some (tyJ1 k) := by decide +kernel
abbrev cJ1_charAt_3b067 : ByteArray := prog_16_method_2_code
def yJ1_charAt_3b067 : MethodName := ⟨RJ1, "charAt", "([BI)C"⟩
def RJ2 : String := "java/lang/StringUTF16"
def TJ2 : u_T := fun k => match k with
  | _ => ("", "", "", false)
def tyJ2 : Nat → FieldType := fun k => match k with
  | _ => .int
abbrev wsJ20 : List Cond := u_ws RJ2 TJ2 0
theorem nmJ2 : ∀ a, a < 0 → ∀ b, b < 0 → a ≠ b → (TJ2 a).2.1 ≠ (TJ2 b).2.1 := by decide +kernel
theorem tyJ2_ok : ∀ k, k < 0 → parseFieldDescriptor (TJ2 k).2.2.1 = some (tyJ2 k) := by decide +kernel
abbrev cJ2_getChar_3b067 : ByteArray := prog_17_method_5_code
def yJ2_getChar_3b067 : MethodName := ⟨RJ2, "getChar", "([BI)C"⟩
abbrev cJ2_length_9d52b : ByteArray := prog_17_method_6_code
def yJ2_length_9d52b : MethodName := ⟨RJ2, "length", "([B)I"⟩
abbrev cJ2_charAt_3b067 : ByteArray := prog_17_method_83_code
def yJ2_charAt_3b067 : MethodName := ⟨RJ2, "charAt", "([BI)C"⟩
abbrev cJ2_checkIndex_2214a : ByteArray := prog_17_method_91_code
def yJ2_checkIndex_2214a : MethodName := ⟨RJ2, "checkIndex", "(I[B)V"⟩
def RJ3 : String := "jdk/internal/util/Preconditions"
def TJ3 : u_T := fun k => match k with
  | _ => ("", "", "", false)
def tyJ3 : Nat → FieldType := fun k => match k with
  | _ => .int
abbrev wsJ30 : List Cond := u_ws RJ3 TJ3 0
theorem nmJ3 : ∀ a, a < 0 → ∀ b, b < 0 → a ≠ b → (TJ3 a).2.1 ≠ (TJ3 b).2.1 := by decide +kernel
theorem tyJ3_ok : ∀ k, k < 0 → parseFieldDescriptor (TJ3 k).2.2.1 = some (tyJ3 k) := by decide +kernel
abbrev cJ3_checkIndex_8e157 : ByteArray := prog_18_method_11_code
def yJ3_checkIndex_8e157 : MethodName := ⟨RJ3, "checkIndex", "(IILjava/util/function/BiFunction;)I"⟩
def RL : String := "PaymentHubLaw"
abbrev cL_cell : ByteArray := method_2_code
def yL_cell : MethodName := ⟨RL, "cell", "([II)I"⟩
abbrev cL_law : ByteArray := code
def yL_law : MethodName := ⟨RL, "law", "([I)Z"⟩
abbrev vwCl : List vw_C := [(RX0, TX0, 5), (RX1, TX1, 1), (RX2, TX2, 5), (RX3, TX3, 5), (RX4, TX4, 9), (RX5, TX5, 5), (RX6, TX6, 4), (RX7, TX7, 9), (RX8, TX8, 10), (RX9, TX9, 3), (RX10, TX10, 6), (RX11, TX11, 57)]
end
section
/-! TABLES, written by wip/gen/emit2.py: methods by number, their instructions, what their entries name. -/
abbrev zIs : Type := List (Nat × Instr × Nat × Bool)
/-- PaymentHub$Accounts.<init>(II)V -/
def zi_0 : zIs := [(0, Instr.aload_n 0, 1, false), (1, Instr.invokespecial 3, 3, false), (4, Instr.aload_n 0, 1, false), (5, Instr.iload_n 2, 1, false), (6, Instr.putfield 9, 3, false), (9, Instr.aload_n 0, 1, false), (10, Instr.iconst 4, 1, false), (11, Instr.newarray .int, 2, false), (13, Instr.putfield 15, 3, false), (16, Instr.aload_n 0, 1, false), (17, Instr.iconst 4, 1, false), (18, Instr.newarray .int, 2, false), (20, Instr.putfield 19, 3, false), (23, Instr.aload_n 0, 1, false), (24, Instr.iconst 4, 1, false), (25, Instr.newarray .int, 2, false), (27, Instr.putfield 22, 3, false), (30, Instr.aload_n 0, 1, false), (31, Instr.iconst 4, 1, false), (32, Instr.bipush 40, 2, false), (34, Instr.multianewarray 25 2, 4, false), (38, Instr.putfield 27, 3, false), (41, Instr.iconst 0, 1, false), (42, Instr.istore_n 3, 1, false), (43, Instr.iload_n 3, 1, true), (44, Instr.iconst 4, 1, false), (45, Instr.if_icmp .ge 16, 3, false), (48, Instr.aload_n 0, 1, false), (49, Instr.getfield 15, 3, false), (52, Instr.iload_n 3, 1, false), (53, Instr.iload_n 1, 1, false), (54, Instr.iastore, 1, false), (55, Instr.iinc 3 1, 3, false), (58, Instr.goto (-15), 3, false), (61, Instr.return_, 1, false)]
/-- PaymentHub$Accounts.available(I)I -/
def zi_1 : zIs := [(0, Instr.aload_n 0, 1, false), (1, Instr.iload_n 1, 1, false), (2, Instr.invokevirtual 30, 3, false), (5, Instr.aload_n 0, 1, false), (6, Instr.iload_n 1, 1, false), (7, Instr.invokevirtual 34, 3, false), (10, Instr.isub, 1, false), (11, Instr.aload_n 0, 1, false), (12, Instr.getfield 9, 3, false), (15, Instr.iadd, 1, false), (16, Instr.ireturn, 1, false)]
/-- PaymentHub$Accounts.balanceOf(I)I -/
def zi_2 : zIs := [(0, Instr.aload_n 0, 1, false), (1, Instr.iload_n 1, 1, false), (2, Instr.invokevirtual 37, 3, false), (5, Instr.ifCond .eq 12, 3, false), (8, Instr.aload_n 0, 1, false), (9, Instr.getfield 15, 3, false), (12, Instr.iload_n 1, 1, false), (13, Instr.iaload, 1, false), (14, Instr.goto 4, 3, false), (17, Instr.iconst 0, 1, false), (18, Instr.ireturn, 1, false)]
/-- PaymentHub$Accounts.reservedOn(I)I -/
def zi_3 : zIs := [(0, Instr.aload_n 0, 1, false), (1, Instr.iload_n 1, 1, false), (2, Instr.invokevirtual 37, 3, false), (5, Instr.ifCond .eq 12, 3, false), (8, Instr.aload_n 0, 1, false), (9, Instr.getfield 19, 3, false), (12, Instr.iload_n 1, 1, false), (13, Instr.iaload, 1, false), (14, Instr.goto 4, 3, false), (17, Instr.iconst 0, 1, false), (18, Instr.ireturn, 1, false)]
/-- PaymentHub$Accounts.entriesOf(I)I -/
def zi_4 : zIs := [(0, Instr.aload_n 0, 1, false), (1, Instr.iload_n 1, 1, false), (2, Instr.invokevirtual 37, 3, false), (5, Instr.ifCond .eq 12, 3, false), (8, Instr.aload_n 0, 1, false), (9, Instr.getfield 22, 3, false), (12, Instr.iload_n 1, 1, false), (13, Instr.iaload, 1, false), (14, Instr.goto 4, 3, false), (17, Instr.iconst 0, 1, false), (18, Instr.ireturn, 1, false)]
/-- PaymentHub$Accounts.entryAt(II)I -/
def zi_5 : zIs := [(0, Instr.aload_n 0, 1, false), (1, Instr.iload_n 1, 1, false), (2, Instr.invokevirtual 37, 3, false), (5, Instr.ifCond .eq 34, 3, false), (8, Instr.iload_n 2, 1, false), (9, Instr.ifCond .lt 30, 3, false), (12, Instr.iload_n 2, 1, false), (13, Instr.aload_n 0, 1, false), (14, Instr.getfield 22, 3, false), (17, Instr.iload_n 1, 1, false), (18, Instr.iaload, 1, false), (19, Instr.if_icmp .ge 20, 3, false), (22, Instr.iload_n 2, 1, false), (23, Instr.bipush 40, 2, false), (25, Instr.if_icmp .ge 14, 3, false), (28, Instr.aload_n 0, 1, false), (29, Instr.getfield 27, 3, false), (32, Instr.iload_n 1, 1, false), (33, Instr.aaload, 1, false), (34, Instr.iload_n 2, 1, false), (35, Instr.iaload, 1, false), (36, Instr.goto 4, 3, false), (39, Instr.iconst 0, 1, false), (40, Instr.ireturn, 1, false)]
/-- PaymentHub$Accounts.reserve(II)V -/
def zi_6 : zIs := [(0, Instr.aload_n 0, 1, false), (1, Instr.iload_n 1, 1, false), (2, Instr.invokevirtual 37, 3, false), (5, Instr.ifCond .eq 13, 3, false), (8, Instr.aload_n 0, 1, false), (9, Instr.getfield 19, 3, false), (12, Instr.iload_n 1, 1, false), (13, Instr.dup2, 1, false), (14, Instr.iaload, 1, false), (15, Instr.iload_n 2, 1, false), (16, Instr.iadd, 1, false), (17, Instr.iastore, 1, false), (18, Instr.return_, 1, false)]
/-- PaymentHub$Accounts.book(II)V -/
def zi_7 : zIs := [(0, Instr.aload_n 0, 1, false), (1, Instr.iload_n 1, 1, false), (2, Instr.invokevirtual 37, 3, false), (5, Instr.ifCond .eq 48, 3, false), (8, Instr.aload_n 0, 1, false), (9, Instr.getfield 22, 3, false), (12, Instr.iload_n 1, 1, false), (13, Instr.iaload, 1, false), (14, Instr.bipush 40, 2, false), (16, Instr.if_icmp .ge 37, 3, false), (19, Instr.aload_n 0, 1, false), (20, Instr.getfield 27, 3, false), (23, Instr.iload_n 1, 1, false), (24, Instr.aaload, 1, false), (25, Instr.aload_n 0, 1, false), (26, Instr.getfield 22, 3, false), (29, Instr.iload_n 1, 1, false), (30, Instr.iaload, 1, false), (31, Instr.iload_n 2, 1, false), (32, Instr.iastore, 1, false), (33, Instr.aload_n 0, 1, false), (34, Instr.getfield 22, 3, false), (37, Instr.iload_n 1, 1, false), (38, Instr.dup2, 1, false), (39, Instr.iaload, 1, false), (40, Instr.iconst 1, 1, false), (41, Instr.iadd, 1, false), (42, Instr.iastore, 1, false), (43, Instr.aload_n 0, 1, false), (44, Instr.getfield 15, 3, false), (47, Instr.iload_n 1, 1, false), (48, Instr.dup2, 1, false), (49, Instr.iaload, 1, false), (50, Instr.iload_n 2, 1, false), (51, Instr.iadd, 1, false), (52, Instr.iastore, 1, false), (53, Instr.return_, 1, false)]
/-- PaymentHub$Accounts.has(I)Z -/
def zi_8 : zIs := [(0, Instr.iload_n 1, 1, false), (1, Instr.ifCond .lt 12, 3, false), (4, Instr.iload_n 1, 1, false), (5, Instr.iconst 4, 1, false), (6, Instr.if_icmp .ge 7, 3, false), (9, Instr.iconst 1, 1, false), (10, Instr.goto 4, 3, false), (13, Instr.iconst 0, 1, false), (14, Instr.ireturn, 1, false)]
/-- PaymentHub$Form.<init>(LPaymentHub$Records;)V -/
def zi_9 : zIs := [(0, Instr.aload_n 0, 1, false), (1, Instr.invokespecial 3, 3, false), (4, Instr.aload_n 0, 1, false), (5, Instr.aload_n 1, 1, false), (6, Instr.putfield 9, 3, false), (9, Instr.return_, 1, false)]
/-- PaymentHub$Form.compose(LPaymentHub$Message;)V -/
def zi_10 : zIs := [(0, Instr.aload_n 0, 1, false), (1, Instr.getfield 9, 3, false), (4, Instr.bipush 77, 2, false), (6, Instr.invokevirtual 15, 3, false), (9, Instr.aload_n 0, 1, false), (10, Instr.aload_n 1, 1, false), (11, Instr.iconst 0, 1, false), (12, Instr.aload_n 1, 1, false), (13, Instr.invokevirtual 21, 3, false), (16, Instr.invokestatic 27, 3, false), (19, Instr.invokevirtual 31, 3, false), (22, Instr.iconst 0, 1, false), (23, Instr.istore_n 2, 1, false), (24, Instr.iload_n 2, 1, true), (25, Instr.aload_n 1, 1, false), (26, Instr.invokevirtual 35, 3, false), (29, Instr.if_icmp .ge 27, 3, false), (32, Instr.aload_n 0, 1, false), (33, Instr.aload_n 1, 1, false), (34, Instr.aload_n 1, 1, false), (35, Instr.iload_n 2, 1, false), (36, Instr.invokevirtual 38, 3, false), (39, Instr.ldc 42, 2, false), (41, Instr.invokevirtual 31, 3, false), (44, Instr.aload_n 0, 1, false), (45, Instr.bipush 84, 2, false), (47, Instr.invokevirtual 44, 3, false), (50, Instr.iinc 2 1, 3, false), (53, Instr.goto (-29), 3, false), (56, Instr.aload_n 0, 1, false), (57, Instr.aload_n 1, 1, false), (58, Instr.invokevirtual 21, 3, false), (61, Instr.invokevirtual 44, 3, false), (64, Instr.return_, 1, false)]
/-- PaymentHub$Form.addRow(LPaymentHub$Message;ILjava/lang/String;)V -/
def zi_11 : zIs := [(0, Instr.iconst 0, 1, false), (1, Instr.istore 4, 2, false), (3, Instr.iload 4, 2, true), (5, Instr.aload_n 3, 1, false), (6, Instr.invokevirtual 47, 3, false), (9, Instr.if_icmp .ge 48, 3, false), (12, Instr.aload_n 3, 1, false), (13, Instr.iload 4, 2, false), (15, Instr.invokevirtual 52, 3, false), (18, Instr.istore 5, 2, false), (20, Instr.aload_n 0, 1, false), (21, Instr.iload 5, 2, false), (23, Instr.invokevirtual 56, 3, false), (26, Instr.iload 4, 2, false), (28, Instr.ifCond .le 23, 3, false), (31, Instr.aload_n 0, 1, false), (32, Instr.iload 5, 2, false), (34, Instr.aload_n 1, 1, false), (35, Instr.iload_n 2, 1, false), (36, Instr.iload 4, 2, false), (38, Instr.iadd, 1, false), (39, Instr.invokevirtual 59, 3, false), (42, Instr.invokevirtual 62, 3, false), (45, Instr.aload_n 0, 1, false), (46, Instr.iload 5, 2, false), (48, Instr.invokevirtual 44, 3, false), (51, Instr.iinc 4 1, 3, false), (54, Instr.goto (-51), 3, false), (57, Instr.return_, 1, false)]
/-- PaymentHub$Form.addBegin(I)V -/
def zi_12 : zIs := [(0, Instr.aload_n 0, 1, false), (1, Instr.getfield 9, 3, false), (4, Instr.bipush 60, 2, false), (6, Instr.invokevirtual 66, 3, false), (9, Instr.aload_n 0, 1, false), (10, Instr.getfield 9, 3, false), (13, Instr.iload_n 1, 1, false), (14, Instr.invokevirtual 66, 3, false), (17, Instr.aload_n 0, 1, false), (18, Instr.getfield 9, 3, false), (21, Instr.bipush 62, 2, false), (23, Instr.invokevirtual 66, 3, false), (26, Instr.return_, 1, false)]
/-- PaymentHub$Form.addEnd(I)V -/
def zi_13 : zIs := [(0, Instr.aload_n 0, 1, false), (1, Instr.getfield 9, 3, false), (4, Instr.bipush 60, 2, false), (6, Instr.invokevirtual 66, 3, false), (9, Instr.aload_n 0, 1, false), (10, Instr.getfield 9, 3, false), (13, Instr.bipush 47, 2, false), (15, Instr.invokevirtual 66, 3, false), (18, Instr.aload_n 0, 1, false), (19, Instr.getfield 9, 3, false), (22, Instr.iload_n 1, 1, false), (23, Instr.invokevirtual 66, 3, false), (26, Instr.aload_n 0, 1, false), (27, Instr.getfield 9, 3, false), (30, Instr.bipush 62, 2, false), (32, Instr.invokevirtual 66, 3, false), (35, Instr.return_, 1, false)]
/-- PaymentHub$Form.addValue(II)V -/
def zi_14 : zIs := [(0, Instr.iload_n 1, 1, false), (1, Instr.lookupswitch 131 #[(65, 103), (67, 67), (68, 67), (78, 59), (83, 103), (86, 92)], 59, false), (60, Instr.aload_n 0, 1, false), (61, Instr.iload_n 2, 1, false), (62, Instr.invokevirtual 69, 3, false), (65, Instr.goto 72, 3, false), (68, Instr.aload_n 0, 1, false), (69, Instr.getfield 9, 3, false), (72, Instr.bipush 65, 2, false), (74, Instr.iload_n 2, 1, false), (75, Instr.invokestatic 72, 3, false), (78, Instr.iadd, 1, false), (79, Instr.invokevirtual 66, 3, false), (82, Instr.aload_n 0, 1, false), (83, Instr.iload_n 2, 1, false), (84, Instr.bipush 100, 2, false), (86, Instr.irem, 1, false), (87, Instr.invokevirtual 75, 3, false), (90, Instr.goto 47, 3, false), (93, Instr.aload_n 0, 1, false), (94, Instr.getfield 9, 3, false), (97, Instr.iload_n 2, 1, false), (98, Instr.invokevirtual 66, 3, false), (101, Instr.goto 36, 3, false), (104, Instr.aload_n 0, 1, false), (105, Instr.iload_n 2, 1, false), (106, Instr.bipush 100, 2, false), (108, Instr.idiv, 1, false), (109, Instr.invokevirtual 69, 3, false), (112, Instr.aload_n 0, 1, false), (113, Instr.getfield 9, 3, false), (116, Instr.bipush 46, 2, false), (118, Instr.invokevirtual 66, 3, false), (121, Instr.aload_n 0, 1, false), (122, Instr.iload_n 2, 1, false), (123, Instr.bipush 100, 2, false), (125, Instr.irem, 1, false), (126, Instr.invokevirtual 75, 3, false), (129, Instr.goto 8, 3, false), (132, Instr.aload_n 0, 1, false), (133, Instr.iload_n 2, 1, false), (134, Instr.invokevirtual 78, 3, false), (137, Instr.return_, 1, false)]
/-- PaymentHub$Form.addName(I)V -/
def zi_15 : zIs := [(0, Instr.bipush 24, 2, false), (2, Instr.istore_n 2, 1, false), (3, Instr.iload_n 2, 1, true), (4, Instr.ifCond .lt 29, 3, false), (7, Instr.iload_n 1, 1, false), (8, Instr.iload_n 2, 1, false), (9, Instr.ishr, 1, false), (10, Instr.sipush 255, 3, false), (13, Instr.iand, 1, false), (14, Instr.istore_n 3, 1, false), (15, Instr.iload_n 3, 1, false), (16, Instr.ifCond .eq 11, 3, false), (19, Instr.aload_n 0, 1, false), (20, Instr.getfield 9, 3, false), (23, Instr.iload_n 3, 1, false), (24, Instr.invokevirtual 66, 3, false), (27, Instr.iinc 2 (-8), 3, false), (30, Instr.goto (-27), 3, false), (33, Instr.return_, 1, false)]
/-- PaymentHub$Form.addNumber(I)V -/
def zi_16 : zIs := [(0, Instr.ldc 81, 2, false), (2, Instr.istore_n 2, 1, false), (3, Instr.iload_n 2, 1, true), (4, Instr.iconst 1, 1, false), (5, Instr.if_icmp .lt 37, 3, false), (8, Instr.iload_n 1, 1, false), (9, Instr.iload_n 2, 1, false), (10, Instr.if_icmp .ge 8, 3, false), (13, Instr.iload_n 2, 1, false), (14, Instr.iconst 1, 1, false), (15, Instr.if_icmp .ne 19, 3, false), (18, Instr.aload_n 0, 1, false), (19, Instr.getfield 9, 3, false), (22, Instr.bipush 48, 2, false), (24, Instr.iload_n 1, 1, false), (25, Instr.iload_n 2, 1, false), (26, Instr.idiv, 1, false), (27, Instr.bipush 10, 2, false), (29, Instr.irem, 1, false), (30, Instr.iadd, 1, false), (31, Instr.invokevirtual 66, 3, false), (34, Instr.iload_n 2, 1, false), (35, Instr.bipush 10, 2, false), (37, Instr.idiv, 1, false), (38, Instr.istore_n 2, 1, false), (39, Instr.goto (-36), 3, false), (42, Instr.return_, 1, false)]
/-- PaymentHub$Form.addTwoDigits(I)V -/
def zi_17 : zIs := [(0, Instr.aload_n 0, 1, false), (1, Instr.getfield 9, 3, false), (4, Instr.bipush 48, 2, false), (6, Instr.iload_n 1, 1, false), (7, Instr.bipush 10, 2, false), (9, Instr.idiv, 1, false), (10, Instr.iadd, 1, false), (11, Instr.invokevirtual 66, 3, false), (14, Instr.aload_n 0, 1, false), (15, Instr.getfield 9, 3, false), (18, Instr.bipush 48, 2, false), (20, Instr.iload_n 1, 1, false), (21, Instr.bipush 10, 2, false), (23, Instr.irem, 1, false), (24, Instr.iadd, 1, false), (25, Instr.invokevirtual 66, 3, false), (28, Instr.return_, 1, false)]
/-- PaymentHub$Ledger.<init>(II)V -/
def zi_18 : zIs := [(0, Instr.aload_n 0, 1, false), (1, Instr.invokespecial 3, 3, false), (4, Instr.aload_n 0, 1, false), (5, Instr.new 9, 3, false), (8, Instr.dup, 1, false), (9, Instr.iload_n 1, 1, false), (10, Instr.iload_n 2, 1, false), (11, Instr.invokespecial 11, 3, false), (14, Instr.putfield 14, 3, false), (17, Instr.aload_n 0, 1, false), (18, Instr.new 20, 3, false), (21, Instr.dup, 1, false), (22, Instr.invokespecial 22, 3, false), (25, Instr.putfield 23, 3, false), (28, Instr.aload_n 0, 1, false), (29, Instr.new 27, 3, false), (32, Instr.dup, 1, false), (33, Instr.invokespecial 29, 3, false), (36, Instr.putfield 30, 3, false), (39, Instr.aload_n 0, 1, false), (40, Instr.bipush 60, 2, false), (42, Instr.newarray .int, 2, false), (44, Instr.putfield 34, 3, false), (47, Instr.aload_n 0, 1, false), (48, Instr.iconst 0, 1, false), (49, Instr.putfield 38, 3, false), (52, Instr.return_, 1, false)]
/-- PaymentHub$Ledger.knows(I)Z -/
def zi_19 : zIs := [(0, Instr.iconst 0, 1, false), (1, Instr.istore_n 2, 1, false), (2, Instr.iload_n 2, 1, true), (3, Instr.aload_n 0, 1, false), (4, Instr.getfield 38, 3, false), (7, Instr.if_icmp .ge 30, 3, false), (10, Instr.iload_n 2, 1, false), (11, Instr.aload_n 0, 1, false), (12, Instr.getfield 34, 3, false), (15, Instr.arraylength, 1, false), (16, Instr.if_icmp .ge 21, 3, false), (19, Instr.aload_n 0, 1, false), (20, Instr.getfield 34, 3, false), (23, Instr.iload_n 2, 1, false), (24, Instr.iaload, 1, false), (25, Instr.iload_n 1, 1, false), (26, Instr.if_icmp .ne 5, 3, false), (29, Instr.iconst 1, 1, false), (30, Instr.ireturn, 1, false), (31, Instr.iinc 2 1, 3, false), (34, Instr.goto (-32), 3, false), (37, Instr.iconst 0, 1, false), (38, Instr.ireturn, 1, false)]
/-- PaymentHub$Ledger.knowsAnyOf(LPaymentHub$Message;)Z -/
def zi_20 : zIs := [(0, Instr.iconst 0, 1, false), (1, Instr.istore_n 2, 1, false), (2, Instr.iload_n 2, 1, true), (3, Instr.aload_n 1, 1, false), (4, Instr.invokevirtual 42, 3, false), (7, Instr.if_icmp .ge 27, 3, false), (10, Instr.aload_n 0, 1, false), (11, Instr.getfield 23, 3, false), (14, Instr.aload_n 1, 1, false), (15, Instr.iload_n 2, 1, false), (16, Instr.invokevirtual 48, 3, false), (19, Instr.invokevirtual 52, 3, false), (22, Instr.iconst (-1), 1, false), (23, Instr.if_icmp .eq 5, 3, false), (26, Instr.iconst 1, 1, false), (27, Instr.ireturn, 1, false), (28, Instr.iinc 2 1, 3, false), (31, Instr.goto (-29), 3, false), (34, Instr.iconst 0, 1, false), (35, Instr.ireturn, 1, false)]
/-- PaymentHub$Ledger.canPay(I)Z -/
def zi_21 : zIs := [(0, Instr.aload_n 0, 1, false), (1, Instr.getfield 23, 3, false), (4, Instr.iload_n 1, 1, false), (5, Instr.invokevirtual 55, 3, false), (8, Instr.aload_n 0, 1, false), (9, Instr.getfield 14, 3, false), (12, Instr.aload_n 0, 1, false), (13, Instr.getfield 23, 3, false), (16, Instr.iload_n 1, 1, false), (17, Instr.invokevirtual 58, 3, false), (20, Instr.invokevirtual 61, 3, false), (23, Instr.if_icmp .gt 7, 3, false), (26, Instr.iconst 1, 1, false), (27, Instr.goto 4, 3, false), (30, Instr.iconst 0, 1, false), (31, Instr.ireturn, 1, false)]
/-- PaymentHub$Ledger.take(LPaymentHub$Message;)V -/
def zi_22 : zIs := [(0, Instr.aload_n 0, 1, false), (1, Instr.getfield 38, 3, false), (4, Instr.aload_n 0, 1, false), (5, Instr.getfield 34, 3, false), (8, Instr.arraylength, 1, false), (9, Instr.if_icmp .ge 26, 3, false), (12, Instr.aload_n 0, 1, false), (13, Instr.getfield 34, 3, false), (16, Instr.aload_n 0, 1, false), (17, Instr.getfield 38, 3, false), (20, Instr.aload_n 1, 1, false), (21, Instr.invokevirtual 64, 3, false), (24, Instr.iastore, 1, false), (25, Instr.aload_n 0, 1, false), (26, Instr.dup, 1, false), (27, Instr.getfield 38, 3, false), (30, Instr.iconst 1, 1, false), (31, Instr.iadd, 1, false), (32, Instr.putfield 38, 3, false), (35, Instr.aload_n 1, 1, false), (36, Instr.invokevirtual 67, 3, false), (39, Instr.lookupswitch 55 #[(80, 25), (81, 33)], 25, false), (64, Instr.aload_n 0, 1, false), (65, Instr.aload_n 1, 1, false), (66, Instr.invokevirtual 70, 3, false), (69, Instr.goto 44, 3, false), (72, Instr.aload_n 0, 1, false), (73, Instr.aload_n 0, 1, false), (74, Instr.getfield 23, 3, false), (77, Instr.aload_n 1, 1, false), (78, Instr.invokevirtual 74, 3, false), (81, Instr.invokevirtual 52, 3, false), (84, Instr.aload_n 1, 1, false), (85, Instr.invokevirtual 77, 3, false), (88, Instr.invokevirtual 80, 3, false), (91, Instr.goto 22, 3, false), (94, Instr.aload_n 0, 1, false), (95, Instr.aload_n 0, 1, false), (96, Instr.getfield 23, 3, false), (99, Instr.aload_n 1, 1, false), (100, Instr.invokevirtual 74, 3, false), (103, Instr.invokevirtual 52, 3, false), (106, Instr.aload_n 1, 1, false), (107, Instr.invokevirtual 83, 3, false), (110, Instr.invokevirtual 86, 3, false), (113, Instr.return_, 1, false)]
/-- PaymentHub$Ledger.hold(II)V -/
def zi_23 : zIs := [(0, Instr.aload_n 0, 1, false), (1, Instr.getfield 23, 3, false), (4, Instr.invokevirtual 89, 3, false), (7, Instr.aload_n 0, 1, false), (8, Instr.getfield 23, 3, false), (11, Instr.iload_n 1, 1, false), (12, Instr.iconst 3, 1, false), (13, Instr.invokevirtual 92, 3, false), (16, Instr.aload_n 0, 1, false), (17, Instr.getfield 23, 3, false), (20, Instr.iload_n 1, 1, false), (21, Instr.iload_n 2, 1, false), (22, Instr.invokevirtual 95, 3, false), (25, Instr.aload_n 0, 1, false), (26, Instr.getfield 14, 3, false), (29, Instr.aload_n 0, 1, false), (30, Instr.getfield 23, 3, false), (33, Instr.iload_n 1, 1, false), (34, Instr.invokevirtual 58, 3, false), (37, Instr.aload_n 0, 1, false), (38, Instr.getfield 23, 3, false), (41, Instr.iload_n 1, 1, false), (42, Instr.invokevirtual 55, 3, false), (45, Instr.invokevirtual 98, 3, false), (48, Instr.return_, 1, false)]
/-- PaymentHub$Ledger.letWait(I)V -/
def zi_24 : zIs := [(0, Instr.aload_n 0, 1, false), (1, Instr.getfield 23, 3, false), (4, Instr.invokevirtual 89, 3, false), (7, Instr.aload_n 0, 1, false), (8, Instr.getfield 23, 3, false), (11, Instr.iload_n 1, 1, false), (12, Instr.iconst 2, 1, false), (13, Instr.invokevirtual 92, 3, false), (16, Instr.return_, 1, false)]
/-- PaymentHub$Ledger.reject(I)V -/
def zi_25 : zIs := [(0, Instr.aload_n 0, 1, false), (1, Instr.getfield 14, 3, false), (4, Instr.aload_n 0, 1, false), (5, Instr.getfield 23, 3, false), (8, Instr.iload_n 1, 1, false), (9, Instr.invokevirtual 58, 3, false), (12, Instr.aload_n 0, 1, false), (13, Instr.getfield 23, 3, false), (16, Instr.iload_n 1, 1, false), (17, Instr.invokevirtual 55, 3, false), (20, Instr.ineg, 1, false), (21, Instr.invokevirtual 98, 3, false), (24, Instr.aload_n 0, 1, false), (25, Instr.iload_n 1, 1, false), (26, Instr.iconst 5, 1, false), (27, Instr.invokevirtual 101, 3, false), (30, Instr.aload_n 0, 1, false), (31, Instr.getfield 23, 3, false), (34, Instr.aload_n 0, 1, false), (35, Instr.getfield 23, 3, false), (38, Instr.iload_n 1, 1, false), (39, Instr.invokevirtual 58, 3, false), (42, Instr.invokevirtual 104, 3, false), (45, Instr.return_, 1, false)]
/-- PaymentHub$Ledger.receive(LPaymentHub$Message;)V -/
def zi_26 : zIs := [(0, Instr.iconst 0, 1, false), (1, Instr.istore_n 2, 1, false), (2, Instr.iload_n 2, 1, true), (3, Instr.aload_n 1, 1, false), (4, Instr.invokevirtual 42, 3, false), (7, Instr.if_icmp .ge 48, 3, false), (10, Instr.aload_n 1, 1, false), (11, Instr.iload_n 2, 1, false), (12, Instr.invokevirtual 108, 3, false), (15, Instr.invokestatic 109, 3, false), (18, Instr.istore_n 3, 1, false), (19, Instr.aload_n 1, 1, false), (20, Instr.iload_n 2, 1, false), (21, Instr.invokevirtual 112, 3, false), (24, Instr.invokestatic 109, 3, false), (27, Instr.istore 4, 2, false), (29, Instr.aload_n 0, 1, false), (30, Instr.getfield 23, 3, false), (33, Instr.aload_n 1, 1, false), (34, Instr.iload_n 2, 1, false), (35, Instr.invokevirtual 48, 3, false), (38, Instr.aload_n 1, 1, false), (39, Instr.iload_n 2, 1, false), (40, Instr.invokevirtual 115, 3, false), (43, Instr.iload_n 3, 1, false), (44, Instr.iload 4, 2, false), (46, Instr.invokevirtual 116, 3, false), (49, Instr.iinc 2 1, 3, false), (52, Instr.goto (-50), 3, false), (55, Instr.return_, 1, false)]
/-- PaymentHub$Ledger.answer(II)V -/
def zi_27 : zIs := [(0, Instr.iload_n 2, 1, false), (1, Instr.bipush 65, 2, false), (3, Instr.if_icmp .ne 11, 3, false), (6, Instr.aload_n 0, 1, false), (7, Instr.iload_n 1, 1, false), (8, Instr.invokevirtual 119, 3, false), (11, Instr.goto 8, 3, false), (14, Instr.aload_n 0, 1, false), (15, Instr.iload_n 1, 1, false), (16, Instr.invokevirtual 122, 3, false), (19, Instr.return_, 1, false)]
/-- PaymentHub$Ledger.settle(I)V -/
def zi_28 : zIs := [(0, Instr.aload_n 0, 1, false), (1, Instr.getfield 23, 3, false), (4, Instr.iload_n 1, 1, false), (5, Instr.invokevirtual 55, 3, false), (8, Instr.istore_n 2, 1, false), (9, Instr.aload_n 0, 1, false), (10, Instr.getfield 14, 3, false), (13, Instr.aload_n 0, 1, false), (14, Instr.getfield 23, 3, false), (17, Instr.iload_n 1, 1, false), (18, Instr.invokevirtual 58, 3, false), (21, Instr.iload_n 2, 1, false), (22, Instr.ineg, 1, false), (23, Instr.invokevirtual 98, 3, false), (26, Instr.aload_n 0, 1, false), (27, Instr.getfield 14, 3, false), (30, Instr.aload_n 0, 1, false), (31, Instr.getfield 23, 3, false), (34, Instr.iload_n 1, 1, false), (35, Instr.invokevirtual 58, 3, false), (38, Instr.iload_n 2, 1, false), (39, Instr.ineg, 1, false), (40, Instr.invokevirtual 125, 3, false), (43, Instr.aload_n 0, 1, false), (44, Instr.getfield 14, 3, false), (47, Instr.aload_n 0, 1, false), (48, Instr.getfield 23, 3, false), (51, Instr.iload_n 1, 1, false), (52, Instr.invokevirtual 128, 3, false), (55, Instr.iload_n 2, 1, false), (56, Instr.invokevirtual 125, 3, false), (59, Instr.aload_n 0, 1, false), (60, Instr.iload_n 1, 1, false), (61, Instr.iconst 4, 1, false), (62, Instr.invokevirtual 101, 3, false), (65, Instr.aload_n 0, 1, false), (66, Instr.getfield 23, 3, false), (69, Instr.aload_n 0, 1, false), (70, Instr.getfield 23, 3, false), (73, Instr.iload_n 1, 1, false), (74, Instr.invokevirtual 128, 3, false), (77, Instr.invokevirtual 104, 3, false), (80, Instr.return_, 1, false)]
/-- PaymentHub$Ledger.giveBack(II)V -/
def zi_29 : zIs := [(0, Instr.aload_n 0, 1, false), (1, Instr.getfield 14, 3, false), (4, Instr.aload_n 0, 1, false), (5, Instr.getfield 23, 3, false), (8, Instr.iload_n 1, 1, false), (9, Instr.invokevirtual 128, 3, false), (12, Instr.iload_n 2, 1, false), (13, Instr.ineg, 1, false), (14, Instr.invokevirtual 125, 3, false), (17, Instr.aload_n 0, 1, false), (18, Instr.getfield 14, 3, false), (21, Instr.aload_n 0, 1, false), (22, Instr.getfield 23, 3, false), (25, Instr.iload_n 1, 1, false), (26, Instr.invokevirtual 58, 3, false), (29, Instr.iload_n 2, 1, false), (30, Instr.invokevirtual 125, 3, false), (33, Instr.aload_n 0, 1, false), (34, Instr.iload_n 1, 1, false), (35, Instr.bipush 6, 2, false), (37, Instr.invokevirtual 101, 3, false), (40, Instr.aload_n 0, 1, false), (41, Instr.getfield 23, 3, false), (44, Instr.aload_n 0, 1, false), (45, Instr.getfield 23, 3, false), (48, Instr.iload_n 1, 1, false), (49, Instr.invokevirtual 58, 3, false), (52, Instr.invokevirtual 104, 3, false), (55, Instr.return_, 1, false)]
/-- PaymentHub$Ledger.end(II)V -/
def zi_30 : zIs := [(0, Instr.aload_n 0, 1, false), (1, Instr.getfield 23, 3, false), (4, Instr.iload_n 1, 1, false), (5, Instr.iload_n 2, 1, false), (6, Instr.invokevirtual 92, 3, false), (9, Instr.aload_n 0, 1, false), (10, Instr.getfield 30, 3, false), (13, Instr.iload_n 1, 1, false), (14, Instr.iload_n 2, 1, false), (15, Instr.invokevirtual 129, 3, false), (18, Instr.return_, 1, false)]
/-- PaymentHub$Message.<init>(LPaymentHub$Tree;)V -/
def zi_31 : zIs := [(0, Instr.aload_n 0, 1, false), (1, Instr.invokespecial 3, 3, false), (4, Instr.aload_n 0, 1, false), (5, Instr.aload_n 1, 1, false), (6, Instr.putfield 9, 3, false), (9, Instr.aload_n 0, 1, false), (10, Instr.new 15, 3, false), (13, Instr.dup, 1, false), (14, Instr.aload_n 1, 1, false), (15, Instr.invokespecial 17, 3, false), (18, Instr.putfield 20, 3, false), (21, Instr.aload_n 0, 1, false), (22, Instr.bipush 19, 2, false), (24, Instr.newarray .int, 2, false), (26, Instr.putfield 24, 3, false), (29, Instr.aload_n 0, 1, false), (30, Instr.iconst 0, 1, false), (31, Instr.putfield 28, 3, false), (34, Instr.aload_n 0, 1, false), (35, Instr.iconst 0, 1, false), (36, Instr.putfield 32, 3, false), (39, Instr.return_, 1, false)]
/-- PaymentHub$Message.take()Z -/
def zi_32 : zIs := [(0, Instr.aload_n 0, 1, false), (1, Instr.aload_n 0, 1, false), (2, Instr.getfield 9, 3, false), (5, Instr.iconst 0, 1, false), (6, Instr.invokevirtual 35, 3, false), (9, Instr.putfield 28, 3, false), (12, Instr.aload_n 0, 1, false), (13, Instr.aload_n 0, 1, false), (14, Instr.getfield 28, 3, false), (17, Instr.bipush 80, 2, false), (19, Instr.if_icmp .ne 17, 3, false), (22, Instr.aload_n 0, 1, false), (23, Instr.getfield 9, 3, false), (26, Instr.invokevirtual 41, 3, false), (29, Instr.iconst 4, 1, false), (30, Instr.isub, 1, false), (31, Instr.iconst 5, 1, false), (32, Instr.idiv, 1, false), (33, Instr.goto 4, 3, false), (36, Instr.iconst 0, 1, false), (37, Instr.putfield 32, 3, false), (40, Instr.aload_n 0, 1, false), (41, Instr.getfield 32, 3, false), (44, Instr.iconst 3, 1, false), (45, Instr.if_icmp .gt 20, 3, false), (48, Instr.aload_n 0, 1, false), (49, Instr.getfield 28, 3, false), (52, Instr.bipush 80, 2, false), (54, Instr.if_icmp .ne 13, 3, false), (57, Instr.aload_n 0, 1, false), (58, Instr.getfield 32, 3, false), (61, Instr.iconst 1, 1, false), (62, Instr.if_icmp .ge 5, 3, false), (65, Instr.iconst 0, 1, false), (66, Instr.ireturn, 1, false), (67, Instr.aload_n 0, 1, false), (68, Instr.getfield 9, 3, false), (71, Instr.invokevirtual 41, 3, false), (74, Instr.iconst 4, 1, false), (75, Instr.iconst 5, 1, false), (76, Instr.aload_n 0, 1, false), (77, Instr.getfield 32, 3, false), (80, Instr.imul, 1, false), (81, Instr.iadd, 1, false), (82, Instr.if_icmp .ne 23, 3, false), (85, Instr.aload_n 0, 1, false), (86, Instr.iconst 0, 1, false), (87, Instr.aload_n 0, 1, false), (88, Instr.getfield 28, 3, false), (91, Instr.invokestatic 44, 3, false), (94, Instr.iconst 0, 1, false), (95, Instr.invokevirtual 48, 3, false), (98, Instr.ifCond .eq 7, 3, false), (101, Instr.iconst 1, 1, false), (102, Instr.goto 4, 3, false), (105, Instr.iconst 0, 1, false), (106, Instr.istore_n 1, 1, false), (107, Instr.iconst 0, 1, false), (108, Instr.istore_n 2, 1, false), (109, Instr.iload_n 2, 1, true), (110, Instr.aload_n 0, 1, false), (111, Instr.getfield 32, 3, false), (114, Instr.if_icmp .ge 26, 3, false), (117, Instr.iload_n 1, 1, false), (118, Instr.ifCond .eq 22, 3, false), (121, Instr.aload_n 0, 1, false), (122, Instr.aload_n 0, 1, false), (123, Instr.iload_n 2, 1, false), (124, Instr.invokevirtual 52, 3, false), (127, Instr.ldc 55, 2, false), (129, Instr.iconst 1, 1, false), (130, Instr.invokevirtual 48, 3, false), (133, Instr.istore_n 1, 1, false), (134, Instr.iinc 2 1, 3, false), (137, Instr.goto (-28), 3, false), (140, Instr.iload_n 1, 1, false), (141, Instr.ireturn, 1, false)]
/-- PaymentHub$Message.takeRow(ILjava/lang/String;I)Z -/
def zi_33 : zIs := [(0, Instr.aload_n 2, 1, false), (1, Instr.invokevirtual 57, 3, false), (4, Instr.ifCond .ne 31, 3, false), (7, Instr.aload_n 0, 1, false), (8, Instr.getfield 9, 3, false), (11, Instr.iload_n 1, 1, false), (12, Instr.aload_n 2, 1, false), (13, Instr.iconst 0, 1, false), (14, Instr.invokevirtual 63, 3, false), (17, Instr.iload_n 3, 1, false), (18, Instr.invokevirtual 67, 3, false), (21, Instr.ifCond .eq 14, 3, false), (24, Instr.aload_n 0, 1, false), (25, Instr.getfield 9, 3, false), (28, Instr.iload_n 1, 1, false), (29, Instr.invokevirtual 71, 3, false), (32, Instr.ifCond .ne 5, 3, false), (35, Instr.iconst 0, 1, false), (36, Instr.ireturn, 1, false), (37, Instr.iconst 1, 1, false), (38, Instr.istore 4, 2, false), (40, Instr.iload 4, 2, true), (42, Instr.aload_n 2, 1, false), (43, Instr.invokevirtual 75, 3, false), (46, Instr.if_icmp .ge 83, 3, false), (49, Instr.iload_n 1, 1, false), (50, Instr.iload 4, 2, false), (52, Instr.iadd, 1, false), (53, Instr.istore 5, 2, false), (55, Instr.aload_n 0, 1, false), (56, Instr.getfield 9, 3, false), (59, Instr.iload 5, 2, false), (61, Instr.aload_n 2, 1, false), (62, Instr.iload 4, 2, false), (64, Instr.invokevirtual 63, 3, false), (67, Instr.iload_n 3, 1, false), (68, Instr.iconst 1, 1, false), (69, Instr.iadd, 1, false), (70, Instr.invokevirtual 67, 3, false), (73, Instr.ifCond .eq 15, 3, false), (76, Instr.aload_n 0, 1, false), (77, Instr.getfield 20, 3, false), (80, Instr.iload 5, 2, false), (82, Instr.invokevirtual 78, 3, false), (85, Instr.goto 4, 3, false), (88, Instr.iconst (-1), 1, false), (89, Instr.istore 6, 2, false), (91, Instr.iload 6, 2, false), (93, Instr.iconst (-1), 1, false), (94, Instr.if_icmp .eq 18, 3, false), (97, Instr.iload 5, 2, false), (99, Instr.ifCond .lt 13, 3, false), (102, Instr.iload 5, 2, false), (104, Instr.aload_n 0, 1, false), (105, Instr.getfield 24, 3, false), (108, Instr.arraylength, 1, false), (109, Instr.if_icmp .lt 5, 3, false), (112, Instr.iconst 0, 1, false), (113, Instr.ireturn, 1, false), (114, Instr.aload_n 0, 1, false), (115, Instr.getfield 24, 3, false), (118, Instr.iload 5, 2, false), (120, Instr.iload 6, 2, false), (122, Instr.iastore, 1, false), (123, Instr.iinc 4 1, 3, false), (126, Instr.goto (-86), 3, false), (129, Instr.iconst 1, 1, false), (130, Instr.ireturn, 1, false)]
/-- PaymentHub$Message.kind()I -/
def zi_34 : zIs := [(0, Instr.aload_n 0, 1, false), (1, Instr.getfield 28, 3, false), (4, Instr.ireturn, 1, false)]
/-- PaymentHub$Message.size()I -/
def zi_35 : zIs := [(0, Instr.aload_n 0, 1, false), (1, Instr.getfield 32, 3, false), (4, Instr.ireturn, 1, false)]
/-- PaymentHub$Message.placeOf(I)I -/
def zi_36 : zIs := [(0, Instr.iconst 4, 1, false), (1, Instr.iconst 5, 1, false), (2, Instr.iload_n 1, 1, false), (3, Instr.imul, 1, false), (4, Instr.iadd, 1, false), (5, Instr.ireturn, 1, false)]
/-- PaymentHub$Message.valueAt(I)I -/
def zi_37 : zIs := [(0, Instr.iload_n 1, 1, false), (1, Instr.ifCond .lt 21, 3, false), (4, Instr.iload_n 1, 1, false), (5, Instr.aload_n 0, 1, false), (6, Instr.getfield 24, 3, false), (9, Instr.arraylength, 1, false), (10, Instr.if_icmp .ge 12, 3, false), (13, Instr.aload_n 0, 1, false), (14, Instr.getfield 24, 3, false), (17, Instr.iload_n 1, 1, false), (18, Instr.iaload, 1, false), (19, Instr.goto 4, 3, false), (22, Instr.iconst (-1), 1, false), (23, Instr.ireturn, 1, false)]
/-- PaymentHub$Message.name()I -/
def zi_38 : zIs := [(0, Instr.aload_n 0, 1, false), (1, Instr.iconst 1, 1, false), (2, Instr.invokevirtual 81, 3, false), (5, Instr.ireturn, 1, false)]
/-- PaymentHub$Message.number()I -/
def zi_39 : zIs := [(0, Instr.aload_n 0, 1, false), (1, Instr.iconst 2, 1, false), (2, Instr.invokevirtual 81, 3, false), (5, Instr.ireturn, 1, false)]
/-- PaymentHub$Message.sum()I -/
def zi_40 : zIs := [(0, Instr.aload_n 0, 1, false), (1, Instr.iconst 3, 1, false), (2, Instr.invokevirtual 81, 3, false), (5, Instr.ireturn, 1, false)]
/-- PaymentHub$Message.original()I -/
def zi_41 : zIs := [(0, Instr.aload_n 0, 1, false), (1, Instr.iconst 2, 1, false), (2, Instr.invokevirtual 81, 3, false), (5, Instr.ireturn, 1, false)]
/-- PaymentHub$Message.verdict()I -/
def zi_42 : zIs := [(0, Instr.aload_n 0, 1, false), (1, Instr.iconst 3, 1, false), (2, Instr.invokevirtual 81, 3, false), (5, Instr.ireturn, 1, false)]
/-- PaymentHub$Message.returned()I -/
def zi_43 : zIs := [(0, Instr.aload_n 0, 1, false), (1, Instr.iconst 3, 1, false), (2, Instr.invokevirtual 81, 3, false), (5, Instr.ireturn, 1, false)]
/-- PaymentHub$Message.nameOf(I)I -/
def zi_44 : zIs := [(0, Instr.aload_n 0, 1, false), (1, Instr.aload_n 0, 1, false), (2, Instr.iload_n 1, 1, false), (3, Instr.invokevirtual 52, 3, false), (6, Instr.iconst 1, 1, false), (7, Instr.iadd, 1, false), (8, Instr.invokevirtual 81, 3, false), (11, Instr.ireturn, 1, false)]
/-- PaymentHub$Message.debtorOf(I)I -/
def zi_45 : zIs := [(0, Instr.aload_n 0, 1, false), (1, Instr.aload_n 0, 1, false), (2, Instr.iload_n 1, 1, false), (3, Instr.invokevirtual 52, 3, false), (6, Instr.iconst 2, 1, false), (7, Instr.iadd, 1, false), (8, Instr.invokevirtual 81, 3, false), (11, Instr.ireturn, 1, false)]
/-- PaymentHub$Message.creditorOf(I)I -/
def zi_46 : zIs := [(0, Instr.aload_n 0, 1, false), (1, Instr.aload_n 0, 1, false), (2, Instr.iload_n 1, 1, false), (3, Instr.invokevirtual 52, 3, false), (6, Instr.iconst 3, 1, false), (7, Instr.iadd, 1, false), (8, Instr.invokevirtual 81, 3, false), (11, Instr.ireturn, 1, false)]
/-- PaymentHub$Message.amountOf(I)I -/
def zi_47 : zIs := [(0, Instr.aload_n 0, 1, false), (1, Instr.aload_n 0, 1, false), (2, Instr.iload_n 1, 1, false), (3, Instr.invokevirtual 52, 3, false), (6, Instr.iconst 4, 1, false), (7, Instr.iadd, 1, false), (8, Instr.invokevirtual 81, 3, false), (11, Instr.ireturn, 1, false)]
/-- PaymentHub$Message.total()I -/
def zi_48 : zIs := [(0, Instr.iconst 0, 1, false), (1, Instr.istore_n 1, 1, false), (2, Instr.iconst 0, 1, false), (3, Instr.istore_n 2, 1, false), (4, Instr.iload_n 2, 1, true), (5, Instr.aload_n 0, 1, false), (6, Instr.getfield 32, 3, false), (9, Instr.if_icmp .ge 17, 3, false), (12, Instr.iload_n 1, 1, false), (13, Instr.aload_n 0, 1, false), (14, Instr.iload_n 2, 1, false), (15, Instr.invokevirtual 84, 3, false), (18, Instr.iadd, 1, false), (19, Instr.istore_n 1, 1, false), (20, Instr.iinc 2 1, 3, false), (23, Instr.goto (-19), 3, false), (26, Instr.iload_n 1, 1, false), (27, Instr.ireturn, 1, false)]
/-- PaymentHub$Message.hasGoodAccounts()Z -/
def zi_49 : zIs := [(0, Instr.iconst 0, 1, false), (1, Instr.istore_n 1, 1, false), (2, Instr.iload_n 1, 1, true), (3, Instr.aload_n 0, 1, false), (4, Instr.getfield 32, 3, false), (7, Instr.if_icmp .ge 35, 3, false), (10, Instr.aload_n 0, 1, false), (11, Instr.iload_n 1, 1, false), (12, Instr.invokevirtual 87, 3, false), (15, Instr.bipush 97, 2, false), (17, Instr.irem, 1, false), (18, Instr.iconst 1, 1, false), (19, Instr.if_icmp .ne 15, 3, false), (22, Instr.aload_n 0, 1, false), (23, Instr.iload_n 1, 1, false), (24, Instr.invokevirtual 90, 3, false), (27, Instr.bipush 97, 2, false), (29, Instr.irem, 1, false), (30, Instr.iconst 1, 1, false), (31, Instr.if_icmp .eq 5, 3, false), (34, Instr.iconst 0, 1, false), (35, Instr.ireturn, 1, false), (36, Instr.iinc 1 1, 3, false), (39, Instr.goto (-37), 3, false), (42, Instr.iconst 1, 1, false), (43, Instr.ireturn, 1, false)]
/-- PaymentHub$Message.joinsDifferentAccounts()Z -/
def zi_50 : zIs := [(0, Instr.iconst 0, 1, false), (1, Instr.istore_n 1, 1, false), (2, Instr.iload_n 1, 1, true), (3, Instr.aload_n 0, 1, false), (4, Instr.getfield 32, 3, false), (7, Instr.if_icmp .ge 30, 3, false), (10, Instr.aload_n 0, 1, false), (11, Instr.iload_n 1, 1, false), (12, Instr.invokevirtual 87, 3, false), (15, Instr.invokestatic 93, 3, false), (18, Instr.aload_n 0, 1, false), (19, Instr.iload_n 1, 1, false), (20, Instr.invokevirtual 90, 3, false), (23, Instr.invokestatic 93, 3, false), (26, Instr.if_icmp .ne 5, 3, false), (29, Instr.iconst 0, 1, false), (30, Instr.ireturn, 1, false), (31, Instr.iinc 1 1, 3, false), (34, Instr.goto (-32), 3, false), (37, Instr.iconst 1, 1, false), (38, Instr.ireturn, 1, false)]
/-- PaymentHub$Message.hasDifferentNames()Z -/
def zi_51 : zIs := [(0, Instr.iconst 0, 1, false), (1, Instr.istore_n 1, 1, false), (2, Instr.iload_n 1, 1, true), (3, Instr.aload_n 0, 1, false), (4, Instr.getfield 32, 3, false), (7, Instr.if_icmp .ge 37, 3, false), (10, Instr.iconst 0, 1, false), (11, Instr.istore_n 2, 1, false), (12, Instr.iload_n 2, 1, true), (13, Instr.iload_n 1, 1, false), (14, Instr.if_icmp .ge 24, 3, false), (17, Instr.aload_n 0, 1, false), (18, Instr.iload_n 1, 1, false), (19, Instr.invokevirtual 96, 3, false), (22, Instr.aload_n 0, 1, false), (23, Instr.iload_n 2, 1, false), (24, Instr.invokevirtual 96, 3, false), (27, Instr.if_icmp .ne 5, 3, false), (30, Instr.iconst 0, 1, false), (31, Instr.ireturn, 1, false), (32, Instr.iinc 2 1, 3, false), (35, Instr.goto (-23), 3, false), (38, Instr.iinc 1 1, 3, false), (41, Instr.goto (-39), 3, false), (44, Instr.iconst 1, 1, false), (45, Instr.ireturn, 1, false)]
/-- PaymentHub$Records.<init>()V -/
def zi_52 : zIs := [(0, Instr.aload_n 0, 1, false), (1, Instr.invokespecial 3, 3, false), (4, Instr.aload_n 0, 1, false), (5, Instr.sipush 5247, 3, false), (8, Instr.newarray .byte, 2, false), (10, Instr.putfield 9, 3, false), (13, Instr.aload_n 0, 1, false), (14, Instr.iconst 0, 1, false), (15, Instr.putfield 15, 3, false), (18, Instr.aload_n 0, 1, false), (19, Instr.iconst 0, 1, false), (20, Instr.putfield 19, 3, false), (23, Instr.aload_n 0, 1, false), (24, Instr.sipush 258, 3, false), (27, Instr.newarray .int, 2, false), (29, Instr.putfield 22, 3, false), (32, Instr.aload_n 0, 1, false), (33, Instr.iconst 0, 1, false), (34, Instr.putfield 26, 3, false), (37, Instr.aload_n 0, 1, false), (38, Instr.iconst 0, 1, false), (39, Instr.putfield 29, 3, false), (42, Instr.aload_n 0, 1, false), (43, Instr.iconst 0, 1, false), (44, Instr.putfield 33, 3, false), (47, Instr.aload_n 0, 1, false), (48, Instr.iconst 0, 1, false), (49, Instr.putfield 36, 3, false), (52, Instr.aload_n 0, 1, false), (53, Instr.iconst 0, 1, false), (54, Instr.putfield 39, 3, false), (57, Instr.return_, 1, false)]
/-- PaymentHub$Records.isDown()Z -/
def zi_53 : zIs := [(0, Instr.aload_n 0, 1, false), (1, Instr.getfield 39, 3, false), (4, Instr.ireturn, 1, false)]
/-- PaymentHub$Records.length()I -/
def zi_54 : zIs := [(0, Instr.aload_n 0, 1, false), (1, Instr.getfield 15, 3, false), (4, Instr.ireturn, 1, false)]
/-- PaymentHub$Records.byteAt(I)I -/
def zi_55 : zIs := [(0, Instr.iload_n 1, 1, false), (1, Instr.ifCond .lt 33, 3, false), (4, Instr.iload_n 1, 1, false), (5, Instr.aload_n 0, 1, false), (6, Instr.getfield 15, 3, false), (9, Instr.if_icmp .ge 25, 3, false), (12, Instr.iload_n 1, 1, false), (13, Instr.aload_n 0, 1, false), (14, Instr.getfield 9, 3, false), (17, Instr.arraylength, 1, false), (18, Instr.if_icmp .ge 16, 3, false), (21, Instr.aload_n 0, 1, false), (22, Instr.getfield 9, 3, false), (25, Instr.iload_n 1, 1, false), (26, Instr.baload, 1, false), (27, Instr.sipush 255, 3, false), (30, Instr.iand, 1, false), (31, Instr.goto 4, 3, false), (34, Instr.iconst (-1), 1, false), (35, Instr.ireturn, 1, false)]
/-- PaymentHub$Records.breakAfter(II)V -/
def zi_56 : zIs := [(0, Instr.aload_n 0, 1, false), (1, Instr.iconst 1, 1, false), (2, Instr.putfield 29, 3, false), (5, Instr.aload_n 0, 1, false), (6, Instr.iload_n 1, 1, false), (7, Instr.putfield 33, 3, false), (10, Instr.aload_n 0, 1, false), (11, Instr.iload_n 2, 1, false), (12, Instr.putfield 36, 3, false), (15, Instr.return_, 1, false)]
/-- PaymentHub$Records.restore()V -/
def zi_57 : zIs := [(0, Instr.aload_n 0, 1, false), (1, Instr.aload_n 0, 1, false), (2, Instr.getfield 19, 3, false), (5, Instr.putfield 15, 3, false), (8, Instr.aload_n 0, 1, false), (9, Instr.iconst 0, 1, false), (10, Instr.putfield 39, 3, false), (13, Instr.return_, 1, false)]
/-- PaymentHub$Records.begin(I)V -/
def zi_58 : zIs := [(0, Instr.aload_n 0, 1, false), (1, Instr.iconst 0, 1, false), (2, Instr.putfield 26, 3, false), (5, Instr.aload_n 0, 1, false), (6, Instr.iload_n 1, 1, false), (7, Instr.invokevirtual 42, 3, false), (10, Instr.aload_n 0, 1, false), (11, Instr.iconst 0, 1, false), (12, Instr.invokevirtual 42, 3, false), (15, Instr.return_, 1, false)]
/-- PaymentHub$Records.add(I)V -/
def zi_59 : zIs := [(0, Instr.aload_n 0, 1, false), (1, Instr.getfield 26, 3, false), (4, Instr.aload_n 0, 1, false), (5, Instr.getfield 22, 3, false), (8, Instr.arraylength, 1, false), (9, Instr.if_icmp .ge 23, 3, false), (12, Instr.aload_n 0, 1, false), (13, Instr.getfield 22, 3, false), (16, Instr.aload_n 0, 1, false), (17, Instr.getfield 26, 3, false), (20, Instr.iload_n 1, 1, false), (21, Instr.iastore, 1, false), (22, Instr.aload_n 0, 1, false), (23, Instr.dup, 1, false), (24, Instr.getfield 26, 3, false), (27, Instr.iconst 1, 1, false), (28, Instr.iadd, 1, false), (29, Instr.putfield 26, 3, false), (32, Instr.return_, 1, false)]
/-- PaymentHub$Records.writeNumber(II)Z -/
def zi_60 : zIs := [(0, Instr.aload_n 0, 1, false), (1, Instr.iload_n 1, 1, false), (2, Instr.invokevirtual 46, 3, false), (5, Instr.aload_n 0, 1, false), (6, Instr.iload_n 2, 1, false), (7, Instr.invokevirtual 42, 3, false), (10, Instr.aload_n 0, 1, false), (11, Instr.invokevirtual 49, 3, false), (14, Instr.ireturn, 1, false)]
/-- PaymentHub$Records.write()Z -/
def zi_61 : zIs := [(0, Instr.aload_n 0, 1, false), (1, Instr.getfield 22, 3, false), (4, Instr.iconst 1, 1, false), (5, Instr.aload_n 0, 1, false), (6, Instr.getfield 26, 3, false), (9, Instr.iconst 2, 1, false), (10, Instr.isub, 1, false), (11, Instr.iastore, 1, false), (12, Instr.aload_n 0, 1, false), (13, Instr.aload_n 0, 1, false), (14, Instr.invokevirtual 53, 3, false), (17, Instr.invokevirtual 42, 3, false), (20, Instr.aload_n 0, 1, false), (21, Instr.getfield 29, 3, false), (24, Instr.ifCond .eq 39, 3, false), (27, Instr.aload_n 0, 1, false), (28, Instr.getfield 33, 3, false), (31, Instr.ifCond .ne 32, 3, false), (34, Instr.aload_n 0, 1, false), (35, Instr.aload_n 0, 1, false), (36, Instr.getfield 36, 3, false), (39, Instr.aload_n 0, 1, false), (40, Instr.getfield 26, 3, false), (43, Instr.iconst 1, 1, false), (44, Instr.isub, 1, false), (45, Instr.invokestatic 57, 3, false), (48, Instr.invokevirtual 63, 3, false), (51, Instr.aload_n 0, 1, false), (52, Instr.iconst 0, 1, false), (53, Instr.putfield 29, 3, false), (56, Instr.aload_n 0, 1, false), (57, Instr.iconst 1, 1, false), (58, Instr.putfield 39, 3, false), (61, Instr.iconst 0, 1, false), (62, Instr.ireturn, 1, false), (63, Instr.aload_n 0, 1, false), (64, Instr.getfield 29, 3, false), (67, Instr.ifCond .eq 13, 3, false), (70, Instr.aload_n 0, 1, false), (71, Instr.dup, 1, false), (72, Instr.getfield 33, 3, false), (75, Instr.iconst 1, 1, false), (76, Instr.isub, 1, false), (77, Instr.putfield 33, 3, false), (80, Instr.aload_n 0, 1, false), (81, Instr.aload_n 0, 1, false), (82, Instr.getfield 26, 3, false), (85, Instr.invokevirtual 63, 3, false), (88, Instr.aload_n 0, 1, false), (89, Instr.aload_n 0, 1, false), (90, Instr.getfield 15, 3, false), (93, Instr.putfield 19, 3, false), (96, Instr.iconst 1, 1, false), (97, Instr.ireturn, 1, false)]
/-- PaymentHub$Records.check()I -/
def zi_62 : zIs := [(0, Instr.iconst 0, 1, false), (1, Instr.istore_n 1, 1, false), (2, Instr.iconst 0, 1, false), (3, Instr.istore_n 2, 1, false), (4, Instr.iload_n 2, 1, true), (5, Instr.aload_n 0, 1, false), (6, Instr.getfield 26, 3, false), (9, Instr.if_icmp .ge 27, 3, false), (12, Instr.iload_n 2, 1, false), (13, Instr.aload_n 0, 1, false), (14, Instr.getfield 22, 3, false), (17, Instr.arraylength, 1, false), (18, Instr.if_icmp .ge 18, 3, false), (21, Instr.iload_n 1, 1, false), (22, Instr.aload_n 0, 1, false), (23, Instr.getfield 22, 3, false), (26, Instr.iload_n 2, 1, false), (27, Instr.iaload, 1, false), (28, Instr.iadd, 1, false), (29, Instr.istore_n 1, 1, false), (30, Instr.iinc 2 1, 3, false), (33, Instr.goto (-29), 3, false), (36, Instr.iload_n 1, 1, false), (37, Instr.sipush 251, 3, false), (40, Instr.irem, 1, false), (41, Instr.ireturn, 1, false)]
/-- PaymentHub$Records.append(I)V -/
def zi_63 : zIs := [(0, Instr.iconst 0, 1, false), (1, Instr.istore_n 2, 1, false), (2, Instr.iload_n 2, 1, true), (3, Instr.iload_n 1, 1, false), (4, Instr.if_icmp .ge 56, 3, false), (7, Instr.iload_n 2, 1, false), (8, Instr.aload_n 0, 1, false), (9, Instr.getfield 22, 3, false), (12, Instr.arraylength, 1, false), (13, Instr.if_icmp .ge 47, 3, false), (16, Instr.aload_n 0, 1, false), (17, Instr.getfield 15, 3, false), (20, Instr.aload_n 0, 1, false), (21, Instr.getfield 9, 3, false), (24, Instr.arraylength, 1, false), (25, Instr.if_icmp .ge 35, 3, false), (28, Instr.aload_n 0, 1, false), (29, Instr.getfield 9, 3, false), (32, Instr.aload_n 0, 1, false), (33, Instr.getfield 15, 3, false), (36, Instr.aload_n 0, 1, false), (37, Instr.getfield 22, 3, false), (40, Instr.iload_n 2, 1, false), (41, Instr.iaload, 1, false), (42, Instr.i2b, 1, false), (43, Instr.bastore, 1, false), (44, Instr.aload_n 0, 1, false), (45, Instr.dup, 1, false), (46, Instr.getfield 15, 3, false), (49, Instr.iconst 1, 1, false), (50, Instr.iadd, 1, false), (51, Instr.putfield 15, 3, false), (54, Instr.iinc 2 1, 3, false), (57, Instr.goto (-55), 3, false), (60, Instr.return_, 1, false)]
/-- PaymentHub$Reports.<init>()V -/
def zi_64 : zIs := [(0, Instr.aload_n 0, 1, false), (1, Instr.invokespecial 3, 3, false), (4, Instr.aload_n 0, 1, false), (5, Instr.bipush 40, 2, false), (7, Instr.newarray .int, 2, false), (9, Instr.putfield 9, 3, false), (12, Instr.aload_n 0, 1, false), (13, Instr.bipush 40, 2, false), (15, Instr.newarray .int, 2, false), (17, Instr.putfield 15, 3, false), (20, Instr.aload_n 0, 1, false), (21, Instr.bipush 40, 2, false), (23, Instr.newarray .boolean, 2, false), (25, Instr.putfield 18, 3, false), (28, Instr.aload_n 0, 1, false), (29, Instr.bipush 40, 2, false), (31, Instr.newarray .int, 2, false), (33, Instr.putfield 22, 3, false), (36, Instr.aload_n 0, 1, false), (37, Instr.iconst 0, 1, false), (38, Instr.putfield 25, 3, false), (41, Instr.return_, 1, false)]
/-- PaymentHub$Reports.has(I)Z -/
def zi_65 : zIs := [(0, Instr.iload_n 1, 1, false), (1, Instr.ifCond .lt 21, 3, false), (4, Instr.iload_n 1, 1, false), (5, Instr.aload_n 0, 1, false), (6, Instr.getfield 25, 3, false), (9, Instr.if_icmp .ge 13, 3, false), (12, Instr.iload_n 1, 1, false), (13, Instr.bipush 40, 2, false), (15, Instr.if_icmp .ge 7, 3, false), (18, Instr.iconst 1, 1, false), (19, Instr.goto 4, 3, false), (22, Instr.iconst 0, 1, false), (23, Instr.ireturn, 1, false)]
/-- PaymentHub$Reports.add(II)V -/
def zi_66 : zIs := [(0, Instr.aload_n 0, 1, false), (1, Instr.getfield 25, 3, false), (4, Instr.bipush 40, 2, false), (6, Instr.if_icmp .ge 33, 3, false), (9, Instr.aload_n 0, 1, false), (10, Instr.getfield 9, 3, false), (13, Instr.aload_n 0, 1, false), (14, Instr.getfield 25, 3, false), (17, Instr.iload_n 1, 1, false), (18, Instr.iastore, 1, false), (19, Instr.aload_n 0, 1, false), (20, Instr.getfield 15, 3, false), (23, Instr.aload_n 0, 1, false), (24, Instr.getfield 25, 3, false), (27, Instr.iload_n 2, 1, false), (28, Instr.iastore, 1, false), (29, Instr.aload_n 0, 1, false), (30, Instr.dup, 1, false), (31, Instr.getfield 25, 3, false), (34, Instr.iconst 1, 1, false), (35, Instr.iadd, 1, false), (36, Instr.putfield 25, 3, false), (39, Instr.return_, 1, false)]
/-- PaymentHub$Reports.transactionOf(I)I -/
def zi_67 : zIs := [(0, Instr.aload_n 0, 1, false), (1, Instr.iload_n 1, 1, false), (2, Instr.invokevirtual 29, 3, false), (5, Instr.ifCond .eq 12, 3, false), (8, Instr.aload_n 0, 1, false), (9, Instr.getfield 9, 3, false), (12, Instr.iload_n 1, 1, false), (13, Instr.iaload, 1, false), (14, Instr.goto 4, 3, false), (17, Instr.iconst (-1), 1, false), (18, Instr.ireturn, 1, false)]
/-- PaymentHub$Reports.statusOf(I)I -/
def zi_68 : zIs := [(0, Instr.aload_n 0, 1, false), (1, Instr.iload_n 1, 1, false), (2, Instr.invokevirtual 29, 3, false), (5, Instr.ifCond .eq 12, 3, false), (8, Instr.aload_n 0, 1, false), (9, Instr.getfield 15, 3, false), (12, Instr.iload_n 1, 1, false), (13, Instr.iaload, 1, false), (14, Instr.goto 4, 3, false), (17, Instr.iconst (-1), 1, false), (18, Instr.ireturn, 1, false)]
/-- PaymentHub$Reports.isMarked(I)Z -/
def zi_69 : zIs := [(0, Instr.aload_n 0, 1, false), (1, Instr.iload_n 1, 1, false), (2, Instr.invokevirtual 29, 3, false), (5, Instr.ifCond .eq 16, 3, false), (8, Instr.aload_n 0, 1, false), (9, Instr.getfield 18, 3, false), (12, Instr.iload_n 1, 1, false), (13, Instr.baload, 1, false), (14, Instr.ifCond .eq 7, 3, false), (17, Instr.iconst 1, 1, false), (18, Instr.goto 4, 3, false), (21, Instr.iconst 0, 1, false), (22, Instr.ireturn, 1, false)]
/-- PaymentHub$Reports.copiesOf(I)I -/
def zi_70 : zIs := [(0, Instr.aload_n 0, 1, false), (1, Instr.iload_n 1, 1, false), (2, Instr.invokevirtual 29, 3, false), (5, Instr.ifCond .eq 12, 3, false), (8, Instr.aload_n 0, 1, false), (9, Instr.getfield 22, 3, false), (12, Instr.iload_n 1, 1, false), (13, Instr.iaload, 1, false), (14, Instr.goto 4, 3, false), (17, Instr.iconst 0, 1, false), (18, Instr.ireturn, 1, false)]
/-- PaymentHub$Reports.firstUnmarked()I -/
def zi_71 : zIs := [(0, Instr.iconst 0, 1, false), (1, Instr.istore_n 1, 1, false), (2, Instr.iload_n 1, 1, true), (3, Instr.aload_n 0, 1, false), (4, Instr.getfield 25, 3, false), (7, Instr.if_icmp .ge 26, 3, false), (10, Instr.iload_n 1, 1, false), (11, Instr.bipush 40, 2, false), (13, Instr.if_icmp .ge 20, 3, false), (16, Instr.aload_n 0, 1, false), (17, Instr.getfield 18, 3, false), (20, Instr.iload_n 1, 1, false), (21, Instr.baload, 1, false), (22, Instr.ifCond .ne 5, 3, false), (25, Instr.iload_n 1, 1, false), (26, Instr.ireturn, 1, false), (27, Instr.iinc 1 1, 3, false), (30, Instr.goto (-28), 3, false), (33, Instr.iconst (-1), 1, false), (34, Instr.ireturn, 1, false)]
/-- PaymentHub$Reports.copy(I)V -/
def zi_72 : zIs := [(0, Instr.aload_n 0, 1, false), (1, Instr.iload_n 1, 1, false), (2, Instr.invokevirtual 29, 3, false), (5, Instr.ifCond .eq 13, 3, false), (8, Instr.aload_n 0, 1, false), (9, Instr.getfield 22, 3, false), (12, Instr.iload_n 1, 1, false), (13, Instr.dup2, 1, false), (14, Instr.iaload, 1, false), (15, Instr.iconst 1, 1, false), (16, Instr.iadd, 1, false), (17, Instr.iastore, 1, false), (18, Instr.return_, 1, false)]
/-- PaymentHub$Reports.mark(I)V -/
def zi_73 : zIs := [(0, Instr.aload_n 0, 1, false), (1, Instr.iload_n 1, 1, false), (2, Instr.invokevirtual 29, 3, false), (5, Instr.ifCond .eq 10, 3, false), (8, Instr.aload_n 0, 1, false), (9, Instr.getfield 18, 3, false), (12, Instr.iload_n 1, 1, false), (13, Instr.iconst 1, 1, false), (14, Instr.bastore, 1, false), (15, Instr.return_, 1, false)]
/-- PaymentHub$Text.<init>(LPaymentHub$Tree;)V -/
def zi_74 : zIs := [(0, Instr.aload_n 0, 1, false), (1, Instr.invokespecial 3, 3, false), (4, Instr.aload_n 0, 1, false), (5, Instr.aload_n 1, 1, false), (6, Instr.putfield 9, 3, false), (9, Instr.aload_n 0, 1, false), (10, Instr.sipush 300, 3, false), (13, Instr.newarray .int, 2, false), (15, Instr.putfield 15, 3, false), (18, Instr.aload_n 0, 1, false), (19, Instr.iconst 0, 1, false), (20, Instr.putfield 19, 3, false), (23, Instr.aload_n 0, 1, false), (24, Instr.iconst 0, 1, false), (25, Instr.putfield 23, 3, false), (28, Instr.return_, 1, false)]
/-- PaymentHub$Text.length()I -/
def zi_75 : zIs := [(0, Instr.aload_n 0, 1, false), (1, Instr.getfield 19, 3, false), (4, Instr.ireturn, 1, false)]
/-- PaymentHub$Text.hasRoomFor(I)Z -/
def zi_76 : zIs := [(0, Instr.aload_n 0, 1, false), (1, Instr.getfield 19, 3, false), (4, Instr.iload_n 1, 1, false), (5, Instr.iadd, 1, false), (6, Instr.sipush 300, 3, false), (9, Instr.if_icmp .gt 7, 3, false), (12, Instr.iconst 1, 1, false), (13, Instr.goto 4, 3, false), (16, Instr.iconst 0, 1, false), (17, Instr.ireturn, 1, false)]
/-- PaymentHub$Text.add(I)V -/
def zi_77 : zIs := [(0, Instr.aload_n 0, 1, false), (1, Instr.getfield 19, 3, false), (4, Instr.aload_n 0, 1, false), (5, Instr.getfield 15, 3, false), (8, Instr.arraylength, 1, false), (9, Instr.if_icmp .ge 23, 3, false), (12, Instr.aload_n 0, 1, false), (13, Instr.getfield 15, 3, false), (16, Instr.aload_n 0, 1, false), (17, Instr.getfield 19, 3, false), (20, Instr.iload_n 1, 1, false), (21, Instr.iastore, 1, false), (22, Instr.aload_n 0, 1, false), (23, Instr.dup, 1, false), (24, Instr.getfield 19, 3, false), (27, Instr.iconst 1, 1, false), (28, Instr.iadd, 1, false), (29, Instr.putfield 19, 3, false), (32, Instr.return_, 1, false)]
/-- PaymentHub$Text.clear()V -/
def zi_78 : zIs := [(0, Instr.aload_n 0, 1, false), (1, Instr.iconst 0, 1, false), (2, Instr.putfield 19, 3, false), (5, Instr.return_, 1, false)]
/-- PaymentHub$Text.read()Z -/
def zi_79 : zIs := [(0, Instr.aload_n 0, 1, false), (1, Instr.iconst 0, 1, false), (2, Instr.putfield 23, 3, false), (5, Instr.aload_n 0, 1, false), (6, Instr.getfield 9, 3, false), (9, Instr.invokevirtual 26, 3, false), (12, Instr.iconst 0, 1, false), (13, Instr.istore_n 1, 1, false), (14, Instr.iload_n 1, 1, true), (15, Instr.sipush 300, 3, false), (18, Instr.if_icmp .ge 29, 3, false), (21, Instr.aload_n 0, 1, false), (22, Instr.getfield 23, 3, false), (25, Instr.aload_n 0, 1, false), (26, Instr.getfield 19, 3, false), (29, Instr.if_icmp .ge 18, 3, false), (32, Instr.aload_n 0, 1, false), (33, Instr.invokevirtual 31, 3, false), (36, Instr.ifCond .ne 5, 3, false), (39, Instr.iconst 0, 1, false), (40, Instr.ireturn, 1, false), (41, Instr.iinc 1 1, 3, false), (44, Instr.goto (-30), 3, false), (47, Instr.aload_n 0, 1, false), (48, Instr.getfield 23, 3, false), (51, Instr.aload_n 0, 1, false), (52, Instr.getfield 19, 3, false), (55, Instr.if_icmp .ne 17, 3, false), (58, Instr.aload_n 0, 1, false), (59, Instr.getfield 9, 3, false), (62, Instr.invokevirtual 35, 3, false), (65, Instr.ifCond .eq 7, 3, false), (68, Instr.iconst 1, 1, false), (69, Instr.goto 4, 3, false), (72, Instr.iconst 0, 1, false), (73, Instr.ireturn, 1, false)]
/-- PaymentHub$Text.readNext()Z -/
def zi_80 : zIs := [(0, Instr.aload_n 0, 1, false), (1, Instr.iconst 0, 1, false), (2, Instr.invokevirtual 38, 3, false), (5, Instr.istore_n 1, 1, false), (6, Instr.iload_n 1, 1, false), (7, Instr.bipush 60, 2, false), (9, Instr.if_icmp .ne 8, 3, false), (12, Instr.aload_n 0, 1, false), (13, Instr.invokevirtual 42, 3, false), (16, Instr.ireturn, 1, false), (17, Instr.iload_n 1, 1, false), (18, Instr.bipush 38, 2, false), (20, Instr.if_icmp .ne 8, 3, false), (23, Instr.aload_n 0, 1, false), (24, Instr.invokevirtual 45, 3, false), (27, Instr.ireturn, 1, false), (28, Instr.aload_n 0, 1, false), (29, Instr.dup, 1, false), (30, Instr.getfield 23, 3, false), (33, Instr.iconst 1, 1, false), (34, Instr.iadd, 1, false), (35, Instr.putfield 23, 3, false), (38, Instr.aload_n 0, 1, false), (39, Instr.getfield 9, 3, false), (42, Instr.invokevirtual 48, 3, false), (45, Instr.ifCond .eq 14, 3, false), (48, Instr.aload_n 0, 1, false), (49, Instr.getfield 9, 3, false), (52, Instr.iload_n 1, 1, false), (53, Instr.invokevirtual 51, 3, false), (56, Instr.goto 14, 3, false), (59, Instr.iload_n 1, 1, false), (60, Instr.bipush 32, 2, false), (62, Instr.if_icmp .ne 7, 3, false), (65, Instr.iconst 1, 1, false), (66, Instr.goto 4, 3, false), (69, Instr.iconst 0, 1, false), (70, Instr.ireturn, 1, false)]
/-- PaymentHub$Text.readSign()Z -/
def zi_81 : zIs := [(0, Instr.aload_n 0, 1, false), (1, Instr.iconst 1, 1, false), (2, Instr.invokevirtual 38, 3, false), (5, Instr.lookupswitch 37 #[(33, 27), (47, 32)], 27, false), (32, Instr.aload_n 0, 1, false), (33, Instr.invokevirtual 55, 3, false), (36, Instr.ireturn, 1, false), (37, Instr.aload_n 0, 1, false), (38, Instr.invokevirtual 58, 3, false), (41, Instr.ireturn, 1, false), (42, Instr.aload_n 0, 1, false), (43, Instr.invokevirtual 61, 3, false), (46, Instr.ireturn, 1, false)]
/-- PaymentHub$Text.readComment()Z -/
def zi_82 : zIs := [(0, Instr.aload_n 0, 1, false), (1, Instr.iconst 2, 1, false), (2, Instr.invokevirtual 38, 3, false), (5, Instr.bipush 45, 2, false), (7, Instr.if_icmp .ne 13, 3, false), (10, Instr.aload_n 0, 1, false), (11, Instr.iconst 3, 1, false), (12, Instr.invokevirtual 38, 3, false), (15, Instr.bipush 45, 2, false), (17, Instr.if_icmp .eq 5, 3, false), (20, Instr.iconst 0, 1, false), (21, Instr.ireturn, 1, false), (22, Instr.aload_n 0, 1, false), (23, Instr.dup, 1, false), (24, Instr.getfield 23, 3, false), (27, Instr.iconst 4, 1, false), (28, Instr.iadd, 1, false), (29, Instr.putfield 23, 3, false), (32, Instr.aload_n 0, 1, true), (33, Instr.getfield 23, 3, false), (36, Instr.aload_n 0, 1, false), (37, Instr.getfield 19, 3, false), (40, Instr.if_icmp .ge 36, 3, false), (43, Instr.aload_n 0, 1, false), (44, Instr.iconst 0, 1, false), (45, Instr.invokevirtual 38, 3, false), (48, Instr.bipush 45, 2, false), (50, Instr.if_icmp .ne 13, 3, false), (53, Instr.aload_n 0, 1, false), (54, Instr.iconst 1, 1, false), (55, Instr.invokevirtual 38, 3, false), (58, Instr.bipush 45, 2, false), (60, Instr.if_icmp .eq 16, 3, false), (63, Instr.aload_n 0, 1, false), (64, Instr.dup, 1, false), (65, Instr.getfield 23, 3, false), (68, Instr.iconst 1, 1, false), (69, Instr.iadd, 1, false), (70, Instr.putfield 23, 3, false), (73, Instr.goto (-41), 3, false), (76, Instr.aload_n 0, 1, false), (77, Instr.iconst 2, 1, false), (78, Instr.invokevirtual 38, 3, false), (81, Instr.bipush 62, 2, false), (83, Instr.if_icmp .ne 7, 3, false), (86, Instr.iconst 1, 1, false), (87, Instr.goto 4, 3, false), (90, Instr.iconst 0, 1, false), (91, Instr.istore_n 1, 1, false), (92, Instr.aload_n 0, 1, false), (93, Instr.dup, 1, false), (94, Instr.getfield 23, 3, false), (97, Instr.iconst 3, 1, false), (98, Instr.iadd, 1, false), (99, Instr.putfield 23, 3, false), (102, Instr.iload_n 1, 1, false), (103, Instr.ireturn, 1, false)]
/-- PaymentHub$Text.readBegin()Z -/
def zi_83 : zIs := [(0, Instr.aload_n 0, 1, false), (1, Instr.iconst 1, 1, false), (2, Instr.invokevirtual 38, 3, false), (5, Instr.istore_n 1, 1, false), (6, Instr.iload_n 1, 1, false), (7, Instr.invokestatic 64, 3, false), (10, Instr.ifCond .eq 14, 3, false), (13, Instr.aload_n 0, 1, false), (14, Instr.getfield 9, 3, false), (17, Instr.iload_n 1, 1, false), (18, Instr.invokevirtual 67, 3, false), (21, Instr.ifCond .ne 5, 3, false), (24, Instr.iconst 0, 1, false), (25, Instr.ireturn, 1, false), (26, Instr.aload_n 0, 1, false), (27, Instr.dup, 1, false), (28, Instr.getfield 23, 3, false), (31, Instr.iconst 2, 1, false), (32, Instr.iadd, 1, false), (33, Instr.putfield 23, 3, false), (36, Instr.aload_n 0, 1, false), (37, Instr.invokevirtual 70, 3, false), (40, Instr.aload_n 0, 1, false), (41, Instr.iconst 0, 1, false), (42, Instr.invokevirtual 38, 3, false), (45, Instr.bipush 47, 2, false), (47, Instr.if_icmp .ne 22, 3, false), (50, Instr.aload_n 0, 1, false), (51, Instr.dup, 1, false), (52, Instr.getfield 23, 3, false), (55, Instr.iconst 1, 1, false), (56, Instr.iadd, 1, false), (57, Instr.putfield 23, 3, false), (60, Instr.aload_n 0, 1, false), (61, Instr.getfield 9, 3, false), (64, Instr.iload_n 1, 1, false), (65, Instr.invokevirtual 73, 3, false), (68, Instr.pop, 1, false), (69, Instr.aload_n 0, 1, false), (70, Instr.invokevirtual 76, 3, false), (73, Instr.ireturn, 1, false)]
/-- PaymentHub$Text.readEnd()Z -/
def zi_84 : zIs := [(0, Instr.aload_n 0, 1, false), (1, Instr.iconst 2, 1, false), (2, Instr.invokevirtual 38, 3, false), (5, Instr.istore_n 1, 1, false), (6, Instr.aload_n 0, 1, false), (7, Instr.getfield 9, 3, false), (10, Instr.iload_n 1, 1, false), (11, Instr.invokevirtual 73, 3, false), (14, Instr.ifCond .ne 5, 3, false), (17, Instr.iconst 0, 1, false), (18, Instr.ireturn, 1, false), (19, Instr.aload_n 0, 1, false), (20, Instr.dup, 1, false), (21, Instr.getfield 23, 3, false), (24, Instr.iconst 3, 1, false), (25, Instr.iadd, 1, false), (26, Instr.putfield 23, 3, false), (29, Instr.aload_n 0, 1, false), (30, Instr.invokevirtual 70, 3, false), (33, Instr.aload_n 0, 1, false), (34, Instr.invokevirtual 76, 3, false), (37, Instr.ireturn, 1, false)]
/-- PaymentHub$Text.readClosingSign()Z -/
def zi_85 : zIs := [(0, Instr.aload_n 0, 1, false), (1, Instr.iconst 0, 1, false), (2, Instr.invokevirtual 38, 3, false), (5, Instr.bipush 62, 2, false), (7, Instr.if_icmp .ne 7, 3, false), (10, Instr.iconst 1, 1, false), (11, Instr.goto 4, 3, false), (14, Instr.iconst 0, 1, false), (15, Instr.istore_n 1, 1, false), (16, Instr.aload_n 0, 1, false), (17, Instr.dup, 1, false), (18, Instr.getfield 23, 3, false), (21, Instr.iconst 1, 1, false), (22, Instr.iadd, 1, false), (23, Instr.putfield 23, 3, false), (26, Instr.iload_n 1, 1, false), (27, Instr.ireturn, 1, false)]
/-- PaymentHub$Text.readReference()Z -/
def zi_86 : zIs := [(0, Instr.aload_n 0, 1, false), (1, Instr.iconst 1, 1, false), (2, Instr.invokevirtual 38, 3, false), (5, Instr.bipush 35, 2, false), (7, Instr.if_icmp .eq 5, 3, false), (10, Instr.iconst 0, 1, false), (11, Instr.ireturn, 1, false), (12, Instr.aload_n 0, 1, false), (13, Instr.dup, 1, false), (14, Instr.getfield 23, 3, false), (17, Instr.iconst 2, 1, false), (18, Instr.iadd, 1, false), (19, Instr.putfield 23, 3, false), (22, Instr.iconst 0, 1, false), (23, Instr.istore_n 1, 1, false), (24, Instr.iconst 0, 1, false), (25, Instr.istore_n 2, 1, false), (26, Instr.iload_n 2, 1, true), (27, Instr.iconst 3, 1, false), (28, Instr.if_icmp .ge 44, 3, false), (31, Instr.aload_n 0, 1, false), (32, Instr.iconst 0, 1, false), (33, Instr.invokevirtual 38, 3, false), (36, Instr.invokestatic 79, 3, false), (39, Instr.ifCond .eq 33, 3, false), (42, Instr.bipush 10, 2, false), (44, Instr.iload_n 1, 1, false), (45, Instr.imul, 1, false), (46, Instr.aload_n 0, 1, false), (47, Instr.iconst 0, 1, false), (48, Instr.invokevirtual 38, 3, false), (51, Instr.iadd, 1, false), (52, Instr.bipush 48, 2, false), (54, Instr.isub, 1, false), (55, Instr.istore_n 1, 1, false), (56, Instr.iinc 2 1, 3, false), (59, Instr.aload_n 0, 1, false), (60, Instr.dup, 1, false), (61, Instr.getfield 23, 3, false), (64, Instr.iconst 1, 1, false), (65, Instr.iadd, 1, false), (66, Instr.putfield 23, 3, false), (69, Instr.goto (-43), 3, false), (72, Instr.aload_n 0, 1, false), (73, Instr.iconst 0, 1, false), (74, Instr.invokevirtual 38, 3, false), (77, Instr.bipush 59, 2, false), (79, Instr.if_icmp .ne 7, 3, false), (82, Instr.iconst 1, 1, false), (83, Instr.goto 4, 3, false), (86, Instr.iconst 0, 1, false), (87, Instr.istore_n 3, 1, false), (88, Instr.aload_n 0, 1, false), (89, Instr.dup, 1, false), (90, Instr.getfield 23, 3, false), (93, Instr.iconst 1, 1, false), (94, Instr.iadd, 1, false), (95, Instr.putfield 23, 3, false), (98, Instr.iload_n 3, 1, false), (99, Instr.ifCond .eq 35, 3, false), (102, Instr.iload_n 2, 1, false), (103, Instr.iconst 2, 1, false), (104, Instr.if_icmp .lt 30, 3, false), (107, Instr.iload_n 1, 1, false), (108, Instr.bipush 33, 2, false), (110, Instr.if_icmp .lt 24, 3, false), (113, Instr.iload_n 1, 1, false), (114, Instr.bipush 126, 2, false), (116, Instr.if_icmp .gt 18, 3, false), (119, Instr.aload_n 0, 1, false), (120, Instr.getfield 9, 3, false), (123, Instr.iload_n 1, 1, false), (124, Instr.invokevirtual 51, 3, false), (127, Instr.ifCond .eq 7, 3, false), (130, Instr.iconst 1, 1, false), (131, Instr.goto 4, 3, false), (134, Instr.iconst 0, 1, false), (135, Instr.ireturn, 1, false)]
/-- PaymentHub$Text.skipBlanks()V -/
def zi_87 : zIs := [(0, Instr.aload_n 0, 1, true), (1, Instr.getfield 23, 3, false), (4, Instr.aload_n 0, 1, false), (5, Instr.getfield 19, 3, false), (8, Instr.if_icmp .ge 26, 3, false), (11, Instr.aload_n 0, 1, false), (12, Instr.iconst 0, 1, false), (13, Instr.invokevirtual 38, 3, false), (16, Instr.bipush 32, 2, false), (18, Instr.if_icmp .ne 16, 3, false), (21, Instr.aload_n 0, 1, false), (22, Instr.dup, 1, false), (23, Instr.getfield 23, 3, false), (26, Instr.iconst 1, 1, false), (27, Instr.iadd, 1, false), (28, Instr.putfield 23, 3, false), (31, Instr.goto (-31), 3, false), (34, Instr.return_, 1, false)]
/-- PaymentHub$Text.peek(I)I -/
def zi_88 : zIs := [(0, Instr.aload_n 0, 1, false), (1, Instr.getfield 23, 3, false), (4, Instr.iload_n 1, 1, false), (5, Instr.iadd, 1, false), (6, Instr.istore_n 2, 1, false), (7, Instr.iload_n 2, 1, false), (8, Instr.ifCond .lt 29, 3, false), (11, Instr.iload_n 2, 1, false), (12, Instr.aload_n 0, 1, false), (13, Instr.getfield 19, 3, false), (16, Instr.if_icmp .ge 21, 3, false), (19, Instr.iload_n 2, 1, false), (20, Instr.aload_n 0, 1, false), (21, Instr.getfield 15, 3, false), (24, Instr.arraylength, 1, false), (25, Instr.if_icmp .ge 12, 3, false), (28, Instr.aload_n 0, 1, false), (29, Instr.getfield 15, 3, false), (32, Instr.iload_n 2, 1, false), (33, Instr.iaload, 1, false), (34, Instr.goto 4, 3, false), (37, Instr.iconst 0, 1, false), (38, Instr.ireturn, 1, false)]
/-- PaymentHub$Transactions.<init>()V -/
def zi_89 : zIs := [(0, Instr.aload_n 0, 1, false), (1, Instr.invokespecial 3, 3, false), (4, Instr.aload_n 0, 1, false), (5, Instr.bipush 20, 2, false), (7, Instr.newarray .int, 2, false), (9, Instr.putfield 9, 3, false), (12, Instr.aload_n 0, 1, false), (13, Instr.bipush 20, 2, false), (15, Instr.newarray .int, 2, false), (17, Instr.putfield 15, 3, false), (20, Instr.aload_n 0, 1, false), (21, Instr.bipush 20, 2, false), (23, Instr.newarray .int, 2, false), (25, Instr.putfield 18, 3, false), (28, Instr.aload_n 0, 1, false), (29, Instr.bipush 20, 2, false), (31, Instr.newarray .int, 2, false), (33, Instr.putfield 21, 3, false), (36, Instr.aload_n 0, 1, false), (37, Instr.bipush 20, 2, false), (39, Instr.newarray .int, 2, false), (41, Instr.putfield 24, 3, false), (44, Instr.aload_n 0, 1, false), (45, Instr.bipush 20, 2, false), (47, Instr.newarray .int, 2, false), (49, Instr.putfield 27, 3, false), (52, Instr.aload_n 0, 1, false), (53, Instr.iconst 0, 1, false), (54, Instr.putfield 30, 3, false), (57, Instr.aload_n 0, 1, false), (58, Instr.bipush 20, 2, false), (60, Instr.newarray .int, 2, false), (62, Instr.putfield 34, 3, false), (65, Instr.aload_n 0, 1, false), (66, Instr.iconst 0, 1, false), (67, Instr.putfield 37, 3, false), (70, Instr.return_, 1, false)]
/-- PaymentHub$Transactions.has(I)Z -/
def zi_90 : zIs := [(0, Instr.iload_n 1, 1, false), (1, Instr.ifCond .lt 21, 3, false), (4, Instr.iload_n 1, 1, false), (5, Instr.aload_n 0, 1, false), (6, Instr.getfield 30, 3, false), (9, Instr.if_icmp .ge 13, 3, false), (12, Instr.iload_n 1, 1, false), (13, Instr.bipush 20, 2, false), (15, Instr.if_icmp .ge 7, 3, false), (18, Instr.iconst 1, 1, false), (19, Instr.goto 4, 3, false), (22, Instr.iconst 0, 1, false), (23, Instr.ireturn, 1, false)]
/-- PaymentHub$Transactions.hasRoomFor(I)Z -/
def zi_91 : zIs := [(0, Instr.aload_n 0, 1, false), (1, Instr.getfield 30, 3, false), (4, Instr.iload_n 1, 1, false), (5, Instr.iadd, 1, false), (6, Instr.bipush 20, 2, false), (8, Instr.if_icmp .gt 7, 3, false), (11, Instr.iconst 1, 1, false), (12, Instr.goto 4, 3, false), (15, Instr.iconst 0, 1, false), (16, Instr.ireturn, 1, false)]
/-- PaymentHub$Transactions.find(I)I -/
def zi_92 : zIs := [(0, Instr.iconst 0, 1, false), (1, Instr.istore_n 2, 1, false), (2, Instr.iload_n 2, 1, true), (3, Instr.aload_n 0, 1, false), (4, Instr.getfield 30, 3, false), (7, Instr.if_icmp .ge 27, 3, false), (10, Instr.iload_n 2, 1, false), (11, Instr.bipush 20, 2, false), (13, Instr.if_icmp .ge 21, 3, false), (16, Instr.aload_n 0, 1, false), (17, Instr.getfield 9, 3, false), (20, Instr.iload_n 2, 1, false), (21, Instr.iaload, 1, false), (22, Instr.iload_n 1, 1, false), (23, Instr.if_icmp .ne 5, 3, false), (26, Instr.iload_n 2, 1, false), (27, Instr.ireturn, 1, false), (28, Instr.iinc 2 1, 3, false), (31, Instr.goto (-29), 3, false), (34, Instr.iconst (-1), 1, false), (35, Instr.ireturn, 1, false)]
/-- PaymentHub$Transactions.statusOf(I)I -/
def zi_93 : zIs := [(0, Instr.aload_n 0, 1, false), (1, Instr.iload_n 1, 1, false), (2, Instr.invokevirtual 40, 3, false), (5, Instr.ifCond .eq 12, 3, false), (8, Instr.aload_n 0, 1, false), (9, Instr.getfield 24, 3, false), (12, Instr.iload_n 1, 1, false), (13, Instr.iaload, 1, false), (14, Instr.goto 4, 3, false), (17, Instr.iconst (-1), 1, false), (18, Instr.ireturn, 1, false)]
/-- PaymentHub$Transactions.amountOf(I)I -/
def zi_94 : zIs := [(0, Instr.aload_n 0, 1, false), (1, Instr.iload_n 1, 1, false), (2, Instr.invokevirtual 40, 3, false), (5, Instr.ifCond .eq 12, 3, false), (8, Instr.aload_n 0, 1, false), (9, Instr.getfield 15, 3, false), (12, Instr.iload_n 1, 1, false), (13, Instr.iaload, 1, false), (14, Instr.goto 4, 3, false), (17, Instr.iconst 0, 1, false), (18, Instr.ireturn, 1, false)]
/-- PaymentHub$Transactions.debtorOf(I)I -/
def zi_95 : zIs := [(0, Instr.aload_n 0, 1, false), (1, Instr.iload_n 1, 1, false), (2, Instr.invokevirtual 40, 3, false), (5, Instr.ifCond .eq 12, 3, false), (8, Instr.aload_n 0, 1, false), (9, Instr.getfield 18, 3, false), (12, Instr.iload_n 1, 1, false), (13, Instr.iaload, 1, false), (14, Instr.goto 4, 3, false), (17, Instr.iconst (-1), 1, false), (18, Instr.ireturn, 1, false)]
/-- PaymentHub$Transactions.creditorOf(I)I -/
def zi_96 : zIs := [(0, Instr.aload_n 0, 1, false), (1, Instr.iload_n 1, 1, false), (2, Instr.invokevirtual 40, 3, false), (5, Instr.ifCond .eq 12, 3, false), (8, Instr.aload_n 0, 1, false), (9, Instr.getfield 21, 3, false), (12, Instr.iload_n 1, 1, false), (13, Instr.iaload, 1, false), (14, Instr.goto 4, 3, false), (17, Instr.iconst (-1), 1, false), (18, Instr.ireturn, 1, false)]
/-- PaymentHub$Transactions.deadlineOf(I)I -/
def zi_97 : zIs := [(0, Instr.aload_n 0, 1, false), (1, Instr.iload_n 1, 1, false), (2, Instr.invokevirtual 40, 3, false), (5, Instr.ifCond .eq 12, 3, false), (8, Instr.aload_n 0, 1, false), (9, Instr.getfield 27, 3, false), (12, Instr.iload_n 1, 1, false), (13, Instr.iaload, 1, false), (14, Instr.goto 4, 3, false), (17, Instr.iconst 0, 1, false), (18, Instr.ireturn, 1, false)]
/-- PaymentHub$Transactions.isDue(II)Z -/
def zi_98 : zIs := [(0, Instr.aload_n 0, 1, false), (1, Instr.iload_n 1, 1, false), (2, Instr.invokevirtual 40, 3, false), (5, Instr.ifCond .eq 27, 3, false), (8, Instr.aload_n 0, 1, false), (9, Instr.getfield 24, 3, false), (12, Instr.iload_n 1, 1, false), (13, Instr.iaload, 1, false), (14, Instr.iconst 3, 1, false), (15, Instr.if_icmp .ne 17, 3, false), (18, Instr.aload_n 0, 1, false), (19, Instr.getfield 27, 3, false), (22, Instr.iload_n 1, 1, false), (23, Instr.iaload, 1, false), (24, Instr.iload_n 2, 1, false), (25, Instr.if_icmp .gt 7, 3, false), (28, Instr.iconst 1, 1, false), (29, Instr.goto 4, 3, false), (32, Instr.iconst 0, 1, false), (33, Instr.ireturn, 1, false)]
/-- PaymentHub$Transactions.firstQueued()I -/
def zi_99 : zIs := [(0, Instr.aload_n 0, 1, false), (1, Instr.iconst 0, 1, false), (2, Instr.invokevirtual 44, 3, false), (5, Instr.ireturn, 1, false)]
/-- PaymentHub$Transactions.queuedAt(I)I -/
def zi_100 : zIs := [(0, Instr.iload_n 1, 1, false), (1, Instr.ifCond .lt 26, 3, false), (4, Instr.iload_n 1, 1, false), (5, Instr.aload_n 0, 1, false), (6, Instr.getfield 37, 3, false), (9, Instr.if_icmp .ge 18, 3, false), (12, Instr.iload_n 1, 1, false), (13, Instr.bipush 20, 2, false), (15, Instr.if_icmp .ge 12, 3, false), (18, Instr.aload_n 0, 1, false), (19, Instr.getfield 34, 3, false), (22, Instr.iload_n 1, 1, false), (23, Instr.iaload, 1, false), (24, Instr.goto 4, 3, false), (27, Instr.iconst (-1), 1, false), (28, Instr.ireturn, 1, false)]
/-- PaymentHub$Transactions.receive(IIII)V -/
def zi_101 : zIs := [(0, Instr.aload_n 0, 1, false), (1, Instr.getfield 30, 3, false), (4, Instr.bipush 20, 2, false), (6, Instr.if_icmp .ge 74, 3, false), (9, Instr.aload_n 0, 1, false), (10, Instr.getfield 9, 3, false), (13, Instr.aload_n 0, 1, false), (14, Instr.getfield 30, 3, false), (17, Instr.iload_n 1, 1, false), (18, Instr.iastore, 1, false), (19, Instr.aload_n 0, 1, false), (20, Instr.getfield 15, 3, false), (23, Instr.aload_n 0, 1, false), (24, Instr.getfield 30, 3, false), (27, Instr.iload_n 2, 1, false), (28, Instr.iastore, 1, false), (29, Instr.aload_n 0, 1, false), (30, Instr.getfield 18, 3, false), (33, Instr.aload_n 0, 1, false), (34, Instr.getfield 30, 3, false), (37, Instr.iload_n 3, 1, false), (38, Instr.iastore, 1, false), (39, Instr.aload_n 0, 1, false), (40, Instr.getfield 21, 3, false), (43, Instr.aload_n 0, 1, false), (44, Instr.getfield 30, 3, false), (47, Instr.iload 4, 2, false), (49, Instr.iastore, 1, false), (50, Instr.aload_n 0, 1, false), (51, Instr.getfield 27, 3, false), (54, Instr.aload_n 0, 1, false), (55, Instr.getfield 30, 3, false), (58, Instr.iconst 0, 1, false), (59, Instr.iastore, 1, false), (60, Instr.aload_n 0, 1, false), (61, Instr.dup, 1, false), (62, Instr.getfield 30, 3, false), (65, Instr.iconst 1, 1, false), (66, Instr.iadd, 1, false), (67, Instr.putfield 30, 3, false), (70, Instr.aload_n 0, 1, false), (71, Instr.aload_n 0, 1, false), (72, Instr.getfield 30, 3, false), (75, Instr.iconst 1, 1, false), (76, Instr.isub, 1, false), (77, Instr.invokevirtual 48, 3, false), (80, Instr.return_, 1, false)]
/-- PaymentHub$Transactions.become(II)V -/
def zi_102 : zIs := [(0, Instr.aload_n 0, 1, false), (1, Instr.iload_n 1, 1, false), (2, Instr.invokevirtual 40, 3, false), (5, Instr.ifCond .eq 10, 3, false), (8, Instr.aload_n 0, 1, false), (9, Instr.getfield 24, 3, false), (12, Instr.iload_n 1, 1, false), (13, Instr.iload_n 2, 1, false), (14, Instr.iastore, 1, false), (15, Instr.return_, 1, false)]
/-- PaymentHub$Transactions.setDeadline(II)V -/
def zi_103 : zIs := [(0, Instr.aload_n 0, 1, false), (1, Instr.iload_n 1, 1, false), (2, Instr.invokevirtual 40, 3, false), (5, Instr.ifCond .eq 10, 3, false), (8, Instr.aload_n 0, 1, false), (9, Instr.getfield 27, 3, false), (12, Instr.iload_n 1, 1, false), (13, Instr.iload_n 2, 1, false), (14, Instr.iastore, 1, false), (15, Instr.return_, 1, false)]
/-- PaymentHub$Transactions.dropFirstQueued()V -/
def zi_104 : zIs := [(0, Instr.iconst 1, 1, false), (1, Instr.istore_n 1, 1, false), (2, Instr.iload_n 1, 1, true), (3, Instr.aload_n 0, 1, false), (4, Instr.getfield 37, 3, false), (7, Instr.if_icmp .ge 29, 3, false), (10, Instr.iload_n 1, 1, false), (11, Instr.bipush 20, 2, false), (13, Instr.if_icmp .ge 23, 3, false), (16, Instr.aload_n 0, 1, false), (17, Instr.getfield 34, 3, false), (20, Instr.iload_n 1, 1, false), (21, Instr.iconst 1, 1, false), (22, Instr.isub, 1, false), (23, Instr.aload_n 0, 1, false), (24, Instr.getfield 34, 3, false), (27, Instr.iload_n 1, 1, false), (28, Instr.iaload, 1, false), (29, Instr.iastore, 1, false), (30, Instr.iinc 1 1, 3, false), (33, Instr.goto (-31), 3, false), (36, Instr.aload_n 0, 1, false), (37, Instr.getfield 37, 3, false), (40, Instr.ifCond .le 13, 3, false), (43, Instr.aload_n 0, 1, false), (44, Instr.dup, 1, false), (45, Instr.getfield 37, 3, false), (48, Instr.iconst 1, 1, false), (49, Instr.isub, 1, false), (50, Instr.putfield 37, 3, false), (53, Instr.return_, 1, false)]
/-- PaymentHub$Transactions.wakeThoseOf(I)V -/
def zi_105 : zIs := [(0, Instr.iconst 0, 1, false), (1, Instr.istore_n 2, 1, false), (2, Instr.iload_n 2, 1, true), (3, Instr.aload_n 0, 1, false), (4, Instr.getfield 30, 3, false), (7, Instr.if_icmp .ge 40, 3, false), (10, Instr.iload_n 2, 1, false), (11, Instr.bipush 20, 2, false), (13, Instr.if_icmp .ge 34, 3, false), (16, Instr.aload_n 0, 1, false), (17, Instr.getfield 24, 3, false), (20, Instr.iload_n 2, 1, false), (21, Instr.iaload, 1, false), (22, Instr.iconst 2, 1, false), (23, Instr.if_icmp .ne 18, 3, false), (26, Instr.aload_n 0, 1, false), (27, Instr.getfield 18, 3, false), (30, Instr.iload_n 2, 1, false), (31, Instr.iaload, 1, false), (32, Instr.iload_n 1, 1, false), (33, Instr.if_icmp .ne 8, 3, false), (36, Instr.aload_n 0, 1, false), (37, Instr.iload_n 2, 1, false), (38, Instr.invokevirtual 48, 3, false), (41, Instr.iinc 2 1, 3, false), (44, Instr.goto (-42), 3, false), (47, Instr.return_, 1, false)]
/-- PaymentHub$Transactions.enqueue(I)V -/
def zi_106 : zIs := [(0, Instr.aload_n 0, 1, false), (1, Instr.iload_n 1, 1, false), (2, Instr.invokevirtual 40, 3, false), (5, Instr.ifCond .eq 39, 3, false), (8, Instr.aload_n 0, 1, false), (9, Instr.getfield 37, 3, false), (12, Instr.bipush 20, 2, false), (14, Instr.if_icmp .ge 30, 3, false), (17, Instr.aload_n 0, 1, false), (18, Instr.getfield 24, 3, false), (21, Instr.iload_n 1, 1, false), (22, Instr.iconst 1, 1, false), (23, Instr.iastore, 1, false), (24, Instr.aload_n 0, 1, false), (25, Instr.getfield 34, 3, false), (28, Instr.aload_n 0, 1, false), (29, Instr.getfield 37, 3, false), (32, Instr.iload_n 1, 1, false), (33, Instr.iastore, 1, false), (34, Instr.aload_n 0, 1, false), (35, Instr.dup, 1, false), (36, Instr.getfield 37, 3, false), (39, Instr.iconst 1, 1, false), (40, Instr.iadd, 1, false), (41, Instr.putfield 37, 3, false), (44, Instr.return_, 1, false)]
/-- PaymentHub$Tree.<init>()V -/
def zi_107 : zIs := [(0, Instr.aload_n 0, 1, false), (1, Instr.invokespecial 3, 3, false), (4, Instr.aload_n 0, 1, false), (5, Instr.bipush 75, 2, false), (7, Instr.newarray .int, 2, false), (9, Instr.putfield 9, 3, false), (12, Instr.aload_n 0, 1, false), (13, Instr.bipush 75, 2, false), (15, Instr.newarray .int, 2, false), (17, Instr.putfield 15, 3, false), (20, Instr.aload_n 0, 1, false), (21, Instr.bipush 75, 2, false), (23, Instr.newarray .int, 2, false), (25, Instr.putfield 18, 3, false), (28, Instr.aload_n 0, 1, false), (29, Instr.bipush 75, 2, false), (31, Instr.newarray .int, 2, false), (33, Instr.putfield 21, 3, false), (36, Instr.aload_n 0, 1, false), (37, Instr.bipush 75, 2, false), (39, Instr.newarray .boolean, 2, false), (41, Instr.putfield 24, 3, false), (44, Instr.aload_n 0, 1, false), (45, Instr.iconst 0, 1, false), (46, Instr.putfield 28, 3, false), (49, Instr.aload_n 0, 1, false), (50, Instr.iconst 4, 1, false), (51, Instr.newarray .int, 2, false), (53, Instr.putfield 32, 3, false), (56, Instr.aload_n 0, 1, false), (57, Instr.iconst 0, 1, false), (58, Instr.putfield 35, 3, false), (61, Instr.aload_n 0, 1, false), (62, Instr.sipush 300, 3, false), (65, Instr.newarray .int, 2, false), (67, Instr.putfield 38, 3, false), (70, Instr.aload_n 0, 1, false), (71, Instr.iconst 0, 1, false), (72, Instr.putfield 41, 3, false), (75, Instr.return_, 1, false)]
/-- PaymentHub$Tree.clear()V -/
def zi_108 : zIs := [(0, Instr.aload_n 0, 1, false), (1, Instr.iconst 0, 1, false), (2, Instr.putfield 28, 3, false), (5, Instr.aload_n 0, 1, false), (6, Instr.iconst 0, 1, false), (7, Instr.putfield 35, 3, false), (10, Instr.aload_n 0, 1, false), (11, Instr.iconst 0, 1, false), (12, Instr.putfield 41, 3, false), (15, Instr.return_, 1, false)]
/-- PaymentHub$Tree.isOpen()Z -/
def zi_109 : zIs := [(0, Instr.aload_n 0, 1, false), (1, Instr.getfield 35, 3, false), (4, Instr.ifCond .le 7, 3, false), (7, Instr.iconst 1, 1, false), (8, Instr.goto 4, 3, false), (11, Instr.iconst 0, 1, false), (12, Instr.ireturn, 1, false)]
/-- PaymentHub$Tree.isComplete()Z -/
def zi_110 : zIs := [(0, Instr.aload_n 0, 1, false), (1, Instr.getfield 35, 3, false), (4, Instr.ifCond .ne 14, 3, false), (7, Instr.aload_n 0, 1, false), (8, Instr.getfield 28, 3, false), (11, Instr.ifCond .le 7, 3, false), (14, Instr.iconst 1, 1, false), (15, Instr.goto 4, 3, false), (18, Instr.iconst 0, 1, false), (19, Instr.ireturn, 1, false)]
/-- PaymentHub$Tree.size()I -/
def zi_111 : zIs := [(0, Instr.aload_n 0, 1, false), (1, Instr.getfield 28, 3, false), (4, Instr.ireturn, 1, false)]
/-- PaymentHub$Tree.begin(I)Z -/
def zi_112 : zIs := [(0, Instr.aload_n 0, 1, false), (1, Instr.getfield 35, 3, false), (4, Instr.ifCond .ne 10, 3, false), (7, Instr.aload_n 0, 1, false), (8, Instr.getfield 28, 3, false), (11, Instr.ifCond .gt 20, 3, false), (14, Instr.aload_n 0, 1, false), (15, Instr.getfield 35, 3, false), (18, Instr.iconst 4, 1, false), (19, Instr.if_icmp .ge 12, 3, false), (22, Instr.aload_n 0, 1, false), (23, Instr.getfield 28, 3, false), (26, Instr.bipush 75, 2, false), (28, Instr.if_icmp .lt 5, 3, false), (31, Instr.iconst 0, 1, false), (32, Instr.ireturn, 1, false), (33, Instr.aload_n 0, 1, false), (34, Instr.getfield 9, 3, false), (37, Instr.aload_n 0, 1, false), (38, Instr.getfield 28, 3, false), (41, Instr.iload_n 1, 1, false), (42, Instr.iastore, 1, false), (43, Instr.aload_n 0, 1, false), (44, Instr.getfield 15, 3, false), (47, Instr.aload_n 0, 1, false), (48, Instr.getfield 28, 3, false), (51, Instr.aload_n 0, 1, false), (52, Instr.getfield 35, 3, false), (55, Instr.iastore, 1, false), (56, Instr.aload_n 0, 1, false), (57, Instr.getfield 18, 3, false), (60, Instr.aload_n 0, 1, false), (61, Instr.getfield 28, 3, false), (64, Instr.aload_n 0, 1, false), (65, Instr.getfield 41, 3, false), (68, Instr.iastore, 1, false), (69, Instr.aload_n 0, 1, false), (70, Instr.getfield 21, 3, false), (73, Instr.aload_n 0, 1, false), (74, Instr.getfield 28, 3, false), (77, Instr.aload_n 0, 1, false), (78, Instr.getfield 41, 3, false), (81, Instr.iastore, 1, false), (82, Instr.aload_n 0, 1, false), (83, Instr.getfield 24, 3, false), (86, Instr.aload_n 0, 1, false), (87, Instr.getfield 28, 3, false), (90, Instr.iconst 0, 1, false), (91, Instr.bastore, 1, false), (92, Instr.aload_n 0, 1, false), (93, Instr.getfield 32, 3, false), (96, Instr.aload_n 0, 1, false), (97, Instr.getfield 35, 3, false), (100, Instr.aload_n 0, 1, false), (101, Instr.getfield 28, 3, false), (104, Instr.iastore, 1, false), (105, Instr.aload_n 0, 1, false), (106, Instr.dup, 1, false), (107, Instr.getfield 35, 3, false), (110, Instr.iconst 1, 1, false), (111, Instr.iadd, 1, false), (112, Instr.putfield 35, 3, false), (115, Instr.aload_n 0, 1, false), (116, Instr.dup, 1, false), (117, Instr.getfield 28, 3, false), (120, Instr.iconst 1, 1, false), (121, Instr.iadd, 1, false), (122, Instr.putfield 28, 3, false), (125, Instr.iconst 1, 1, false), (126, Instr.ireturn, 1, false)]
/-- PaymentHub$Tree.end(I)Z -/
def zi_113 : zIs := [(0, Instr.aload_n 0, 1, false), (1, Instr.invokevirtual 44, 3, false), (4, Instr.istore_n 2, 1, false), (5, Instr.aload_n 0, 1, false), (6, Instr.iload_n 2, 1, false), (7, Instr.invokevirtual 48, 3, false), (10, Instr.ifCond .eq 13, 3, false), (13, Instr.aload_n 0, 1, false), (14, Instr.getfield 9, 3, false), (17, Instr.iload_n 2, 1, false), (18, Instr.iaload, 1, false), (19, Instr.iload_n 1, 1, false), (20, Instr.if_icmp .eq 5, 3, false), (23, Instr.iconst 0, 1, false), (24, Instr.ireturn, 1, false), (25, Instr.aload_n 0, 1, false), (26, Instr.getfield 21, 3, false), (29, Instr.iload_n 2, 1, false), (30, Instr.aload_n 0, 1, false), (31, Instr.getfield 41, 3, false), (34, Instr.iastore, 1, false), (35, Instr.aload_n 0, 1, false), (36, Instr.dup, 1, false), (37, Instr.getfield 35, 3, false), (40, Instr.iconst 1, 1, false), (41, Instr.isub, 1, false), (42, Instr.putfield 35, 3, false), (45, Instr.iconst 1, 1, false), (46, Instr.ireturn, 1, false)]
/-- PaymentHub$Tree.add(I)Z -/
def zi_114 : zIs := [(0, Instr.aload_n 0, 1, false), (1, Instr.invokevirtual 44, 3, false), (4, Instr.istore_n 2, 1, false), (5, Instr.aload_n 0, 1, false), (6, Instr.iload_n 2, 1, false), (7, Instr.invokevirtual 48, 3, false), (10, Instr.ifCond .eq 13, 3, false), (13, Instr.aload_n 0, 1, false), (14, Instr.getfield 41, 3, false), (17, Instr.sipush 300, 3, false), (20, Instr.if_icmp .lt 5, 3, false), (23, Instr.iconst 0, 1, false), (24, Instr.ireturn, 1, false), (25, Instr.aload_n 0, 1, false), (26, Instr.getfield 38, 3, false), (29, Instr.aload_n 0, 1, false), (30, Instr.getfield 41, 3, false), (33, Instr.iload_n 1, 1, false), (34, Instr.iastore, 1, false), (35, Instr.aload_n 0, 1, false), (36, Instr.dup, 1, false), (37, Instr.getfield 41, 3, false), (40, Instr.iconst 1, 1, false), (41, Instr.iadd, 1, false), (42, Instr.putfield 41, 3, false), (45, Instr.iload_n 1, 1, false), (46, Instr.bipush 32, 2, false), (48, Instr.if_icmp .eq 10, 3, false), (51, Instr.aload_n 0, 1, false), (52, Instr.getfield 24, 3, false), (55, Instr.iload_n 2, 1, false), (56, Instr.iconst 1, 1, false), (57, Instr.bastore, 1, false), (58, Instr.iconst 1, 1, false), (59, Instr.ireturn, 1, false)]
/-- PaymentHub$Tree.isAt(III)Z -/
def zi_115 : zIs := [(0, Instr.aload_n 0, 1, false), (1, Instr.iload_n 1, 1, false), (2, Instr.invokevirtual 48, 3, false), (5, Instr.ifCond .eq 27, 3, false), (8, Instr.aload_n 0, 1, false), (9, Instr.getfield 9, 3, false), (12, Instr.iload_n 1, 1, false), (13, Instr.iaload, 1, false), (14, Instr.iload_n 2, 1, false), (15, Instr.if_icmp .ne 17, 3, false), (18, Instr.aload_n 0, 1, false), (19, Instr.getfield 15, 3, false), (22, Instr.iload_n 1, 1, false), (23, Instr.iaload, 1, false), (24, Instr.iload_n 3, 1, false), (25, Instr.if_icmp .ne 7, 3, false), (28, Instr.iconst 1, 1, false), (29, Instr.goto 4, 3, false), (32, Instr.iconst 0, 1, false), (33, Instr.ireturn, 1, false)]
/-- PaymentHub$Tree.letterAt(I)I -/
def zi_116 : zIs := [(0, Instr.aload_n 0, 1, false), (1, Instr.iload_n 1, 1, false), (2, Instr.invokevirtual 48, 3, false), (5, Instr.ifCond .eq 12, 3, false), (8, Instr.aload_n 0, 1, false), (9, Instr.getfield 9, 3, false), (12, Instr.iload_n 1, 1, false), (13, Instr.iaload, 1, false), (14, Instr.goto 4, 3, false), (17, Instr.iconst (-1), 1, false), (18, Instr.ireturn, 1, false)]
/-- PaymentHub$Tree.hasOnlyBlanks(I)Z -/
def zi_117 : zIs := [(0, Instr.aload_n 0, 1, false), (1, Instr.iload_n 1, 1, false), (2, Instr.invokevirtual 48, 3, false), (5, Instr.ifCond .eq 16, 3, false), (8, Instr.aload_n 0, 1, false), (9, Instr.getfield 24, 3, false), (12, Instr.iload_n 1, 1, false), (13, Instr.baload, 1, false), (14, Instr.ifCond .ne 7, 3, false), (17, Instr.iconst 1, 1, false), (18, Instr.goto 4, 3, false), (21, Instr.iconst 0, 1, false), (22, Instr.ireturn, 1, false)]
/-- PaymentHub$Tree.beginOf(I)I -/
def zi_118 : zIs := [(0, Instr.aload_n 0, 1, false), (1, Instr.iload_n 1, 1, false), (2, Instr.invokevirtual 48, 3, false), (5, Instr.ifCond .eq 12, 3, false), (8, Instr.aload_n 0, 1, false), (9, Instr.getfield 18, 3, false), (12, Instr.iload_n 1, 1, false), (13, Instr.iaload, 1, false), (14, Instr.goto 4, 3, false), (17, Instr.iconst 0, 1, false), (18, Instr.ireturn, 1, false)]
/-- PaymentHub$Tree.endOf(I)I -/
def zi_119 : zIs := [(0, Instr.aload_n 0, 1, false), (1, Instr.iload_n 1, 1, false), (2, Instr.invokevirtual 48, 3, false), (5, Instr.ifCond .eq 12, 3, false), (8, Instr.aload_n 0, 1, false), (9, Instr.getfield 21, 3, false), (12, Instr.iload_n 1, 1, false), (13, Instr.iaload, 1, false), (14, Instr.goto 4, 3, false), (17, Instr.iconst 0, 1, false), (18, Instr.ireturn, 1, false)]
/-- PaymentHub$Tree.characterAt(I)I -/
def zi_120 : zIs := [(0, Instr.iload_n 1, 1, false), (1, Instr.ifCond .lt 27, 3, false), (4, Instr.iload_n 1, 1, false), (5, Instr.aload_n 0, 1, false), (6, Instr.getfield 41, 3, false), (9, Instr.if_icmp .ge 19, 3, false), (12, Instr.iload_n 1, 1, false), (13, Instr.sipush 300, 3, false), (16, Instr.if_icmp .ge 12, 3, false), (19, Instr.aload_n 0, 1, false), (20, Instr.getfield 38, 3, false), (23, Instr.iload_n 1, 1, false), (24, Instr.iaload, 1, false), (25, Instr.goto 4, 3, false), (28, Instr.iconst 0, 1, false), (29, Instr.ireturn, 1, false)]
/-- PaymentHub$Tree.has(I)Z -/
def zi_121 : zIs := [(0, Instr.iload_n 1, 1, false), (1, Instr.ifCond .lt 21, 3, false), (4, Instr.iload_n 1, 1, false), (5, Instr.aload_n 0, 1, false), (6, Instr.getfield 28, 3, false), (9, Instr.if_icmp .ge 13, 3, false), (12, Instr.iload_n 1, 1, false), (13, Instr.bipush 75, 2, false), (15, Instr.if_icmp .ge 7, 3, false), (18, Instr.iconst 1, 1, false), (19, Instr.goto 4, 3, false), (22, Instr.iconst 0, 1, false), (23, Instr.ireturn, 1, false)]
/-- PaymentHub$Tree.innermost()I -/
def zi_122 : zIs := [(0, Instr.aload_n 0, 1, false), (1, Instr.getfield 35, 3, false), (4, Instr.ifCond .le 25, 3, false), (7, Instr.aload_n 0, 1, false), (8, Instr.getfield 35, 3, false), (11, Instr.iconst 4, 1, false), (12, Instr.if_icmp .gt 17, 3, false), (15, Instr.aload_n 0, 1, false), (16, Instr.getfield 32, 3, false), (19, Instr.aload_n 0, 1, false), (20, Instr.getfield 35, 3, false), (23, Instr.iconst 1, 1, false), (24, Instr.isub, 1, false), (25, Instr.iaload, 1, false), (26, Instr.goto 4, 3, false), (29, Instr.iconst (-1), 1, false), (30, Instr.ireturn, 1, false)]
/-- PaymentHub$Value.<init>(LPaymentHub$Tree;)V -/
def zi_123 : zIs := [(0, Instr.aload_n 0, 1, false), (1, Instr.invokespecial 3, 3, false), (4, Instr.aload_n 0, 1, false), (5, Instr.aload_n 1, 1, false), (6, Instr.putfield 9, 3, false), (9, Instr.aload_n 0, 1, false), (10, Instr.iconst 0, 1, false), (11, Instr.putfield 15, 3, false), (14, Instr.aload_n 0, 1, false), (15, Instr.iconst 0, 1, false), (16, Instr.putfield 19, 3, false), (19, Instr.return_, 1, false)]
/-- PaymentHub$Value.read(I)I -/
def zi_124 : zIs := [(0, Instr.aload_n 0, 1, false), (1, Instr.aload_n 0, 1, false), (2, Instr.getfield 9, 3, false), (5, Instr.iload_n 1, 1, false), (6, Instr.invokevirtual 22, 3, false), (9, Instr.aload_n 0, 1, false), (10, Instr.getfield 9, 3, false), (13, Instr.iload_n 1, 1, false), (14, Instr.invokevirtual 28, 3, false), (17, Instr.invokevirtual 31, 3, false), (20, Instr.aload_n 0, 1, false), (21, Instr.getfield 9, 3, false), (24, Instr.iload_n 1, 1, false), (25, Instr.invokevirtual 35, 3, false), (28, Instr.tableswitch 135 65 86 #[130, 135, 120, 120, 104, 135, 135, 135, 104, 135, 135, 135, 135, 109, 104, 135, 135, 135, 130, 135, 135, 125], 104, false), (132, Instr.aload_n 0, 1, false), (133, Instr.invokevirtual 38, 3, false), (136, Instr.ireturn, 1, false), (137, Instr.aload_n 0, 1, false), (138, Instr.iconst 0, 1, false), (139, Instr.aload_n 0, 1, false), (140, Instr.getfield 19, 3, false), (143, Instr.iconst 2, 1, false), (144, Instr.invokevirtual 42, 3, false), (147, Instr.ireturn, 1, false), (148, Instr.aload_n 0, 1, false), (149, Instr.invokevirtual 46, 3, false), (152, Instr.ireturn, 1, false), (153, Instr.aload_n 0, 1, false), (154, Instr.invokevirtual 49, 3, false), (157, Instr.ireturn, 1, false), (158, Instr.aload_n 0, 1, false), (159, Instr.invokevirtual 52, 3, false), (162, Instr.ireturn, 1, false), (163, Instr.iconst (-1), 1, false), (164, Instr.ireturn, 1, false)]
/-- PaymentHub$Value.trim(II)V -/
def zi_125 : zIs := [(0, Instr.iload_n 1, 1, false), (1, Instr.istore_n 3, 1, false), (2, Instr.iload_n 2, 1, false), (3, Instr.istore 4, 2, false), (5, Instr.iload_n 3, 1, true), (6, Instr.iload 4, 2, false), (8, Instr.if_icmp .ge 22, 3, false), (11, Instr.aload_n 0, 1, false), (12, Instr.getfield 9, 3, false), (15, Instr.iload_n 3, 1, false), (16, Instr.invokevirtual 55, 3, false), (19, Instr.bipush 32, 2, false), (21, Instr.if_icmp .ne 9, 3, false), (24, Instr.iinc 3 1, 3, false), (27, Instr.goto (-22), 3, false), (30, Instr.iload_n 3, 1, true), (31, Instr.iload 4, 2, false), (33, Instr.if_icmp .ge 25, 3, false), (36, Instr.aload_n 0, 1, false), (37, Instr.getfield 9, 3, false), (40, Instr.iload 4, 2, false), (42, Instr.iconst 1, 1, false), (43, Instr.isub, 1, false), (44, Instr.invokevirtual 55, 3, false), (47, Instr.bipush 32, 2, false), (49, Instr.if_icmp .ne 9, 3, false), (52, Instr.iinc 4 (-1), 3, false), (55, Instr.goto (-25), 3, false), (58, Instr.aload_n 0, 1, false), (59, Instr.iload_n 3, 1, false), (60, Instr.putfield 15, 3, false), (63, Instr.aload_n 0, 1, false), (64, Instr.iload 4, 2, false), (66, Instr.iload_n 3, 1, false), (67, Instr.isub, 1, false), (68, Instr.putfield 19, 3, false), (71, Instr.return_, 1, false)]
/-- PaymentHub$Value.name()I -/
def zi_126 : zIs := [(0, Instr.aload_n 0, 1, false), (1, Instr.getfield 19, 3, false), (4, Instr.iconst 1, 1, false), (5, Instr.if_icmp .lt 11, 3, false), (8, Instr.aload_n 0, 1, false), (9, Instr.getfield 19, 3, false), (12, Instr.iconst 4, 1, false), (13, Instr.if_icmp .le 5, 3, false), (16, Instr.iconst (-1), 1, false), (17, Instr.ireturn, 1, false), (18, Instr.iconst 0, 1, false), (19, Instr.istore_n 1, 1, false), (20, Instr.iconst 0, 1, false), (21, Instr.istore_n 2, 1, false), (22, Instr.iload_n 2, 1, true), (23, Instr.aload_n 0, 1, false), (24, Instr.getfield 19, 3, false), (27, Instr.if_icmp .ge 51, 3, false), (30, Instr.aload_n 0, 1, false), (31, Instr.getfield 9, 3, false), (34, Instr.aload_n 0, 1, false), (35, Instr.getfield 15, 3, false), (38, Instr.iload_n 2, 1, false), (39, Instr.iadd, 1, false), (40, Instr.invokevirtual 55, 3, false), (43, Instr.istore_n 3, 1, false), (44, Instr.iload_n 3, 1, false), (45, Instr.invokestatic 58, 3, false), (48, Instr.ifCond .ne 17, 3, false), (51, Instr.iload_n 3, 1, false), (52, Instr.bipush 97, 2, false), (54, Instr.if_icmp .lt 9, 3, false), (57, Instr.iload_n 3, 1, false), (58, Instr.bipush 122, 2, false), (60, Instr.if_icmp .le 5, 3, false), (63, Instr.iconst (-1), 1, false), (64, Instr.ireturn, 1, false), (65, Instr.iload_n 1, 1, false), (66, Instr.bipush 8, 2, false), (68, Instr.ishl, 1, false), (69, Instr.iload_n 3, 1, false), (70, Instr.ior, 1, false), (71, Instr.istore_n 1, 1, false), (72, Instr.iinc 2 1, 3, false), (75, Instr.goto (-53), 3, false), (78, Instr.iload_n 1, 1, false), (79, Instr.ireturn, 1, false)]
/-- PaymentHub$Value.accountNumber()I -/
def zi_127 : zIs := [(0, Instr.aload_n 0, 1, false), (1, Instr.getfield 9, 3, false), (4, Instr.aload_n 0, 1, false), (5, Instr.getfield 15, 3, false), (8, Instr.invokevirtual 55, 3, false), (11, Instr.bipush 65, 2, false), (13, Instr.isub, 1, false), (14, Instr.istore_n 1, 1, false), (15, Instr.aload_n 0, 1, false), (16, Instr.iconst 1, 1, false), (17, Instr.aload_n 0, 1, false), (18, Instr.getfield 19, 3, false), (21, Instr.iconst 2, 1, false), (22, Instr.invokevirtual 42, 3, false), (25, Instr.istore_n 2, 1, false), (26, Instr.aload_n 0, 1, false), (27, Instr.getfield 19, 3, false), (30, Instr.iconst 3, 1, false), (31, Instr.if_icmp .ne 17, 3, false), (34, Instr.iload_n 1, 1, false), (35, Instr.ifCond .lt 13, 3, false), (38, Instr.iload_n 1, 1, false), (39, Instr.iconst 4, 1, false), (40, Instr.if_icmp .ge 8, 3, false), (43, Instr.iload_n 2, 1, false), (44, Instr.iconst (-1), 1, false), (45, Instr.if_icmp .ne 5, 3, false), (48, Instr.iconst (-1), 1, false), (49, Instr.ireturn, 1, false), (50, Instr.sipush 1000, 3, false), (53, Instr.bipush 100, 2, false), (55, Instr.iload_n 1, 1, false), (56, Instr.imul, 1, false), (57, Instr.iadd, 1, false), (58, Instr.iload_n 2, 1, false), (59, Instr.iadd, 1, false), (60, Instr.ireturn, 1, false)]
/-- PaymentHub$Value.verdict()I -/
def zi_128 : zIs := [(0, Instr.aload_n 0, 1, false), (1, Instr.getfield 9, 3, false), (4, Instr.aload_n 0, 1, false), (5, Instr.getfield 15, 3, false), (8, Instr.invokevirtual 55, 3, false), (11, Instr.istore_n 1, 1, false), (12, Instr.aload_n 0, 1, false), (13, Instr.getfield 19, 3, false), (16, Instr.iconst 1, 1, false), (17, Instr.if_icmp .ne 19, 3, false), (20, Instr.iload_n 1, 1, false), (21, Instr.bipush 65, 2, false), (23, Instr.if_icmp .eq 9, 3, false), (26, Instr.iload_n 1, 1, false), (27, Instr.bipush 82, 2, false), (29, Instr.if_icmp .ne 7, 3, false), (32, Instr.iload_n 1, 1, false), (33, Instr.goto 4, 3, false), (36, Instr.iconst (-1), 1, false), (37, Instr.ireturn, 1, false)]
/-- PaymentHub$Value.amount()I -/
def zi_129 : zIs := [(0, Instr.iconst 0, 1, false), (1, Instr.istore_n 1, 1, false), (2, Instr.iload_n 1, 1, true), (3, Instr.aload_n 0, 1, false), (4, Instr.getfield 19, 3, false), (7, Instr.if_icmp .ge 27, 3, false), (10, Instr.aload_n 0, 1, false), (11, Instr.getfield 9, 3, false), (14, Instr.aload_n 0, 1, false), (15, Instr.getfield 15, 3, false), (18, Instr.iload_n 1, 1, false), (19, Instr.iadd, 1, false), (20, Instr.invokevirtual 55, 3, false), (23, Instr.bipush 46, 2, false), (25, Instr.if_icmp .eq 9, 3, false), (28, Instr.iinc 1 1, 3, false), (31, Instr.goto (-29), 3, false), (34, Instr.aload_n 0, 1, false), (35, Instr.iconst 0, 1, false), (36, Instr.iload_n 1, 1, false), (37, Instr.bipush 6, 2, false), (39, Instr.invokevirtual 42, 3, false), (42, Instr.istore_n 2, 1, false), (43, Instr.iload_n 1, 1, false), (44, Instr.aload_n 0, 1, false), (45, Instr.getfield 19, 3, false), (48, Instr.if_icmp .ne 7, 3, false), (51, Instr.iconst 0, 1, false), (52, Instr.goto 15, 3, false), (55, Instr.aload_n 0, 1, false), (56, Instr.iload_n 1, 1, false), (57, Instr.iconst 1, 1, false), (58, Instr.iadd, 1, false), (59, Instr.aload_n 0, 1, false), (60, Instr.getfield 19, 3, false), (63, Instr.iconst 2, 1, false), (64, Instr.invokevirtual 42, 3, false), (67, Instr.istore_n 3, 1, false), (68, Instr.iload_n 2, 1, false), (69, Instr.iconst (-1), 1, false), (70, Instr.if_icmp .eq 8, 3, false), (73, Instr.iload_n 3, 1, false), (74, Instr.iconst (-1), 1, false), (75, Instr.if_icmp .ne 5, 3, false), (78, Instr.iconst (-1), 1, false), (79, Instr.ireturn, 1, false), (80, Instr.aload_n 0, 1, false), (81, Instr.getfield 19, 3, false), (84, Instr.iload_n 1, 1, false), (85, Instr.isub, 1, false), (86, Instr.iconst 2, 1, false), (87, Instr.if_icmp .ne 7, 3, false), (90, Instr.iconst 1, 1, false), (91, Instr.goto 4, 3, false), (94, Instr.iconst 0, 1, false), (95, Instr.istore 4, 2, false), (97, Instr.bipush 100, 2, false), (99, Instr.iload_n 2, 1, false), (100, Instr.imul, 1, false), (101, Instr.iload 4, 2, false), (103, Instr.ifCond .eq 10, 3, false), (106, Instr.bipush 10, 2, false), (108, Instr.iload_n 3, 1, false), (109, Instr.imul, 1, false), (110, Instr.goto 4, 3, false), (113, Instr.iload_n 3, 1, false), (114, Instr.iadd, 1, false), (115, Instr.istore 5, 2, false), (117, Instr.iload 5, 2, false), (119, Instr.ifCond .le 8, 3, false), (122, Instr.iload 5, 2, false), (124, Instr.goto 4, 3, false), (127, Instr.iconst (-1), 1, false), (128, Instr.ireturn, 1, false)]
/-- PaymentHub$Value.digits(III)I -/
def zi_130 : zIs := [(0, Instr.iload_n 2, 1, false), (1, Instr.iload_n 1, 1, false), (2, Instr.isub, 1, false), (3, Instr.iconst 1, 1, false), (4, Instr.if_icmp .lt 10, 3, false), (7, Instr.iload_n 2, 1, false), (8, Instr.iload_n 1, 1, false), (9, Instr.isub, 1, false), (10, Instr.iload_n 3, 1, false), (11, Instr.if_icmp .le 5, 3, false), (14, Instr.iconst (-1), 1, false), (15, Instr.ireturn, 1, false), (16, Instr.iconst 0, 1, false), (17, Instr.istore 4, 2, false), (19, Instr.iload_n 1, 1, false), (20, Instr.istore 5, 2, false), (22, Instr.iload 5, 2, true), (24, Instr.iload_n 2, 1, false), (25, Instr.if_icmp .ge 48, 3, false), (28, Instr.aload_n 0, 1, false), (29, Instr.getfield 9, 3, false), (32, Instr.aload_n 0, 1, false), (33, Instr.getfield 15, 3, false), (36, Instr.iload 5, 2, false), (38, Instr.iadd, 1, false), (39, Instr.invokevirtual 55, 3, false), (42, Instr.istore 6, 2, false), (44, Instr.iload 6, 2, false), (46, Instr.invokestatic 58, 3, false), (49, Instr.ifCond .ne 5, 3, false), (52, Instr.iconst (-1), 1, false), (53, Instr.ireturn, 1, false), (54, Instr.bipush 10, 2, false), (56, Instr.iload 4, 2, false), (58, Instr.imul, 1, false), (59, Instr.iload 6, 2, false), (61, Instr.iadd, 1, false), (62, Instr.bipush 48, 2, false), (64, Instr.isub, 1, false), (65, Instr.istore 4, 2, false), (67, Instr.iinc 5 1, 3, false), (70, Instr.goto (-48), 3, false), (73, Instr.iload 4, 2, false), (75, Instr.ireturn, 1, false)]
/-- PaymentHub.<init>(II)V -/
def zi_131 : zIs := [(0, Instr.aload_n 0, 1, false), (1, Instr.invokespecial 3, 3, false), (4, Instr.new 9, 3, false), (7, Instr.dup, 1, false), (8, Instr.invokespecial 11, 3, false), (11, Instr.astore_n 3, 1, false), (12, Instr.aload_n 0, 1, false), (13, Instr.new 12, 3, false), (16, Instr.dup, 1, false), (17, Instr.aload_n 3, 1, false), (18, Instr.invokespecial 14, 3, false), (21, Instr.putfield 17, 3, false), (24, Instr.aload_n 0, 1, false), (25, Instr.new 21, 3, false), (28, Instr.dup, 1, false), (29, Instr.aload_n 3, 1, false), (30, Instr.invokespecial 23, 3, false), (33, Instr.putfield 24, 3, false), (36, Instr.aload_n 0, 1, false), (37, Instr.new 28, 3, false), (40, Instr.dup, 1, false), (41, Instr.invokespecial 30, 3, false), (44, Instr.putfield 31, 3, false), (47, Instr.aload_n 0, 1, false), (48, Instr.new 35, 3, false), (51, Instr.dup, 1, false), (52, Instr.aload_n 0, 1, false), (53, Instr.getfield 31, 3, false), (56, Instr.invokespecial 37, 3, false), (59, Instr.putfield 40, 3, false), (62, Instr.aload_n 0, 1, false), (63, Instr.new 44, 3, false), (66, Instr.dup, 1, false), (67, Instr.iload_n 1, 1, false), (68, Instr.invokestatic 46, 3, false), (71, Instr.iload_n 2, 1, false), (72, Instr.invokestatic 46, 3, false), (75, Instr.invokespecial 50, 3, false), (78, Instr.putfield 53, 3, false), (81, Instr.aload_n 0, 1, false), (82, Instr.iconst 0, 1, false), (83, Instr.putfield 57, 3, false), (86, Instr.return_, 1, false)]
/-- PaymentHub.put(JI)I -/
def zi_132 : zIs := [(0, Instr.aload_n 0, 1, false), (1, Instr.getfield 31, 3, false), (4, Instr.invokevirtual 61, 3, false), (7, Instr.ifCond .eq 6, 3, false), (10, Instr.bipush (-9), 2, false), (12, Instr.ireturn, 1, false), (13, Instr.iload_n 3, 1, false), (14, Instr.iconst 1, 1, false), (15, Instr.if_icmp .lt 28, 3, false), (18, Instr.iload_n 3, 1, false), (19, Instr.bipush 8, 2, false), (21, Instr.if_icmp .gt 22, 3, false), (24, Instr.aload_n 0, 1, false), (25, Instr.getfield 17, 3, false), (28, Instr.iload_n 3, 1, false), (29, Instr.invokevirtual 65, 3, false), (32, Instr.ifCond .eq 11, 3, false), (35, Instr.lload_n 1, 1, false), (36, Instr.iload_n 3, 1, false), (37, Instr.invokestatic 69, 3, false), (40, Instr.ifCond .ne 5, 3, false), (43, Instr.iconst (-1), 1, false), (44, Instr.ireturn, 1, false), (45, Instr.iconst 0, 1, false), (46, Instr.istore 4, 2, false), (48, Instr.iload 4, 2, true), (50, Instr.iload_n 3, 1, false), (51, Instr.if_icmp .ge 22, 3, false), (54, Instr.aload_n 0, 1, false), (55, Instr.getfield 17, 3, false), (58, Instr.lload_n 1, 1, false), (59, Instr.iload 4, 2, false), (61, Instr.invokestatic 73, 3, false), (64, Instr.invokevirtual 77, 3, false), (67, Instr.iinc 4 1, 3, false), (70, Instr.goto (-22), 3, false), (73, Instr.aload_n 0, 1, false), (74, Instr.getfield 17, 3, false), (77, Instr.invokevirtual 81, 3, false), (80, Instr.ireturn, 1, false)]
/-- PaymentHub.submit()I -/
def zi_133 : zIs := [(0, Instr.aload_n 0, 1, false), (1, Instr.getfield 31, 3, false), (4, Instr.invokevirtual 61, 3, false), (7, Instr.ifCond .eq 6, 3, false), (10, Instr.bipush (-9), 2, false), (12, Instr.ireturn, 1, false), (13, Instr.aload_n 0, 1, false), (14, Instr.getfield 17, 3, false), (17, Instr.invokevirtual 85, 3, false), (20, Instr.istore_n 1, 1, false), (21, Instr.aload_n 0, 1, false), (22, Instr.getfield 17, 3, false), (25, Instr.invokevirtual 88, 3, false), (28, Instr.iload_n 1, 1, false), (29, Instr.ifCond .ne 5, 3, false), (32, Instr.iconst 1, 1, false), (33, Instr.ireturn, 1, false), (34, Instr.aload_n 0, 1, false), (35, Instr.getfield 24, 3, false), (38, Instr.invokevirtual 91, 3, false), (41, Instr.ifCond .ne 5, 3, false), (44, Instr.iconst 2, 1, false), (45, Instr.ireturn, 1, false), (46, Instr.aload_n 0, 1, false), (47, Instr.invokevirtual 94, 3, false), (50, Instr.istore_n 2, 1, false), (51, Instr.iload_n 2, 1, false), (52, Instr.ifCond .eq 5, 3, false), (55, Instr.iload_n 2, 1, false), (56, Instr.ireturn, 1, false), (57, Instr.aload_n 0, 1, false), (58, Instr.getfield 40, 3, false), (61, Instr.aload_n 0, 1, false), (62, Instr.getfield 24, 3, false), (65, Instr.invokevirtual 97, 3, false), (68, Instr.aload_n 0, 1, false), (69, Instr.getfield 31, 3, false), (72, Instr.invokevirtual 101, 3, false), (75, Instr.ifCond .ne 6, 3, false), (78, Instr.bipush (-9), 2, false), (80, Instr.ireturn, 1, false), (81, Instr.aload_n 0, 1, false), (82, Instr.getfield 53, 3, false), (85, Instr.aload_n 0, 1, false), (86, Instr.getfield 24, 3, false), (89, Instr.invokevirtual 104, 3, false), (92, Instr.iconst 0, 1, false), (93, Instr.ireturn, 1, false)]
/-- PaymentHub.work()I -/
def zi_134 : zIs := [(0, Instr.aload_n 0, 1, false), (1, Instr.getfield 31, 3, false), (4, Instr.invokevirtual 61, 3, false), (7, Instr.ifCond .eq 6, 3, false), (10, Instr.bipush (-9), 2, false), (12, Instr.ireturn, 1, false), (13, Instr.aload_n 0, 1, false), (14, Instr.getfield 53, 3, false), (17, Instr.getfield 106, 3, false), (20, Instr.invokevirtual 110, 3, false), (23, Instr.istore_n 1, 1, false), (24, Instr.iload_n 1, 1, false), (25, Instr.iconst (-1), 1, false), (26, Instr.if_icmp .eq 16, 3, false), (29, Instr.aload_n 0, 1, false), (30, Instr.getfield 31, 3, false), (33, Instr.invokevirtual 115, 3, false), (36, Instr.sipush 5000, 3, false), (39, Instr.if_icmp .lt 5, 3, false), (42, Instr.iconst (-1), 1, false), (43, Instr.ireturn, 1, false), (44, Instr.aload_n 0, 1, false), (45, Instr.getfield 53, 3, false), (48, Instr.iload_n 1, 1, false), (49, Instr.invokevirtual 116, 3, false), (52, Instr.ifCond .eq 11, 3, false), (55, Instr.aload_n 0, 1, false), (56, Instr.iload_n 1, 1, false), (57, Instr.invokevirtual 119, 3, false), (60, Instr.goto 8, 3, false), (63, Instr.aload_n 0, 1, false), (64, Instr.iload_n 1, 1, false), (65, Instr.invokevirtual 122, 3, false), (68, Instr.ireturn, 1, false)]
/-- PaymentHub.tick(I)I -/
def zi_135 : zIs := [(0, Instr.iload_n 1, 1, false), (1, Instr.ifCond .lt 20, 3, false), (4, Instr.iload_n 1, 1, false), (5, Instr.sipush 1000, 3, false), (8, Instr.if_icmp .gt 13, 3, false), (11, Instr.aload_n 0, 1, false), (12, Instr.dup, 1, false), (13, Instr.getfield 57, 3, false), (16, Instr.iload_n 1, 1, false), (17, Instr.iadd, 1, false), (18, Instr.putfield 57, 3, false), (21, Instr.iconst 0, 1, false), (22, Instr.istore_n 2, 1, false), (23, Instr.iload_n 2, 1, true), (24, Instr.bipush 20, 2, false), (26, Instr.if_icmp .ge 58, 3, false), (29, Instr.aload_n 0, 1, false), (30, Instr.getfield 31, 3, false), (33, Instr.invokevirtual 61, 3, false), (36, Instr.ifCond .ne 48, 3, false), (39, Instr.aload_n 0, 1, false), (40, Instr.getfield 53, 3, false), (43, Instr.getfield 106, 3, false), (46, Instr.iload_n 2, 1, false), (47, Instr.aload_n 0, 1, false), (48, Instr.getfield 57, 3, false), (51, Instr.invokevirtual 125, 3, false), (54, Instr.ifCond .eq 24, 3, false), (57, Instr.aload_n 0, 1, false), (58, Instr.getfield 31, 3, false), (61, Instr.bipush 88, 2, false), (63, Instr.iload_n 2, 1, false), (64, Instr.invokevirtual 129, 3, false), (67, Instr.ifCond .eq 11, 3, false), (70, Instr.aload_n 0, 1, false), (71, Instr.getfield 53, 3, false), (74, Instr.iload_n 2, 1, false), (75, Instr.invokevirtual 132, 3, false), (78, Instr.iinc 2 1, 3, false), (81, Instr.goto (-58), 3, false), (84, Instr.aload_n 0, 1, false), (85, Instr.getfield 57, 3, false), (88, Instr.ireturn, 1, false)]
/-- PaymentHub.send()I -/
def zi_136 : zIs := [(0, Instr.aload_n 0, 1, false), (1, Instr.getfield 31, 3, false), (4, Instr.invokevirtual 61, 3, false), (7, Instr.ifCond .eq 6, 3, false), (10, Instr.bipush (-9), 2, false), (12, Instr.ireturn, 1, false), (13, Instr.aload_n 0, 1, false), (14, Instr.getfield 53, 3, false), (17, Instr.getfield 135, 3, false), (20, Instr.invokevirtual 139, 3, false), (23, Instr.istore_n 1, 1, false), (24, Instr.iload_n 1, 1, false), (25, Instr.iconst (-1), 1, false), (26, Instr.if_icmp .ne 5, 3, false), (29, Instr.iconst (-1), 1, false), (30, Instr.ireturn, 1, false), (31, Instr.aload_n 0, 1, false), (32, Instr.getfield 53, 3, false), (35, Instr.getfield 135, 3, false), (38, Instr.iload_n 1, 1, false), (39, Instr.invokevirtual 144, 3, false), (42, Instr.aload_n 0, 1, false), (43, Instr.getfield 31, 3, false), (46, Instr.bipush 83, 2, false), (48, Instr.iload_n 1, 1, false), (49, Instr.invokevirtual 129, 3, false), (52, Instr.ifCond .ne 6, 3, false), (55, Instr.bipush (-9), 2, false), (57, Instr.ireturn, 1, false), (58, Instr.aload_n 0, 1, false), (59, Instr.getfield 53, 3, false), (62, Instr.getfield 135, 3, false), (65, Instr.iload_n 1, 1, false), (66, Instr.invokevirtual 147, 3, false), (69, Instr.iload_n 1, 1, false), (70, Instr.ireturn, 1, false)]
/-- PaymentHub.fail(II)Z -/
def zi_137 : zIs := [(0, Instr.aload_n 0, 1, false), (1, Instr.getfield 31, 3, false), (4, Instr.invokevirtual 61, 3, false), (7, Instr.ifCond .ne 24, 3, false), (10, Instr.iload_n 1, 1, false), (11, Instr.ifCond .lt 20, 3, false), (14, Instr.iload_n 1, 1, false), (15, Instr.bipush 50, 2, false), (17, Instr.if_icmp .gt 14, 3, false), (20, Instr.iload_n 2, 1, false), (21, Instr.ifCond .lt 10, 3, false), (24, Instr.iload_n 2, 1, false), (25, Instr.sipush 300, 3, false), (28, Instr.if_icmp .le 5, 3, false), (31, Instr.iconst 0, 1, false), (32, Instr.ireturn, 1, false), (33, Instr.aload_n 0, 1, false), (34, Instr.getfield 31, 3, false), (37, Instr.iload_n 1, 1, false), (38, Instr.iload_n 2, 1, false), (39, Instr.invokevirtual 150, 3, false), (42, Instr.iconst 1, 1, false), (43, Instr.ireturn, 1, false)]
/-- PaymentHub.recover()Z -/
def zi_138 : zIs := [(0, Instr.aload_n 0, 1, false), (1, Instr.getfield 31, 3, false), (4, Instr.invokevirtual 61, 3, false), (7, Instr.ifCond .ne 5, 3, false), (10, Instr.iconst 0, 1, false), (11, Instr.ireturn, 1, false), (12, Instr.aload_n 0, 1, false), (13, Instr.getfield 31, 3, false), (16, Instr.invokevirtual 153, 3, false), (19, Instr.aload_n 0, 1, false), (20, Instr.getfield 17, 3, false), (23, Instr.invokevirtual 88, 3, false), (26, Instr.iconst 1, 1, false), (27, Instr.ireturn, 1, false)]
/-- PaymentHub.journal()I -/
def zi_139 : zIs := [(0, Instr.aload_n 0, 1, false), (1, Instr.getfield 31, 3, false), (4, Instr.invokevirtual 115, 3, false), (7, Instr.ireturn, 1, false)]
/-- PaymentHub.octet(I)I -/
def zi_140 : zIs := [(0, Instr.aload_n 0, 1, false), (1, Instr.getfield 31, 3, false), (4, Instr.iload_n 1, 1, false), (5, Instr.invokevirtual 156, 3, false), (8, Instr.ireturn, 1, false)]
/-- PaymentHub.transaction(II)I -/
def zi_141 : zIs := [(0, Instr.aload_n 0, 1, false), (1, Instr.getfield 31, 3, false), (4, Instr.invokevirtual 61, 3, false), (7, Instr.ifCond .ne 17, 3, false), (10, Instr.aload_n 0, 1, false), (11, Instr.getfield 53, 3, false), (14, Instr.getfield 106, 3, false), (17, Instr.iload_n 1, 1, false), (18, Instr.invokevirtual 159, 3, false), (21, Instr.ifCond .ne 5, 3, false), (24, Instr.iconst (-1), 1, false), (25, Instr.ireturn, 1, false), (26, Instr.iload_n 2, 1, false), (27, Instr.tableswitch 93 0 4 #[33, 45, 57, 69, 81], 33, false), (60, Instr.aload_n 0, 1, false), (61, Instr.getfield 53, 3, false), (64, Instr.getfield 106, 3, false), (67, Instr.iload_n 1, 1, false), (68, Instr.invokevirtual 162, 3, false), (71, Instr.ireturn, 1, false), (72, Instr.aload_n 0, 1, false), (73, Instr.getfield 53, 3, false), (76, Instr.getfield 106, 3, false), (79, Instr.iload_n 1, 1, false), (80, Instr.invokevirtual 165, 3, false), (83, Instr.ireturn, 1, false), (84, Instr.aload_n 0, 1, false), (85, Instr.getfield 53, 3, false), (88, Instr.getfield 106, 3, false), (91, Instr.iload_n 1, 1, false), (92, Instr.invokevirtual 168, 3, false), (95, Instr.ireturn, 1, false), (96, Instr.aload_n 0, 1, false), (97, Instr.getfield 53, 3, false), (100, Instr.getfield 106, 3, false), (103, Instr.iload_n 1, 1, false), (104, Instr.invokevirtual 171, 3, false), (107, Instr.ireturn, 1, false), (108, Instr.aload_n 0, 1, false), (109, Instr.getfield 53, 3, false), (112, Instr.getfield 106, 3, false), (115, Instr.iload_n 1, 1, false), (116, Instr.invokevirtual 174, 3, false), (119, Instr.ireturn, 1, false), (120, Instr.iconst (-1), 1, false), (121, Instr.ireturn, 1, false)]
/-- PaymentHub.queue(I)I -/
def zi_142 : zIs := [(0, Instr.aload_n 0, 1, false), (1, Instr.getfield 31, 3, false), (4, Instr.invokevirtual 61, 3, false), (7, Instr.ifCond .eq 7, 3, false), (10, Instr.iconst (-1), 1, false), (11, Instr.goto 14, 3, false), (14, Instr.aload_n 0, 1, false), (15, Instr.getfield 53, 3, false), (18, Instr.getfield 106, 3, false), (21, Instr.iload_n 1, 1, false), (22, Instr.invokevirtual 177, 3, false), (25, Instr.ireturn, 1, false)]
/-- PaymentHub.account(II)I -/
def zi_143 : zIs := [(0, Instr.aload_n 0, 1, false), (1, Instr.getfield 31, 3, false), (4, Instr.invokevirtual 61, 3, false), (7, Instr.ifCond .eq 5, 3, false), (10, Instr.iconst 0, 1, false), (11, Instr.ireturn, 1, false), (12, Instr.iload_n 2, 1, false), (13, Instr.tableswitch 63 0 2 #[27, 39, 51], 27, false), (40, Instr.aload_n 0, 1, false), (41, Instr.getfield 53, 3, false), (44, Instr.getfield 180, 3, false), (47, Instr.iload_n 1, 1, false), (48, Instr.invokevirtual 184, 3, false), (51, Instr.ireturn, 1, false), (52, Instr.aload_n 0, 1, false), (53, Instr.getfield 53, 3, false), (56, Instr.getfield 180, 3, false), (59, Instr.iload_n 1, 1, false), (60, Instr.invokevirtual 189, 3, false), (63, Instr.ireturn, 1, false), (64, Instr.aload_n 0, 1, false), (65, Instr.getfield 53, 3, false), (68, Instr.getfield 180, 3, false), (71, Instr.iload_n 1, 1, false), (72, Instr.invokevirtual 192, 3, false), (75, Instr.ireturn, 1, false), (76, Instr.iconst 0, 1, false), (77, Instr.ireturn, 1, false)]
/-- PaymentHub.entry(II)I -/
def zi_144 : zIs := [(0, Instr.aload_n 0, 1, false), (1, Instr.getfield 31, 3, false), (4, Instr.invokevirtual 61, 3, false), (7, Instr.ifCond .eq 7, 3, false), (10, Instr.iconst 0, 1, false), (11, Instr.goto 15, 3, false), (14, Instr.aload_n 0, 1, false), (15, Instr.getfield 53, 3, false), (18, Instr.getfield 180, 3, false), (21, Instr.iload_n 1, 1, false), (22, Instr.iload_n 2, 1, false), (23, Instr.invokevirtual 195, 3, false), (26, Instr.ireturn, 1, false)]
/-- PaymentHub.report(II)I -/
def zi_145 : zIs := [(0, Instr.aload_n 0, 1, false), (1, Instr.getfield 31, 3, false), (4, Instr.invokevirtual 61, 3, false), (7, Instr.ifCond .ne 17, 3, false), (10, Instr.aload_n 0, 1, false), (11, Instr.getfield 53, 3, false), (14, Instr.getfield 135, 3, false), (17, Instr.iload_n 1, 1, false), (18, Instr.invokevirtual 199, 3, false), (21, Instr.ifCond .ne 5, 3, false), (24, Instr.iconst (-1), 1, false), (25, Instr.ireturn, 1, false), (26, Instr.iload_n 2, 1, false), (27, Instr.tableswitch 69 0 2 #[25, 37, 49], 25, false), (52, Instr.aload_n 0, 1, false), (53, Instr.getfield 53, 3, false), (56, Instr.getfield 135, 3, false), (59, Instr.iload_n 1, 1, false), (60, Instr.invokevirtual 200, 3, false), (63, Instr.ireturn, 1, false), (64, Instr.aload_n 0, 1, false), (65, Instr.getfield 53, 3, false), (68, Instr.getfield 135, 3, false), (71, Instr.iload_n 1, 1, false), (72, Instr.invokevirtual 203, 3, false), (75, Instr.ireturn, 1, false), (76, Instr.aload_n 0, 1, false), (77, Instr.getfield 53, 3, false), (80, Instr.getfield 135, 3, false), (83, Instr.iload_n 1, 1, false), (84, Instr.invokevirtual 204, 3, false), (87, Instr.ifCond .eq 7, 3, false), (90, Instr.iconst 1, 1, false), (91, Instr.goto 4, 3, false), (94, Instr.iconst 0, 1, false), (95, Instr.ireturn, 1, false), (96, Instr.iconst (-1), 1, false), (97, Instr.ireturn, 1, false)]
/-- PaymentHub.copies(I)I -/
def zi_146 : zIs := [(0, Instr.aload_n 0, 1, false), (1, Instr.getfield 53, 3, false), (4, Instr.getfield 135, 3, false), (7, Instr.iload_n 1, 1, false), (8, Instr.invokevirtual 207, 3, false), (11, Instr.ireturn, 1, false)]
/-- PaymentHub.hold(I)I -/
def zi_147 : zIs := [(0, Instr.aload_n 0, 1, false), (1, Instr.getfield 57, 3, false), (4, Instr.bipush 30, 2, false), (6, Instr.iadd, 1, false), (7, Instr.ldc 210, 2, false), (9, Instr.iand, 1, false), (10, Instr.istore_n 2, 1, false), (11, Instr.aload_n 0, 1, false), (12, Instr.getfield 31, 3, false), (15, Instr.bipush 72, 2, false), (17, Instr.invokevirtual 211, 3, false), (20, Instr.aload_n 0, 1, false), (21, Instr.getfield 31, 3, false), (24, Instr.iload_n 1, 1, false), (25, Instr.invokevirtual 214, 3, false), (28, Instr.aload_n 0, 1, false), (29, Instr.getfield 31, 3, false), (32, Instr.iload_n 2, 1, false), (33, Instr.bipush 16, 2, false), (35, Instr.ishr, 1, false), (36, Instr.invokevirtual 214, 3, false), (39, Instr.aload_n 0, 1, false), (40, Instr.getfield 31, 3, false), (43, Instr.iload_n 2, 1, false), (44, Instr.bipush 8, 2, false), (46, Instr.ishr, 1, false), (47, Instr.sipush 255, 3, false), (50, Instr.iand, 1, false), (51, Instr.invokevirtual 214, 3, false), (54, Instr.aload_n 0, 1, false), (55, Instr.getfield 31, 3, false), (58, Instr.iload_n 2, 1, false), (59, Instr.sipush 255, 3, false), (62, Instr.iand, 1, false), (63, Instr.invokevirtual 214, 3, false), (66, Instr.aload_n 0, 1, false), (67, Instr.getfield 31, 3, false), (70, Instr.invokevirtual 101, 3, false), (73, Instr.ifCond .ne 6, 3, false), (76, Instr.bipush (-9), 2, false), (78, Instr.ireturn, 1, false), (79, Instr.aload_n 0, 1, false), (80, Instr.getfield 53, 3, false), (83, Instr.iload_n 1, 1, false), (84, Instr.iload_n 2, 1, false), (85, Instr.invokevirtual 215, 3, false), (88, Instr.iload_n 1, 1, false), (89, Instr.ireturn, 1, false)]
/-- PaymentHub.letWait(I)I -/
def zi_148 : zIs := [(0, Instr.aload_n 0, 1, false), (1, Instr.getfield 31, 3, false), (4, Instr.bipush 87, 2, false), (6, Instr.iload_n 1, 1, false), (7, Instr.invokevirtual 129, 3, false), (10, Instr.ifCond .ne 6, 3, false), (13, Instr.bipush (-9), 2, false), (15, Instr.ireturn, 1, false), (16, Instr.aload_n 0, 1, false), (17, Instr.getfield 53, 3, false), (20, Instr.iload_n 1, 1, false), (21, Instr.invokevirtual 217, 3, false), (24, Instr.bipush 100, 2, false), (26, Instr.iload_n 1, 1, false), (27, Instr.iadd, 1, false), (28, Instr.ireturn, 1, false)]
/-- PaymentHub.ruleBroken()I -/
def zi_149 : zIs := [(0, Instr.aload_n 0, 1, false), (1, Instr.getfield 53, 3, false), (4, Instr.aload_n 0, 1, false), (5, Instr.getfield 24, 3, false), (8, Instr.invokevirtual 219, 3, false), (11, Instr.invokevirtual 222, 3, false), (14, Instr.ifCond .eq 5, 3, false), (17, Instr.iconst 3, 1, false), (18, Instr.ireturn, 1, false), (19, Instr.aload_n 0, 1, false), (20, Instr.getfield 24, 3, false), (23, Instr.invokevirtual 225, 3, false), (26, Instr.lookupswitch 37 #[(80, 26), (81, 31)], 26, false), (52, Instr.aload_n 0, 1, false), (53, Instr.invokevirtual 228, 3, false), (56, Instr.ireturn, 1, false), (57, Instr.aload_n 0, 1, false), (58, Instr.iconst 3, 1, false), (59, Instr.invokevirtual 231, 3, false), (62, Instr.ireturn, 1, false), (63, Instr.aload_n 0, 1, false), (64, Instr.invokevirtual 234, 3, false), (67, Instr.ireturn, 1, false)]
/-- PaymentHub.ruleBrokenByPayment()I -/
def zi_150 : zIs := [(0, Instr.aload_n 0, 1, false), (1, Instr.getfield 24, 3, false), (4, Instr.invokevirtual 237, 3, false), (7, Instr.aload_n 0, 1, false), (8, Instr.getfield 24, 3, false), (11, Instr.invokevirtual 240, 3, false), (14, Instr.if_icmp .eq 5, 3, false), (17, Instr.iconst 4, 1, false), (18, Instr.ireturn, 1, false), (19, Instr.aload_n 0, 1, false), (20, Instr.getfield 24, 3, false), (23, Instr.invokevirtual 243, 3, false), (26, Instr.aload_n 0, 1, false), (27, Instr.getfield 24, 3, false), (30, Instr.invokevirtual 246, 3, false), (33, Instr.if_icmp .eq 5, 3, false), (36, Instr.iconst 5, 1, false), (37, Instr.ireturn, 1, false), (38, Instr.aload_n 0, 1, false), (39, Instr.getfield 24, 3, false), (42, Instr.invokevirtual 249, 3, false), (45, Instr.ifCond .ne 6, 3, false), (48, Instr.bipush 6, 2, false), (50, Instr.ireturn, 1, false), (51, Instr.aload_n 0, 1, false), (52, Instr.getfield 24, 3, false), (55, Instr.invokevirtual 252, 3, false), (58, Instr.ifCond .ne 6, 3, false), (61, Instr.bipush 7, 2, false), (63, Instr.ireturn, 1, false), (64, Instr.aload_n 0, 1, false), (65, Instr.getfield 24, 3, false), (68, Instr.invokevirtual 255, 3, false), (71, Instr.ifCond .eq 17, 3, false), (74, Instr.aload_n 0, 1, false), (75, Instr.getfield 53, 3, false), (78, Instr.aload_n 0, 1, false), (79, Instr.getfield 24, 3, false), (82, Instr.invokevirtual 258, 3, false), (85, Instr.ifCond .eq 6, 3, false), (88, Instr.bipush 8, 2, false), (90, Instr.ireturn, 1, false), (91, Instr.aload_n 0, 1, false), (92, Instr.getfield 53, 3, false), (95, Instr.getfield 106, 3, false), (98, Instr.aload_n 0, 1, false), (99, Instr.getfield 24, 3, false), (102, Instr.invokevirtual 240, 3, false), (105, Instr.invokevirtual 262, 3, false), (108, Instr.istore_n 1, 1, false), (109, Instr.iload_n 1, 1, false), (110, Instr.ifCond .eq 20, 3, false), (113, Instr.aload_n 0, 1, false), (114, Instr.getfield 31, 3, false), (117, Instr.invokevirtual 115, 3, false), (120, Instr.sipush 4000, 3, false), (123, Instr.if_icmp .ge 7, 3, false), (126, Instr.iconst 0, 1, false), (127, Instr.goto 5, 3, false), (130, Instr.bipush 9, 2, false), (132, Instr.ireturn, 1, false)]
/-- PaymentHub.ruleBrokenByFollower(I)I -/
def zi_151 : zIs := [(0, Instr.aload_n 0, 1, false), (1, Instr.getfield 31, 3, false), (4, Instr.invokevirtual 115, 3, false), (7, Instr.sipush 4000, 3, false), (10, Instr.if_icmp .lt 6, 3, false), (13, Instr.bipush 9, 2, false), (15, Instr.ireturn, 1, false), (16, Instr.aload_n 0, 1, false), (17, Instr.getfield 53, 3, false), (20, Instr.getfield 106, 3, false), (23, Instr.aload_n 0, 1, false), (24, Instr.getfield 24, 3, false), (27, Instr.invokevirtual 263, 3, false), (30, Instr.invokevirtual 266, 3, false), (33, Instr.istore_n 2, 1, false), (34, Instr.iload_n 2, 1, false), (35, Instr.iconst (-1), 1, false), (36, Instr.if_icmp .ne 6, 3, false), (39, Instr.bipush 10, 2, false), (41, Instr.ireturn, 1, false), (42, Instr.aload_n 0, 1, false), (43, Instr.getfield 53, 3, false), (46, Instr.getfield 106, 3, false), (49, Instr.iload_n 2, 1, false), (50, Instr.invokevirtual 162, 3, false), (53, Instr.iload_n 1, 1, false), (54, Instr.if_icmp .ne 7, 3, false), (57, Instr.iconst 0, 1, false), (58, Instr.goto 5, 3, false), (61, Instr.bipush 11, 2, false), (63, Instr.ireturn, 1, false)]
/-- PaymentHub.ruleBrokenByReturn()I -/
def zi_152 : zIs := [(0, Instr.aload_n 0, 1, false), (1, Instr.iconst 4, 1, false), (2, Instr.invokevirtual 231, 3, false), (5, Instr.istore_n 1, 1, false), (6, Instr.iload_n 1, 1, false), (7, Instr.ifCond .eq 5, 3, false), (10, Instr.iload_n 1, 1, false), (11, Instr.ireturn, 1, false), (12, Instr.aload_n 0, 1, false), (13, Instr.getfield 53, 3, false), (16, Instr.getfield 106, 3, false), (19, Instr.aload_n 0, 1, false), (20, Instr.getfield 24, 3, false), (23, Instr.invokevirtual 263, 3, false), (26, Instr.invokevirtual 266, 3, false), (29, Instr.istore_n 2, 1, false), (30, Instr.aload_n 0, 1, false), (31, Instr.getfield 24, 3, false), (34, Instr.invokevirtual 269, 3, false), (37, Instr.aload_n 0, 1, false), (38, Instr.getfield 53, 3, false), (41, Instr.getfield 106, 3, false), (44, Instr.iload_n 2, 1, false), (45, Instr.invokevirtual 165, 3, false), (48, Instr.if_icmp .le 6, 3, false), (51, Instr.bipush 12, 2, false), (53, Instr.ireturn, 1, false), (54, Instr.aload_n 0, 1, false), (55, Instr.getfield 53, 3, false), (58, Instr.getfield 180, 3, false), (61, Instr.aload_n 0, 1, false), (62, Instr.getfield 53, 3, false), (65, Instr.getfield 106, 3, false), (68, Instr.iload_n 2, 1, false), (69, Instr.invokevirtual 171, 3, false), (72, Instr.invokevirtual 272, 3, false), (75, Instr.aload_n 0, 1, false), (76, Instr.getfield 24, 3, false), (79, Instr.invokevirtual 269, 3, false), (82, Instr.if_icmp .ge 8, 3, false), (85, Instr.bipush 13, 2, false), (87, Instr.goto 4, 3, false), (90, Instr.iconst 0, 1, false), (91, Instr.ireturn, 1, false)]
/-- PaymentHub.nearestMoney(I)I -/
def zi_153 : zIs := [(0, Instr.iconst 0, 1, false), (1, Instr.iload_n 0, 1, false), (2, Instr.ldc_w 275, 3, false), (5, Instr.invokestatic 276, 3, false), (8, Instr.invokestatic 281, 3, false), (11, Instr.ireturn, 1, false)]
/-- PaymentHub.byteOf(JI)I -/
def zi_154 : zIs := [(0, Instr.lload_n 0, 1, false), (1, Instr.bipush 8, 2, false), (3, Instr.iload_n 2, 1, false), (4, Instr.imul, 1, false), (5, Instr.lushr, 1, false), (6, Instr.l2i, 1, false), (7, Instr.sipush 255, 3, false), (10, Instr.iand, 1, false), (11, Instr.ireturn, 1, false)]
/-- PaymentHub.areReadable(JI)Z -/
def zi_155 : zIs := [(0, Instr.iconst 0, 1, false), (1, Instr.istore_n 3, 1, false), (2, Instr.iload_n 3, 1, true), (3, Instr.iload_n 2, 1, false), (4, Instr.if_icmp .ge 32, 3, false), (7, Instr.lload_n 0, 1, false), (8, Instr.iload_n 3, 1, false), (9, Instr.invokestatic 73, 3, false), (12, Instr.istore 4, 2, false), (14, Instr.iload 4, 2, false), (16, Instr.bipush 32, 2, false), (18, Instr.if_icmp .lt 10, 3, false), (21, Instr.iload 4, 2, false), (23, Instr.bipush 126, 2, false), (25, Instr.if_icmp .le 5, 3, false), (28, Instr.iconst 0, 1, false), (29, Instr.ireturn, 1, false), (30, Instr.iinc 3 1, 3, false), (33, Instr.goto (-31), 3, false), (36, Instr.iconst 1, 1, false), (37, Instr.ireturn, 1, false)]
/-- PaymentHub.isDigit(I)Z -/
def zi_156 : zIs := [(0, Instr.iload_n 0, 1, false), (1, Instr.bipush 48, 2, false), (3, Instr.if_icmp .lt 13, 3, false), (6, Instr.iload_n 0, 1, false), (7, Instr.bipush 57, 2, false), (9, Instr.if_icmp .gt 7, 3, false), (12, Instr.iconst 1, 1, false), (13, Instr.goto 4, 3, false), (16, Instr.iconst 0, 1, false), (17, Instr.ireturn, 1, false)]
/-- PaymentHub.isLetter(I)Z -/
def zi_157 : zIs := [(0, Instr.iload_n 0, 1, false), (1, Instr.bipush 65, 2, false), (3, Instr.if_icmp .lt 9, 3, false), (6, Instr.iload_n 0, 1, false), (7, Instr.bipush 90, 2, false), (9, Instr.if_icmp .le 15, 3, false), (12, Instr.iload_n 0, 1, false), (13, Instr.bipush 97, 2, false), (15, Instr.if_icmp .lt 13, 3, false), (18, Instr.iload_n 0, 1, false), (19, Instr.bipush 122, 2, false), (21, Instr.if_icmp .gt 7, 3, false), (24, Instr.iconst 1, 1, false), (25, Instr.goto 4, 3, false), (28, Instr.iconst 0, 1, false), (29, Instr.ireturn, 1, false)]
/-- PaymentHub.rowOf(I)Ljava/lang/String; -/
def zi_158 : zIs := [(0, Instr.iload_n 0, 1, false), (1, Instr.tableswitch 39 80 82 #[27, 31, 35], 27, false), (28, Instr.ldc_w 284, 3, false), (31, Instr.areturn, 1, false), (32, Instr.ldc_w 286, 3, false), (35, Instr.areturn, 1, false), (36, Instr.ldc_w 288, 3, false), (39, Instr.areturn, 1, false), (40, Instr.ldc_w 290, 3, false), (43, Instr.areturn, 1, false)]
/-- PaymentHub.letterPlaceOf(I)I -/
def zi_159 : zIs := [(0, Instr.iload_n 0, 1, false), (1, Instr.sipush 1000, 3, false), (4, Instr.isub, 1, false), (5, Instr.bipush 100, 2, false), (7, Instr.idiv, 1, false), (8, Instr.ireturn, 1, false)]
/-- PaymentHubModel.<init>(II)V -/
def zi_160 : zIs := [(0, Instr.aload_n 0, 1, false), (1, Instr.invokespecial 1, 3, false), (4, Instr.aload_n 0, 1, false), (5, Instr.iconst (-1), 1, false), (6, Instr.putfield 7, 3, false), (9, Instr.aload_n 0, 1, false), (10, Instr.sipush 300, 3, false), (13, Instr.newarray .char, 2, false), (15, Instr.putfield 13, 3, false), (18, Instr.aload_n 0, 1, false), (19, Instr.bipush 100, 2, false), (21, Instr.newarray .char, 2, false), (23, Instr.putfield 17, 3, false), (26, Instr.aload_n 0, 1, false), (27, Instr.bipush 100, 2, false), (29, Instr.newarray .int, 2, false), (31, Instr.putfield 20, 3, false), (34, Instr.aload_n 0, 1, false), (35, Instr.bipush 100, 2, false), (37, Instr.newarray .int, 2, false), (39, Instr.putfield 24, 3, false), (42, Instr.aload_n 0, 1, false), (43, Instr.bipush 100, 2, false), (45, Instr.newarray .boolean, 2, false), (47, Instr.putfield 27, 3, false), (50, Instr.aload_n 0, 1, false), (51, Instr.bipush 100, 2, false), (53, Instr.newarray .int, 2, false), (55, Instr.putfield 31, 3, false), (58, Instr.aload_n 0, 1, false), (59, Instr.bipush 100, 2, false), (61, Instr.newarray .int, 2, false), (63, Instr.putfield 34, 3, false), (66, Instr.aload_n 0, 1, false), (67, Instr.sipush 300, 3, false), (70, Instr.newarray .char, 2, false), (72, Instr.putfield 37, 3, false), (75, Instr.aload_n 0, 1, false), (76, Instr.iconst 4, 1, false), (77, Instr.newarray .int, 2, false), (79, Instr.putfield 40, 3, false), (82, Instr.aload_n 0, 1, false), (83, Instr.iconst 3, 1, false), (84, Instr.newarray .int, 2, false), (86, Instr.putfield 43, 3, false), (89, Instr.aload_n 0, 1, false), (90, Instr.iconst 3, 1, false), (91, Instr.newarray .int, 2, false), (93, Instr.putfield 46, 3, false), (96, Instr.aload_n 0, 1, false), (97, Instr.iconst 3, 1, false), (98, Instr.newarray .int, 2, false), (100, Instr.putfield 49, 3, false), (103, Instr.aload_n 0, 1, false), (104, Instr.bipush 6, 2, false), (106, Instr.newarray .int, 2, false), (108, Instr.putfield 52, 3, false), (111, Instr.aload_n 0, 1, false), (112, Instr.iconst 3, 1, false), (113, Instr.newarray .int, 2, false), (115, Instr.putfield 55, 3, false), (118, Instr.aload_n 0, 1, false), (119, Instr.sipush 400, 3, false), (122, Instr.newarray .int, 2, false), (124, Instr.putfield 58, 3, false), (127, Instr.aload_n 0, 1, false), (128, Instr.sipush 7000, 3, false), (131, Instr.newarray .int, 2, false), (133, Instr.putfield 61, 3, false), (136, Instr.aload_n 0, 1, false), (137, Instr.sipush 300, 3, false), (140, Instr.newarray .int, 2, false), (142, Instr.putfield 64, 3, false), (145, Instr.aload_n 0, 1, false), (146, Instr.bipush 24, 2, false), (148, Instr.newarray .int, 2, false), (150, Instr.putfield 67, 3, false), (153, Instr.aload_n 0, 1, false), (154, Instr.bipush 24, 2, false), (156, Instr.newarray .int, 2, false), (158, Instr.putfield 70, 3, false), (161, Instr.aload_n 0, 1, false), (162, Instr.bipush 24, 2, false), (164, Instr.newarray .int, 2, false), (166, Instr.putfield 73, 3, false), (169, Instr.aload_n 0, 1, false), (170, Instr.bipush 24, 2, false), (172, Instr.newarray .int, 2, false), (174, Instr.putfield 76, 3, false), (177, Instr.aload_n 0, 1, false), (178, Instr.bipush 24, 2, false), (180, Instr.newarray .int, 2, false), (182, Instr.putfield 79, 3, false), (185, Instr.aload_n 0, 1, false), (186, Instr.bipush 24, 2, false), (188, Instr.newarray .int, 2, false), (190, Instr.putfield 82, 3, false), (193, Instr.aload_n 0, 1, false), (194, Instr.bipush 24, 2, false), (196, Instr.newarray .int, 2, false), (198, Instr.putfield 85, 3, false), (201, Instr.aload_n 0, 1, false), (202, Instr.iconst 4, 1, false), (203, Instr.newarray .int, 2, false), (205, Instr.putfield 88, 3, false), (208, Instr.aload_n 0, 1, false), (209, Instr.iconst 4, 1, false), (210, Instr.newarray .int, 2, false), (212, Instr.putfield 91, 3, false), (215, Instr.aload_n 0, 1, false), (216, Instr.sipush 256, 3, false), (219, Instr.newarray .int, 2, false), (221, Instr.putfield 94, 3, false), (224, Instr.aload_n 0, 1, false), (225, Instr.iconst 4, 1, false), (226, Instr.newarray .int, 2, false), (228, Instr.putfield 97, 3, false), (231, Instr.aload_n 0, 1, false), (232, Instr.bipush 64, 2, false), (234, Instr.newarray .int, 2, false), (236, Instr.putfield 100, 3, false), (239, Instr.aload_n 0, 1, false), (240, Instr.bipush 64, 2, false), (242, Instr.newarray .int, 2, false), (244, Instr.putfield 103, 3, false), (247, Instr.aload_n 0, 1, false), (248, Instr.bipush 64, 2, false), (250, Instr.newarray .boolean, 2, false), (252, Instr.putfield 106, 3, false), (255, Instr.aload_n 0, 1, false), (256, Instr.bipush 64, 2, false), (258, Instr.newarray .int, 2, false), (260, Instr.putfield 109, 3, false), (263, Instr.aload_n 0, 1, false), (264, Instr.iload_n 1, 1, false), (265, Instr.ifCond .ge 7, 3, false), (268, Instr.iconst 0, 1, false), (269, Instr.goto 15, 3, false), (272, Instr.iload_n 1, 1, false), (273, Instr.ldc 112, 2, false), (275, Instr.if_icmp .le 8, 3, false), (278, Instr.ldc 112, 2, false), (280, Instr.goto 4, 3, false), (283, Instr.iload_n 1, 1, false), (284, Instr.putfield 113, 3, false), (287, Instr.aload_n 0, 1, false), (288, Instr.iload_n 2, 1, false), (289, Instr.ifCond .ge 7, 3, false), (292, Instr.iconst 0, 1, false), (293, Instr.goto 15, 3, false), (296, Instr.iload_n 2, 1, false), (297, Instr.ldc 112, 2, false), (299, Instr.if_icmp .le 8, 3, false), (302, Instr.ldc 112, 2, false), (304, Instr.goto 4, 3, false), (307, Instr.iload_n 2, 1, false), (308, Instr.putfield 116, 3, false), (311, Instr.aload_n 0, 1, false), (312, Instr.invokevirtual 119, 3, false), (315, Instr.pop, 1, false), (316, Instr.return_, 1, false)]
/-- PaymentHubModel.put(JI)I -/
def zi_161 : zIs := [(0, Instr.aload_n 0, 1, false), (1, Instr.getfield 123, 3, false), (4, Instr.ifCond .eq 6, 3, false), (7, Instr.bipush (-9), 2, false), (9, Instr.ireturn, 1, false), (10, Instr.iload_n 3, 1, false), (11, Instr.iconst 1, 1, false), (12, Instr.if_icmp .lt 21, 3, false), (15, Instr.iload_n 3, 1, false), (16, Instr.bipush 8, 2, false), (18, Instr.if_icmp .gt 15, 3, false), (21, Instr.aload_n 0, 1, false), (22, Instr.getfield 127, 3, false), (25, Instr.iload_n 3, 1, false), (26, Instr.iadd, 1, false), (27, Instr.sipush 300, 3, false), (30, Instr.if_icmp .le 5, 3, false), (33, Instr.iconst (-1), 1, false), (34, Instr.ireturn, 1, false), (35, Instr.iconst 0, 1, false), (36, Instr.istore 4, 2, false), (38, Instr.iload 4, 2, true), (40, Instr.iload_n 3, 1, false), (41, Instr.if_icmp .ge 42, 3, false), (44, Instr.lload_n 1, 1, false), (45, Instr.bipush 8, 2, false), (47, Instr.iload 4, 2, false), (49, Instr.imul, 1, false), (50, Instr.lshr, 1, false), (51, Instr.ldc2_w 130, 3, false), (54, Instr.land, 1, false), (55, Instr.lstore 5, 2, false), (57, Instr.lload 5, 2, false), (59, Instr.ldc2_w 132, 3, false), (62, Instr.lcmp, 1, false), (63, Instr.ifCond .lt 12, 3, false), (66, Instr.lload 5, 2, false), (68, Instr.ldc2_w 134, 3, false), (71, Instr.lcmp, 1, false), (72, Instr.ifCond .le 5, 3, false), (75, Instr.iconst (-1), 1, false), (76, Instr.ireturn, 1, false), (77, Instr.iinc 4 1, 3, false), (80, Instr.goto (-42), 3, false), (83, Instr.iconst 0, 1, false), (84, Instr.istore 4, 2, false), (86, Instr.iload 4, 2, true), (88, Instr.iload_n 3, 1, false), (89, Instr.if_icmp .ge 41, 3, false), (92, Instr.aload_n 0, 1, false), (93, Instr.getfield 13, 3, false), (96, Instr.aload_n 0, 1, false), (97, Instr.getfield 127, 3, false), (100, Instr.lload_n 1, 1, false), (101, Instr.bipush 8, 2, false), (103, Instr.iload 4, 2, false), (105, Instr.imul, 1, false), (106, Instr.lshr, 1, false), (107, Instr.ldc2_w 130, 3, false), (110, Instr.land, 1, false), (111, Instr.l2i, 1, false), (112, Instr.i2c, 1, false), (113, Instr.castore, 1, false), (114, Instr.aload_n 0, 1, false), (115, Instr.dup, 1, false), (116, Instr.getfield 127, 3, false), (119, Instr.iconst 1, 1, false), (120, Instr.iadd, 1, false), (121, Instr.putfield 127, 3, false), (124, Instr.iinc 4 1, 3, false), (127, Instr.goto (-41), 3, false), (130, Instr.aload_n 0, 1, false), (131, Instr.getfield 127, 3, false), (134, Instr.ireturn, 1, false)]
/-- PaymentHubModel.sees(IC)Z -/
def zi_162 : zIs := [(0, Instr.iload_n 1, 1, false), (1, Instr.aload_n 0, 1, false), (2, Instr.getfield 127, 3, false), (5, Instr.if_icmp .ge 17, 3, false), (8, Instr.aload_n 0, 1, false), (9, Instr.getfield 13, 3, false), (12, Instr.iload_n 1, 1, false), (13, Instr.caload, 1, false), (14, Instr.iload_n 2, 1, false), (15, Instr.if_icmp .ne 7, 3, false), (18, Instr.iconst 1, 1, false), (19, Instr.goto 4, 3, false), (22, Instr.iconst 0, 1, false), (23, Instr.ireturn, 1, false)]
/-- PaymentHubModel.isLetter(C)Z -/
def zi_163 : zIs := [(0, Instr.iload_n 0, 1, false), (1, Instr.bipush 65, 2, false), (3, Instr.if_icmp .lt 9, 3, false), (6, Instr.iload_n 0, 1, false), (7, Instr.bipush 90, 2, false), (9, Instr.if_icmp .le 15, 3, false), (12, Instr.iload_n 0, 1, false), (13, Instr.bipush 97, 2, false), (15, Instr.if_icmp .lt 13, 3, false), (18, Instr.iload_n 0, 1, false), (19, Instr.bipush 122, 2, false), (21, Instr.if_icmp .gt 7, 3, false), (24, Instr.iconst 1, 1, false), (25, Instr.goto 4, 3, false), (28, Instr.iconst 0, 1, false), (29, Instr.ireturn, 1, false)]
/-- PaymentHubModel.isDigit(C)Z -/
def zi_164 : zIs := [(0, Instr.iload_n 0, 1, false), (1, Instr.bipush 48, 2, false), (3, Instr.if_icmp .lt 13, 3, false), (6, Instr.iload_n 0, 1, false), (7, Instr.bipush 57, 2, false), (9, Instr.if_icmp .gt 7, 3, false), (12, Instr.iconst 1, 1, false), (13, Instr.goto 4, 3, false), (16, Instr.iconst 0, 1, false), (17, Instr.ireturn, 1, false)]
/-- PaymentHubModel.skipBlanks()V -/
def zi_165 : zIs := [(0, Instr.aload_n 0, 1, true), (1, Instr.getfield 136, 3, false), (4, Instr.aload_n 0, 1, false), (5, Instr.getfield 127, 3, false), (8, Instr.if_icmp .ge 30, 3, false), (11, Instr.aload_n 0, 1, false), (12, Instr.getfield 13, 3, false), (15, Instr.aload_n 0, 1, false), (16, Instr.getfield 136, 3, false), (19, Instr.caload, 1, false), (20, Instr.bipush 32, 2, false), (22, Instr.if_icmp .ne 16, 3, false), (25, Instr.aload_n 0, 1, false), (26, Instr.dup, 1, false), (27, Instr.getfield 136, 3, false), (30, Instr.iconst 1, 1, false), (31, Instr.iadd, 1, false), (32, Instr.putfield 136, 3, false), (35, Instr.goto (-35), 3, false), (38, Instr.return_, 1, false)]
/-- PaymentHubModel.comment()V -/
def zi_166 : zIs := [(0, Instr.aload_n 0, 1, false), (1, Instr.getfield 136, 3, false), (4, Instr.iconst 4, 1, false), (5, Instr.iadd, 1, false), (6, Instr.istore_n 1, 1, false), (7, Instr.iload_n 1, 1, true), (8, Instr.iconst 1, 1, false), (9, Instr.iadd, 1, false), (10, Instr.aload_n 0, 1, false), (11, Instr.getfield 127, 3, false), (14, Instr.if_icmp .ge 33, 3, false), (17, Instr.aload_n 0, 1, false), (18, Instr.getfield 13, 3, false), (21, Instr.iload_n 1, 1, false), (22, Instr.caload, 1, false), (23, Instr.bipush 45, 2, false), (25, Instr.if_icmp .ne 16, 3, false), (28, Instr.aload_n 0, 1, false), (29, Instr.getfield 13, 3, false), (32, Instr.iload_n 1, 1, false), (33, Instr.iconst 1, 1, false), (34, Instr.iadd, 1, false), (35, Instr.caload, 1, false), (36, Instr.bipush 45, 2, false), (38, Instr.if_icmp .eq 9, 3, false), (41, Instr.iinc 1 1, 3, false), (44, Instr.goto (-37), 3, false), (47, Instr.aload_n 0, 1, false), (48, Instr.iload_n 1, 1, false), (49, Instr.iconst 1, 1, false), (50, Instr.iadd, 1, false), (51, Instr.aload_n 0, 1, false), (52, Instr.getfield 127, 3, false), (55, Instr.if_icmp .ge 19, 3, false), (58, Instr.aload_n 0, 1, false), (59, Instr.iload_n 1, 1, false), (60, Instr.iconst 2, 1, false), (61, Instr.iadd, 1, false), (62, Instr.bipush 62, 2, false), (64, Instr.invokevirtual 139, 3, false), (67, Instr.ifCond .eq 7, 3, false), (70, Instr.iconst 1, 1, false), (71, Instr.goto 4, 3, false), (74, Instr.iconst 0, 1, false), (75, Instr.putfield 143, 3, false), (78, Instr.aload_n 0, 1, false), (79, Instr.iload_n 1, 1, false), (80, Instr.iconst 3, 1, false), (81, Instr.iadd, 1, false), (82, Instr.putfield 136, 3, false), (85, Instr.return_, 1, false)]
/-- PaymentHubModel.closing()V -/
def zi_167 : zIs := [(0, Instr.aload_n 0, 1, false), (1, Instr.getfield 146, 3, false), (4, Instr.ifCond .le 50, 3, false), (7, Instr.aload_n 0, 1, false), (8, Instr.getfield 136, 3, false), (11, Instr.iconst 2, 1, false), (12, Instr.iadd, 1, false), (13, Instr.aload_n 0, 1, false), (14, Instr.getfield 127, 3, false), (17, Instr.if_icmp .ge 37, 3, false), (20, Instr.aload_n 0, 1, false), (21, Instr.getfield 13, 3, false), (24, Instr.aload_n 0, 1, false), (25, Instr.getfield 136, 3, false), (28, Instr.iconst 2, 1, false), (29, Instr.iadd, 1, false), (30, Instr.caload, 1, false), (31, Instr.aload_n 0, 1, false), (32, Instr.getfield 17, 3, false), (35, Instr.aload_n 0, 1, false), (36, Instr.getfield 40, 3, false), (39, Instr.aload_n 0, 1, false), (40, Instr.getfield 146, 3, false), (43, Instr.iconst 1, 1, false), (44, Instr.isub, 1, false), (45, Instr.iaload, 1, false), (46, Instr.caload, 1, false), (47, Instr.if_icmp .ne 7, 3, false), (50, Instr.iconst 1, 1, false), (51, Instr.goto 4, 3, false), (54, Instr.iconst 0, 1, false), (55, Instr.istore_n 1, 1, false), (56, Instr.aload_n 0, 1, false), (57, Instr.dup, 1, false), (58, Instr.getfield 136, 3, false), (61, Instr.iconst 3, 1, false), (62, Instr.iadd, 1, false), (63, Instr.putfield 136, 3, false), (66, Instr.aload_n 0, 1, false), (67, Instr.invokevirtual 149, 3, false), (70, Instr.aload_n 0, 1, false), (71, Instr.iload_n 1, 1, false), (72, Instr.ifCond .eq 20, 3, false), (75, Instr.aload_n 0, 1, false), (76, Instr.aload_n 0, 1, false), (77, Instr.getfield 136, 3, false), (80, Instr.bipush 62, 2, false), (82, Instr.invokevirtual 139, 3, false), (85, Instr.ifCond .eq 7, 3, false), (88, Instr.iconst 1, 1, false), (89, Instr.goto 4, 3, false), (92, Instr.iconst 0, 1, false), (93, Instr.putfield 143, 3, false), (96, Instr.aload_n 0, 1, false), (97, Instr.dup, 1, false), (98, Instr.getfield 136, 3, false), (101, Instr.iconst 1, 1, false), (102, Instr.iadd, 1, false), (103, Instr.putfield 136, 3, false), (106, Instr.aload_n 0, 1, false), (107, Instr.getfield 143, 3, false), (110, Instr.ifCond .ne 4, 3, false), (113, Instr.return_, 1, false), (114, Instr.aload_n 0, 1, false), (115, Instr.dup, 1, false), (116, Instr.getfield 146, 3, false), (119, Instr.iconst 1, 1, false), (120, Instr.isub, 1, false), (121, Instr.putfield 146, 3, false), (124, Instr.aload_n 0, 1, false), (125, Instr.getfield 34, 3, false), (128, Instr.aload_n 0, 1, false), (129, Instr.getfield 40, 3, false), (132, Instr.aload_n 0, 1, false), (133, Instr.getfield 146, 3, false), (136, Instr.iaload, 1, false), (137, Instr.aload_n 0, 1, false), (138, Instr.getfield 152, 3, false), (141, Instr.iastore, 1, false), (142, Instr.return_, 1, false)]
/-- PaymentHubModel.opening()V -/
def zi_168 : zIs := [(0, Instr.aload_n 0, 1, false), (1, Instr.aload_n 0, 1, false), (2, Instr.getfield 136, 3, false), (5, Instr.iconst 1, 1, false), (6, Instr.iadd, 1, false), (7, Instr.aload_n 0, 1, false), (8, Instr.getfield 127, 3, false), (11, Instr.if_icmp .ge 46, 3, false), (14, Instr.aload_n 0, 1, false), (15, Instr.getfield 13, 3, false), (18, Instr.aload_n 0, 1, false), (19, Instr.getfield 136, 3, false), (22, Instr.iconst 1, 1, false), (23, Instr.iadd, 1, false), (24, Instr.caload, 1, false), (25, Instr.invokestatic 155, 3, false), (28, Instr.ifCond .eq 29, 3, false), (31, Instr.aload_n 0, 1, false), (32, Instr.getfield 146, 3, false), (35, Instr.ifCond .gt 10, 3, false), (38, Instr.aload_n 0, 1, false), (39, Instr.getfield 159, 3, false), (42, Instr.ifCond .ne 15, 3, false), (45, Instr.aload_n 0, 1, false), (46, Instr.getfield 146, 3, false), (49, Instr.iconst 4, 1, false), (50, Instr.if_icmp .ge 7, 3, false), (53, Instr.iconst 1, 1, false), (54, Instr.goto 4, 3, false), (57, Instr.iconst 0, 1, false), (58, Instr.putfield 143, 3, false), (61, Instr.aload_n 0, 1, false), (62, Instr.getfield 143, 3, false), (65, Instr.ifCond .ne 4, 3, false), (68, Instr.return_, 1, false), (69, Instr.aload_n 0, 1, false), (70, Instr.getfield 162, 3, false), (73, Instr.istore_n 1, 1, false), (74, Instr.aload_n 0, 1, false), (75, Instr.getfield 17, 3, false), (78, Instr.iload_n 1, 1, false), (79, Instr.aload_n 0, 1, false), (80, Instr.getfield 13, 3, false), (83, Instr.aload_n 0, 1, false), (84, Instr.getfield 136, 3, false), (87, Instr.iconst 1, 1, false), (88, Instr.iadd, 1, false), (89, Instr.caload, 1, false), (90, Instr.castore, 1, false), (91, Instr.aload_n 0, 1, false), (92, Instr.getfield 20, 3, false), (95, Instr.iload_n 1, 1, false), (96, Instr.aload_n 0, 1, false), (97, Instr.getfield 146, 3, false), (100, Instr.ifCond .le 17, 3, false), (103, Instr.aload_n 0, 1, false), (104, Instr.getfield 40, 3, false), (107, Instr.aload_n 0, 1, false), (108, Instr.getfield 146, 3, false), (111, Instr.iconst 1, 1, false), (112, Instr.isub, 1, false), (113, Instr.iaload, 1, false), (114, Instr.goto 4, 3, false), (117, Instr.iconst (-1), 1, false), (118, Instr.iastore, 1, false), (119, Instr.aload_n 0, 1, false), (120, Instr.getfield 24, 3, false), (123, Instr.iload_n 1, 1, false), (124, Instr.iconst 0, 1, false), (125, Instr.iastore, 1, false), (126, Instr.aload_n 0, 1, false), (127, Instr.getfield 27, 3, false), (130, Instr.iload_n 1, 1, false), (131, Instr.iconst 0, 1, false), (132, Instr.bastore, 1, false), (133, Instr.aload_n 0, 1, false), (134, Instr.getfield 31, 3, false), (137, Instr.iload_n 1, 1, false), (138, Instr.aload_n 0, 1, false), (139, Instr.getfield 152, 3, false), (142, Instr.iastore, 1, false), (143, Instr.aload_n 0, 1, false), (144, Instr.getfield 34, 3, false), (147, Instr.iload_n 1, 1, false), (148, Instr.aload_n 0, 1, false), (149, Instr.getfield 152, 3, false), (152, Instr.iastore, 1, false), (153, Instr.aload_n 0, 1, false), (154, Instr.dup, 1, false), (155, Instr.getfield 162, 3, false), (158, Instr.iconst 1, 1, false), (159, Instr.iadd, 1, false), (160, Instr.putfield 162, 3, false), (163, Instr.aload_n 0, 1, false), (164, Instr.iconst 1, 1, false), (165, Instr.putfield 159, 3, false), (168, Instr.aload_n 0, 1, false), (169, Instr.getfield 146, 3, false), (172, Instr.ifCond .le 23, 3, false), (175, Instr.aload_n 0, 1, false), (176, Instr.getfield 24, 3, false), (179, Instr.aload_n 0, 1, false), (180, Instr.getfield 40, 3, false), (183, Instr.aload_n 0, 1, false), (184, Instr.getfield 146, 3, false), (187, Instr.iconst 1, 1, false), (188, Instr.isub, 1, false), (189, Instr.iaload, 1, false), (190, Instr.dup2, 1, false), (191, Instr.iaload, 1, false), (192, Instr.iconst 1, 1, false), (193, Instr.iadd, 1, false), (194, Instr.iastore, 1, false), (195, Instr.aload_n 0, 1, false), (196, Instr.dup, 1, false), (197, Instr.getfield 136, 3, false), (200, Instr.iconst 2, 1, false), (201, Instr.iadd, 1, false), (202, Instr.putfield 136, 3, false), (205, Instr.aload_n 0, 1, false), (206, Instr.invokevirtual 149, 3, false), (209, Instr.aload_n 0, 1, false), (210, Instr.aload_n 0, 1, false), (211, Instr.getfield 136, 3, false), (214, Instr.bipush 62, 2, false), (216, Instr.invokevirtual 139, 3, false), (219, Instr.ifCond .eq 36, 3, false), (222, Instr.aload_n 0, 1, false), (223, Instr.getfield 40, 3, false), (226, Instr.aload_n 0, 1, false), (227, Instr.getfield 146, 3, false), (230, Instr.iload_n 1, 1, false), (231, Instr.iastore, 1, false), (232, Instr.aload_n 0, 1, false), (233, Instr.dup, 1, false), (234, Instr.getfield 146, 3, false), (237, Instr.iconst 1, 1, false), (238, Instr.iadd, 1, false), (239, Instr.putfield 146, 3, false), (242, Instr.aload_n 0, 1, false), (243, Instr.dup, 1, false), (244, Instr.getfield 136, 3, false), (247, Instr.iconst 1, 1, false), (248, Instr.iadd, 1, false), (249, Instr.putfield 136, 3, false), (252, Instr.goto 50, 3, false), (255, Instr.aload_n 0, 1, false), (256, Instr.aload_n 0, 1, false), (257, Instr.aload_n 0, 1, false), (258, Instr.getfield 136, 3, false), (261, Instr.bipush 47, 2, false), (263, Instr.invokevirtual 139, 3, false), (266, Instr.ifCond .eq 22, 3, false), (269, Instr.aload_n 0, 1, false), (270, Instr.aload_n 0, 1, false), (271, Instr.getfield 136, 3, false), (274, Instr.iconst 1, 1, false), (275, Instr.iadd, 1, false), (276, Instr.bipush 62, 2, false), (278, Instr.invokevirtual 139, 3, false), (281, Instr.ifCond .eq 7, 3, false), (284, Instr.iconst 1, 1, false), (285, Instr.goto 4, 3, false), (288, Instr.iconst 0, 1, false), (289, Instr.putfield 143, 3, false), (292, Instr.aload_n 0, 1, false), (293, Instr.dup, 1, false), (294, Instr.getfield 136, 3, false), (297, Instr.iconst 2, 1, false), (298, Instr.iadd, 1, false), (299, Instr.putfield 136, 3, false), (302, Instr.return_, 1, false)]
/-- PaymentHubModel.letterIn(C)V -/
def zi_169 : zIs := [(0, Instr.aload_n 0, 1, false), (1, Instr.aload_n 0, 1, false), (2, Instr.getfield 146, 3, false), (5, Instr.ifCond .gt 9, 3, false), (8, Instr.iload_n 1, 1, false), (9, Instr.bipush 32, 2, false), (11, Instr.if_icmp .ne 7, 3, false), (14, Instr.iconst 1, 1, false), (15, Instr.goto 4, 3, false), (18, Instr.iconst 0, 1, false), (19, Instr.putfield 143, 3, false), (22, Instr.aload_n 0, 1, false), (23, Instr.getfield 146, 3, false), (26, Instr.ifCond .ne 4, 3, false), (29, Instr.return_, 1, false), (30, Instr.aload_n 0, 1, false), (31, Instr.getfield 27, 3, false), (34, Instr.aload_n 0, 1, false), (35, Instr.getfield 40, 3, false), (38, Instr.aload_n 0, 1, false), (39, Instr.getfield 146, 3, false), (42, Instr.iconst 1, 1, false), (43, Instr.isub, 1, false), (44, Instr.iaload, 1, false), (45, Instr.aload_n 0, 1, false), (46, Instr.getfield 27, 3, false), (49, Instr.aload_n 0, 1, false), (50, Instr.getfield 40, 3, false), (53, Instr.aload_n 0, 1, false), (54, Instr.getfield 146, 3, false), (57, Instr.iconst 1, 1, false), (58, Instr.isub, 1, false), (59, Instr.iaload, 1, false), (60, Instr.baload, 1, false), (61, Instr.ifCond .ne 9, 3, false), (64, Instr.iload_n 1, 1, false), (65, Instr.bipush 32, 2, false), (67, Instr.if_icmp .eq 7, 3, false), (70, Instr.iconst 1, 1, false), (71, Instr.goto 4, 3, false), (74, Instr.iconst 0, 1, false), (75, Instr.bastore, 1, false), (76, Instr.aload_n 0, 1, false), (77, Instr.getfield 37, 3, false), (80, Instr.aload_n 0, 1, false), (81, Instr.getfield 152, 3, false), (84, Instr.iload_n 1, 1, false), (85, Instr.castore, 1, false), (86, Instr.aload_n 0, 1, false), (87, Instr.dup, 1, false), (88, Instr.getfield 152, 3, false), (91, Instr.iconst 1, 1, false), (92, Instr.iadd, 1, false), (93, Instr.putfield 152, 3, false), (96, Instr.return_, 1, false)]
/-- PaymentHubModel.reference()V -/
def zi_170 : zIs := [(0, Instr.aload_n 0, 1, false), (1, Instr.getfield 136, 3, false), (4, Instr.iconst 2, 1, false), (5, Instr.iadd, 1, false), (6, Instr.istore_n 1, 1, false), (7, Instr.iconst 0, 1, false), (8, Instr.istore_n 2, 1, false), (9, Instr.iconst 0, 1, false), (10, Instr.istore_n 3, 1, false), (11, Instr.iload_n 1, 1, true), (12, Instr.aload_n 0, 1, false), (13, Instr.getfield 127, 3, false), (16, Instr.if_icmp .ge 44, 3, false), (19, Instr.aload_n 0, 1, false), (20, Instr.getfield 13, 3, false), (23, Instr.iload_n 1, 1, false), (24, Instr.caload, 1, false), (25, Instr.invokestatic 165, 3, false), (28, Instr.ifCond .eq 32, 3, false), (31, Instr.iload_n 3, 1, false), (32, Instr.iconst 4, 1, false), (33, Instr.if_icmp .ge 27, 3, false), (36, Instr.bipush 10, 2, false), (38, Instr.iload_n 2, 1, false), (39, Instr.imul, 1, false), (40, Instr.aload_n 0, 1, false), (41, Instr.getfield 13, 3, false), (44, Instr.iload_n 1, 1, false), (45, Instr.caload, 1, false), (46, Instr.iadd, 1, false), (47, Instr.bipush 48, 2, false), (49, Instr.isub, 1, false), (50, Instr.istore_n 2, 1, false), (51, Instr.iinc 3 1, 3, false), (54, Instr.iinc 1 1, 3, false), (57, Instr.goto (-46), 3, false), (60, Instr.aload_n 0, 1, false), (61, Instr.aload_n 0, 1, false), (62, Instr.getfield 146, 3, false), (65, Instr.ifCond .le 54, 3, false), (68, Instr.aload_n 0, 1, false), (69, Instr.aload_n 0, 1, false), (70, Instr.getfield 136, 3, false), (73, Instr.iconst 1, 1, false), (74, Instr.iadd, 1, false), (75, Instr.bipush 35, 2, false), (77, Instr.invokevirtual 139, 3, false), (80, Instr.ifCond .eq 39, 3, false), (83, Instr.iload_n 3, 1, false), (84, Instr.iconst 2, 1, false), (85, Instr.if_icmp .eq 8, 3, false), (88, Instr.iload_n 3, 1, false), (89, Instr.iconst 3, 1, false), (90, Instr.if_icmp .ne 29, 3, false), (93, Instr.aload_n 0, 1, false), (94, Instr.iload_n 1, 1, false), (95, Instr.bipush 59, 2, false), (97, Instr.invokevirtual 139, 3, false), (100, Instr.ifCond .eq 19, 3, false), (103, Instr.iload_n 2, 1, false), (104, Instr.bipush 33, 2, false), (106, Instr.if_icmp .lt 13, 3, false), (109, Instr.iload_n 2, 1, false), (110, Instr.bipush 126, 2, false), (112, Instr.if_icmp .gt 7, 3, false), (115, Instr.iconst 1, 1, false), (116, Instr.goto 4, 3, false), (119, Instr.iconst 0, 1, false), (120, Instr.putfield 143, 3, false), (123, Instr.aload_n 0, 1, false), (124, Instr.iload_n 1, 1, false), (125, Instr.iconst 1, 1, false), (126, Instr.iadd, 1, false), (127, Instr.putfield 136, 3, false), (130, Instr.aload_n 0, 1, false), (131, Instr.getfield 143, 3, false), (134, Instr.ifCond .eq 9, 3, false), (137, Instr.aload_n 0, 1, false), (138, Instr.iload_n 2, 1, false), (139, Instr.i2c, 1, false), (140, Instr.invokevirtual 168, 3, false), (143, Instr.return_, 1, false)]
/-- PaymentHubModel.isDocument()Z -/
def zi_171 : zIs := [(0, Instr.aload_n 0, 1, false), (1, Instr.iconst 0, 1, false), (2, Instr.putfield 162, 3, false), (5, Instr.aload_n 0, 1, false), (6, Instr.iconst 0, 1, false), (7, Instr.putfield 152, 3, false), (10, Instr.aload_n 0, 1, false), (11, Instr.iconst 0, 1, false), (12, Instr.putfield 146, 3, false), (15, Instr.aload_n 0, 1, false), (16, Instr.iconst 0, 1, false), (17, Instr.putfield 136, 3, false), (20, Instr.aload_n 0, 1, false), (21, Instr.iconst 0, 1, false), (22, Instr.putfield 159, 3, false), (25, Instr.aload_n 0, 1, false), (26, Instr.iconst 1, 1, false), (27, Instr.putfield 143, 3, false), (30, Instr.aload_n 0, 1, true), (31, Instr.getfield 143, 3, false), (34, Instr.ifCond .eq 154, 3, false), (37, Instr.aload_n 0, 1, false), (38, Instr.getfield 136, 3, false), (41, Instr.aload_n 0, 1, false), (42, Instr.getfield 127, 3, false), (45, Instr.if_icmp .ge 143, 3, false), (48, Instr.aload_n 0, 1, false), (49, Instr.getfield 13, 3, false), (52, Instr.aload_n 0, 1, false), (53, Instr.getfield 136, 3, false), (56, Instr.caload, 1, false), (57, Instr.istore_n 1, 1, false), (58, Instr.iload_n 1, 1, false), (59, Instr.bipush 60, 2, false), (61, Instr.if_icmp .ne 55, 3, false), (64, Instr.aload_n 0, 1, false), (65, Instr.aload_n 0, 1, false), (66, Instr.getfield 136, 3, false), (69, Instr.iconst 1, 1, false), (70, Instr.iadd, 1, false), (71, Instr.bipush 33, 2, false), (73, Instr.invokevirtual 139, 3, false), (76, Instr.ifCond .eq 40, 3, false), (79, Instr.aload_n 0, 1, false), (80, Instr.aload_n 0, 1, false), (81, Instr.getfield 136, 3, false), (84, Instr.iconst 2, 1, false), (85, Instr.iadd, 1, false), (86, Instr.bipush 45, 2, false), (88, Instr.invokevirtual 139, 3, false), (91, Instr.ifCond .eq 25, 3, false), (94, Instr.aload_n 0, 1, false), (95, Instr.aload_n 0, 1, false), (96, Instr.getfield 136, 3, false), (99, Instr.iconst 3, 1, false), (100, Instr.iadd, 1, false), (101, Instr.bipush 45, 2, false), (103, Instr.invokevirtual 139, 3, false), (106, Instr.ifCond .eq 10, 3, false), (109, Instr.aload_n 0, 1, false), (110, Instr.invokevirtual 172, 3, false), (113, Instr.goto 72, 3, false), (116, Instr.iload_n 1, 1, false), (117, Instr.bipush 60, 2, false), (119, Instr.if_icmp .ne 25, 3, false), (122, Instr.aload_n 0, 1, false), (123, Instr.aload_n 0, 1, false), (124, Instr.getfield 136, 3, false), (127, Instr.iconst 1, 1, false), (128, Instr.iadd, 1, false), (129, Instr.bipush 47, 2, false), (131, Instr.invokevirtual 139, 3, false), (134, Instr.ifCond .eq 10, 3, false), (137, Instr.aload_n 0, 1, false), (138, Instr.invokevirtual 175, 3, false), (141, Instr.goto 44, 3, false), (144, Instr.iload_n 1, 1, false), (145, Instr.bipush 60, 2, false), (147, Instr.if_icmp .ne 10, 3, false), (150, Instr.aload_n 0, 1, false), (151, Instr.invokevirtual 178, 3, false), (154, Instr.goto 31, 3, false), (157, Instr.iload_n 1, 1, false), (158, Instr.bipush 38, 2, false), (160, Instr.if_icmp .ne 10, 3, false), (163, Instr.aload_n 0, 1, false), (164, Instr.invokevirtual 181, 3, false), (167, Instr.goto 18, 3, false), (170, Instr.aload_n 0, 1, false), (171, Instr.iload_n 1, 1, false), (172, Instr.invokevirtual 168, 3, false), (175, Instr.aload_n 0, 1, false), (176, Instr.dup, 1, false), (177, Instr.getfield 136, 3, false), (180, Instr.iconst 1, 1, false), (181, Instr.iadd, 1, false), (182, Instr.putfield 136, 3, false), (185, Instr.goto (-155), 3, false), (188, Instr.aload_n 0, 1, false), (189, Instr.getfield 143, 3, false), (192, Instr.ifCond .eq 21, 3, false), (195, Instr.aload_n 0, 1, false), (196, Instr.getfield 159, 3, false), (199, Instr.ifCond .eq 14, 3, false), (202, Instr.aload_n 0, 1, false), (203, Instr.getfield 146, 3, false), (206, Instr.ifCond .ne 7, 3, false), (209, Instr.iconst 1, 1, false), (210, Instr.goto 4, 3, false), (213, Instr.iconst 0, 1, false), (214, Instr.ireturn, 1, false)]
/-- PaymentHubModel.child(II)I -/
def zi_172 : zIs := [(0, Instr.iconst 0, 1, false), (1, Instr.istore_n 3, 1, false), (2, Instr.iconst 0, 1, false), (3, Instr.istore 4, 2, false), (5, Instr.iload 4, 2, true), (7, Instr.aload_n 0, 1, false), (8, Instr.getfield 162, 3, false), (11, Instr.if_icmp .ge 31, 3, false), (14, Instr.aload_n 0, 1, false), (15, Instr.getfield 20, 3, false), (18, Instr.iload 4, 2, false), (20, Instr.iaload, 1, false), (21, Instr.iload_n 1, 1, false), (22, Instr.if_icmp .ne 14, 3, false), (25, Instr.iload_n 3, 1, false), (26, Instr.iload_n 2, 1, false), (27, Instr.if_icmp .ne 6, 3, false), (30, Instr.iload 4, 2, false), (32, Instr.ireturn, 1, false), (33, Instr.iinc 3 1, 3, false), (36, Instr.iinc 4 1, 3, false), (39, Instr.goto (-34), 3, false), (42, Instr.iconst (-1), 1, false), (43, Instr.ireturn, 1, false)]
/-- PaymentHubModel.isLeaf(IIC)Z -/
def zi_173 : zIs := [(0, Instr.aload_n 0, 1, false), (1, Instr.iload_n 1, 1, false), (2, Instr.iload_n 2, 1, false), (3, Instr.invokevirtual 184, 3, false), (6, Instr.istore 4, 2, false), (8, Instr.iload 4, 2, false), (10, Instr.ifCond .lt 24, 3, false), (13, Instr.aload_n 0, 1, false), (14, Instr.getfield 17, 3, false), (17, Instr.iload 4, 2, false), (19, Instr.caload, 1, false), (20, Instr.iload_n 3, 1, false), (21, Instr.if_icmp .ne 13, 3, false), (24, Instr.aload_n 0, 1, false), (25, Instr.getfield 24, 3, false), (28, Instr.iload 4, 2, false), (30, Instr.iaload, 1, false), (31, Instr.ifCond .le 5, 3, false), (34, Instr.iconst 0, 1, false), (35, Instr.ireturn, 1, false), (36, Instr.aload_n 0, 1, true), (37, Instr.getfield 31, 3, false), (40, Instr.iload 4, 2, false), (42, Instr.iaload, 1, false), (43, Instr.aload_n 0, 1, false), (44, Instr.getfield 34, 3, false), (47, Instr.iload 4, 2, false), (49, Instr.iaload, 1, false), (50, Instr.if_icmp .ge 34, 3, false), (53, Instr.aload_n 0, 1, false), (54, Instr.getfield 37, 3, false), (57, Instr.aload_n 0, 1, false), (58, Instr.getfield 31, 3, false), (61, Instr.iload 4, 2, false), (63, Instr.iaload, 1, false), (64, Instr.caload, 1, false), (65, Instr.bipush 32, 2, false), (67, Instr.if_icmp .ne 17, 3, false), (70, Instr.aload_n 0, 1, false), (71, Instr.getfield 31, 3, false), (74, Instr.iload 4, 2, false), (76, Instr.dup2, 1, false), (77, Instr.iaload, 1, false), (78, Instr.iconst 1, 1, false), (79, Instr.iadd, 1, false), (80, Instr.iastore, 1, false), (81, Instr.goto (-45), 3, false), (84, Instr.aload_n 0, 1, true), (85, Instr.getfield 31, 3, false), (88, Instr.iload 4, 2, false), (90, Instr.iaload, 1, false), (91, Instr.aload_n 0, 1, false), (92, Instr.getfield 34, 3, false), (95, Instr.iload 4, 2, false), (97, Instr.iaload, 1, false), (98, Instr.if_icmp .ge 36, 3, false), (101, Instr.aload_n 0, 1, false), (102, Instr.getfield 37, 3, false), (105, Instr.aload_n 0, 1, false), (106, Instr.getfield 34, 3, false), (109, Instr.iload 4, 2, false), (111, Instr.iaload, 1, false), (112, Instr.iconst 1, 1, false), (113, Instr.isub, 1, false), (114, Instr.caload, 1, false), (115, Instr.bipush 32, 2, false), (117, Instr.if_icmp .ne 17, 3, false), (120, Instr.aload_n 0, 1, false), (121, Instr.getfield 34, 3, false), (124, Instr.iload 4, 2, false), (126, Instr.dup2, 1, false), (127, Instr.iaload, 1, false), (128, Instr.iconst 1, 1, false), (129, Instr.isub, 1, false), (130, Instr.iastore, 1, false), (131, Instr.goto (-47), 3, false), (134, Instr.iconst 1, 1, false), (135, Instr.ireturn, 1, false)]
/-- PaymentHubModel.name(I)I -/
def zi_174 : zIs := [(0, Instr.aload_n 0, 1, false), (1, Instr.getfield 34, 3, false), (4, Instr.iload_n 1, 1, false), (5, Instr.iaload, 1, false), (6, Instr.aload_n 0, 1, false), (7, Instr.getfield 31, 3, false), (10, Instr.iload_n 1, 1, false), (11, Instr.iaload, 1, false), (12, Instr.isub, 1, false), (13, Instr.istore_n 2, 1, false), (14, Instr.iconst 0, 1, false), (15, Instr.istore_n 3, 1, false), (16, Instr.aload_n 0, 1, false), (17, Instr.getfield 31, 3, false), (20, Instr.iload_n 1, 1, false), (21, Instr.iaload, 1, false), (22, Instr.istore 4, 2, false), (24, Instr.iload 4, 2, true), (26, Instr.aload_n 0, 1, false), (27, Instr.getfield 34, 3, false), (30, Instr.iload_n 1, 1, false), (31, Instr.iaload, 1, false), (32, Instr.if_icmp .ge 79, 3, false), (35, Instr.iload_n 2, 1, false), (36, Instr.iconst 4, 1, false), (37, Instr.if_icmp .gt 74, 3, false), (40, Instr.aload_n 0, 1, false), (41, Instr.getfield 37, 3, false), (44, Instr.iload 4, 2, false), (46, Instr.caload, 1, false), (47, Instr.istore 5, 2, false), (49, Instr.iload 5, 2, false), (51, Instr.invokestatic 165, 3, false), (54, Instr.ifCond .ne 19, 3, false), (57, Instr.iload 5, 2, false), (59, Instr.bipush 97, 2, false), (61, Instr.if_icmp .lt 10, 3, false), (64, Instr.iload 5, 2, false), (66, Instr.bipush 122, 2, false), (68, Instr.if_icmp .le 5, 3, false), (71, Instr.iconst 0, 1, false), (72, Instr.ireturn, 1, false), (73, Instr.bipush 37, 2, false), (75, Instr.iload_n 3, 1, false), (76, Instr.imul, 1, false), (77, Instr.iload 5, 2, false), (79, Instr.invokestatic 165, 3, false), (82, Instr.ifCond .eq 13, 3, false), (85, Instr.iload 5, 2, false), (87, Instr.bipush 48, 2, false), (89, Instr.isub, 1, false), (90, Instr.iconst 1, 1, false), (91, Instr.iadd, 1, false), (92, Instr.goto 11, 3, false), (95, Instr.iload 5, 2, false), (97, Instr.bipush 97, 2, false), (99, Instr.isub, 1, false), (100, Instr.bipush 11, 2, false), (102, Instr.iadd, 1, false), (103, Instr.iadd, 1, false), (104, Instr.istore_n 3, 1, false), (105, Instr.iinc 4 1, 3, false), (108, Instr.goto (-84), 3, false), (111, Instr.iload_n 2, 1, false), (112, Instr.iconst 4, 1, false), (113, Instr.if_icmp .le 7, 3, false), (116, Instr.iconst 0, 1, false), (117, Instr.goto 4, 3, false), (120, Instr.iload_n 3, 1, false), (121, Instr.ireturn, 1, false)]
/-- PaymentHubModel.small(II)I -/
def zi_175 : zIs := [(0, Instr.aload_n 0, 1, false), (1, Instr.getfield 34, 3, false), (4, Instr.iload_n 1, 1, false), (5, Instr.iaload, 1, false), (6, Instr.iload_n 2, 1, false), (7, Instr.isub, 1, false), (8, Instr.istore_n 3, 1, false), (9, Instr.iconst 0, 1, false), (10, Instr.istore 4, 2, false), (12, Instr.iload_n 2, 1, false), (13, Instr.istore 5, 2, false), (15, Instr.iload 5, 2, true), (17, Instr.aload_n 0, 1, false), (18, Instr.getfield 34, 3, false), (21, Instr.iload_n 1, 1, false), (22, Instr.iaload, 1, false), (23, Instr.if_icmp .ge 47, 3, false), (26, Instr.iload_n 3, 1, false), (27, Instr.iconst 2, 1, false), (28, Instr.if_icmp .gt 42, 3, false), (31, Instr.aload_n 0, 1, false), (32, Instr.getfield 37, 3, false), (35, Instr.iload 5, 2, false), (37, Instr.caload, 1, false), (38, Instr.invokestatic 165, 3, false), (41, Instr.ifCond .ne 5, 3, false), (44, Instr.iconst (-1), 1, false), (45, Instr.ireturn, 1, false), (46, Instr.bipush 10, 2, false), (48, Instr.iload 4, 2, false), (50, Instr.imul, 1, false), (51, Instr.aload_n 0, 1, false), (52, Instr.getfield 37, 3, false), (55, Instr.iload 5, 2, false), (57, Instr.caload, 1, false), (58, Instr.iadd, 1, false), (59, Instr.bipush 48, 2, false), (61, Instr.isub, 1, false), (62, Instr.istore 4, 2, false), (64, Instr.iinc 5 1, 3, false), (67, Instr.goto (-52), 3, false), (70, Instr.iload_n 3, 1, false), (71, Instr.iconst 1, 1, false), (72, Instr.if_icmp .lt 8, 3, false), (75, Instr.iload_n 3, 1, false), (76, Instr.iconst 2, 1, false), (77, Instr.if_icmp .le 7, 3, false), (80, Instr.iconst (-1), 1, false), (81, Instr.goto 5, 3, false), (84, Instr.iload 4, 2, false), (86, Instr.ireturn, 1, false)]
/-- PaymentHubModel.placeOf(I)I -/
def zi_176 : zIs := [(0, Instr.aload_n 0, 1, false), (1, Instr.getfield 34, 3, false), (4, Instr.iload_n 1, 1, false), (5, Instr.iaload, 1, false), (6, Instr.aload_n 0, 1, false), (7, Instr.getfield 31, 3, false), (10, Instr.iload_n 1, 1, false), (11, Instr.iaload, 1, false), (12, Instr.isub, 1, false), (13, Instr.iconst 3, 1, false), (14, Instr.if_icmp .eq 5, 3, false), (17, Instr.iconst (-1), 1, false), (18, Instr.ireturn, 1, false), (19, Instr.aload_n 0, 1, false), (20, Instr.getfield 37, 3, false), (23, Instr.aload_n 0, 1, false), (24, Instr.getfield 31, 3, false), (27, Instr.iload_n 1, 1, false), (28, Instr.iaload, 1, false), (29, Instr.caload, 1, false), (30, Instr.istore_n 2, 1, false), (31, Instr.aload_n 0, 1, false), (32, Instr.iload_n 1, 1, false), (33, Instr.aload_n 0, 1, false), (34, Instr.getfield 31, 3, false), (37, Instr.iload_n 1, 1, false), (38, Instr.iaload, 1, false), (39, Instr.iconst 1, 1, false), (40, Instr.iadd, 1, false), (41, Instr.invokevirtual 188, 3, false), (44, Instr.istore_n 3, 1, false), (45, Instr.iload_n 2, 1, false), (46, Instr.bipush 65, 2, false), (48, Instr.if_icmp .lt 13, 3, false), (51, Instr.iload_n 2, 1, false), (52, Instr.bipush 68, 2, false), (54, Instr.if_icmp .gt 7, 3, false), (57, Instr.iload_n 3, 1, false), (58, Instr.ifCond .ge 7, 3, false), (61, Instr.iconst (-1), 1, false), (62, Instr.goto 7, 3, false), (65, Instr.iload_n 2, 1, false), (66, Instr.bipush 65, 2, false), (68, Instr.isub, 1, false), (69, Instr.ireturn, 1, false)]
/-- PaymentHubModel.amount(I)I -/
def zi_177 : zIs := [(0, Instr.iconst 0, 1, false), (1, Instr.istore_n 2, 1, false), (2, Instr.iconst 0, 1, false), (3, Instr.istore_n 3, 1, false), (4, Instr.aload_n 0, 1, false), (5, Instr.getfield 31, 3, false), (8, Instr.iload_n 1, 1, false), (9, Instr.iaload, 1, false), (10, Instr.istore 4, 2, false), (12, Instr.iload 4, 2, true), (14, Instr.aload_n 0, 1, false), (15, Instr.getfield 34, 3, false), (18, Instr.iload_n 1, 1, false), (19, Instr.iaload, 1, false), (20, Instr.if_icmp .ge 47, 3, false), (23, Instr.aload_n 0, 1, false), (24, Instr.getfield 37, 3, false), (27, Instr.iload 4, 2, false), (29, Instr.caload, 1, false), (30, Instr.invokestatic 165, 3, false), (33, Instr.ifCond .eq 34, 3, false), (36, Instr.iload_n 3, 1, false), (37, Instr.bipush 7, 2, false), (39, Instr.if_icmp .ge 28, 3, false), (42, Instr.bipush 10, 2, false), (44, Instr.iload_n 2, 1, false), (45, Instr.imul, 1, false), (46, Instr.aload_n 0, 1, false), (47, Instr.getfield 37, 3, false), (50, Instr.iload 4, 2, false), (52, Instr.caload, 1, false), (53, Instr.iadd, 1, false), (54, Instr.bipush 48, 2, false), (56, Instr.isub, 1, false), (57, Instr.istore_n 2, 1, false), (58, Instr.iinc 3 1, 3, false), (61, Instr.iinc 4 1, 3, false), (64, Instr.goto (-52), 3, false), (67, Instr.iload_n 3, 1, false), (68, Instr.iconst 1, 1, false), (69, Instr.if_icmp .lt 9, 3, false), (72, Instr.iload_n 3, 1, false), (73, Instr.bipush 6, 2, false), (75, Instr.if_icmp .le 5, 3, false), (78, Instr.iconst 0, 1, false), (79, Instr.ireturn, 1, false), (80, Instr.iload 4, 2, false), (82, Instr.aload_n 0, 1, false), (83, Instr.getfield 34, 3, false), (86, Instr.iload_n 1, 1, false), (87, Instr.iaload, 1, false), (88, Instr.if_icmp .ne 8, 3, false), (91, Instr.bipush 100, 2, false), (93, Instr.iload_n 2, 1, false), (94, Instr.imul, 1, false), (95, Instr.ireturn, 1, false), (96, Instr.aload_n 0, 1, false), (97, Instr.getfield 34, 3, false), (100, Instr.iload_n 1, 1, false), (101, Instr.iaload, 1, false), (102, Instr.iload 4, 2, false), (104, Instr.isub, 1, false), (105, Instr.iconst 1, 1, false), (106, Instr.isub, 1, false), (107, Instr.istore 5, 2, false), (109, Instr.aload_n 0, 1, false), (110, Instr.getfield 37, 3, false), (113, Instr.iload 4, 2, false), (115, Instr.caload, 1, false), (116, Instr.bipush 46, 2, false), (118, Instr.if_icmp .ne 15, 3, false), (121, Instr.iload 5, 2, false), (123, Instr.iconst 1, 1, false), (124, Instr.if_icmp .lt 9, 3, false), (127, Instr.iload 5, 2, false), (129, Instr.iconst 2, 1, false), (130, Instr.if_icmp .le 5, 3, false), (133, Instr.iconst 0, 1, false), (134, Instr.ireturn, 1, false), (135, Instr.aload_n 0, 1, false), (136, Instr.iload_n 1, 1, false), (137, Instr.iload 4, 2, false), (139, Instr.iconst 1, 1, false), (140, Instr.iadd, 1, false), (141, Instr.invokevirtual 188, 3, false), (144, Instr.istore 6, 2, false), (146, Instr.iload 6, 2, false), (148, Instr.ifCond .ge 7, 3, false), (151, Instr.iconst 0, 1, false), (152, Instr.goto 24, 3, false), (155, Instr.bipush 100, 2, false), (157, Instr.iload_n 2, 1, false), (158, Instr.imul, 1, false), (159, Instr.iload 5, 2, false), (161, Instr.iconst 1, 1, false), (162, Instr.if_icmp .ne 11, 3, false), (165, Instr.bipush 10, 2, false), (167, Instr.iload 6, 2, false), (169, Instr.imul, 1, false), (170, Instr.goto 5, 3, false), (173, Instr.iload 6, 2, false), (175, Instr.iadd, 1, false), (176, Instr.ireturn, 1, false)]
/-- PaymentHubModel.readPart(I)Z -/
def zi_178 : zIs := [(0, Instr.aload_n 0, 1, false), (1, Instr.iconst 0, 1, false), (2, Instr.iconst 3, 1, false), (3, Instr.iload_n 1, 1, false), (4, Instr.iadd, 1, false), (5, Instr.invokevirtual 184, 3, false), (8, Instr.istore_n 2, 1, false), (9, Instr.aload_n 0, 1, false), (10, Instr.getfield 17, 3, false), (13, Instr.iload_n 2, 1, false), (14, Instr.caload, 1, false), (15, Instr.bipush 84, 2, false), (17, Instr.if_icmp .ne 22, 3, false), (20, Instr.aload_n 0, 1, false), (21, Instr.getfield 24, 3, false), (24, Instr.iload_n 2, 1, false), (25, Instr.iaload, 1, false), (26, Instr.iconst 4, 1, false), (27, Instr.if_icmp .ne 12, 3, false), (30, Instr.aload_n 0, 1, false), (31, Instr.getfield 27, 3, false), (34, Instr.iload_n 2, 1, false), (35, Instr.baload, 1, false), (36, Instr.ifCond .eq 5, 3, false), (39, Instr.iconst 0, 1, false), (40, Instr.ireturn, 1, false), (41, Instr.aload_n 0, 1, false), (42, Instr.iload_n 2, 1, false), (43, Instr.iconst 0, 1, false), (44, Instr.bipush 69, 2, false), (46, Instr.invokevirtual 191, 3, false), (49, Instr.ifCond .eq 36, 3, false), (52, Instr.aload_n 0, 1, false), (53, Instr.iload_n 2, 1, false), (54, Instr.iconst 1, 1, false), (55, Instr.bipush 68, 2, false), (57, Instr.invokevirtual 191, 3, false), (60, Instr.ifCond .eq 25, 3, false), (63, Instr.aload_n 0, 1, false), (64, Instr.iload_n 2, 1, false), (65, Instr.iconst 2, 1, false), (66, Instr.bipush 67, 2, false), (68, Instr.invokevirtual 191, 3, false), (71, Instr.ifCond .eq 14, 3, false), (74, Instr.aload_n 0, 1, false), (75, Instr.iload_n 2, 1, false), (76, Instr.iconst 3, 1, false), (77, Instr.bipush 65, 2, false), (79, Instr.invokevirtual 191, 3, false), (82, Instr.ifCond .ne 5, 3, false), (85, Instr.iconst 0, 1, false), (86, Instr.ireturn, 1, false), (87, Instr.aload_n 0, 1, false), (88, Instr.iload_n 2, 1, false), (89, Instr.iconst 1, 1, false), (90, Instr.invokevirtual 184, 3, false), (93, Instr.istore_n 3, 1, false), (94, Instr.aload_n 0, 1, false), (95, Instr.iload_n 2, 1, false), (96, Instr.iconst 2, 1, false), (97, Instr.invokevirtual 184, 3, false), (100, Instr.istore 4, 2, false), (102, Instr.aload_n 0, 1, false), (103, Instr.iload_n 2, 1, false), (104, Instr.iconst 0, 1, false), (105, Instr.invokevirtual 184, 3, false), (108, Instr.istore 5, 2, false), (110, Instr.aload_n 0, 1, false), (111, Instr.iload_n 2, 1, false), (112, Instr.iconst 3, 1, false), (113, Instr.invokevirtual 184, 3, false), (116, Instr.istore 6, 2, false), (118, Instr.aload_n 0, 1, false), (119, Instr.getfield 43, 3, false), (122, Instr.iload_n 1, 1, false), (123, Instr.aload_n 0, 1, false), (124, Instr.iload 5, 2, false), (126, Instr.invokevirtual 195, 3, false), (129, Instr.iastore, 1, false), (130, Instr.aload_n 0, 1, false), (131, Instr.getfield 46, 3, false), (134, Instr.iload_n 1, 1, false), (135, Instr.aload_n 0, 1, false), (136, Instr.iload_n 3, 1, false), (137, Instr.invokevirtual 199, 3, false), (140, Instr.iastore, 1, false), (141, Instr.aload_n 0, 1, false), (142, Instr.getfield 49, 3, false), (145, Instr.iload_n 1, 1, false), (146, Instr.aload_n 0, 1, false), (147, Instr.iload 4, 2, false), (149, Instr.invokevirtual 199, 3, false), (152, Instr.iastore, 1, false), (153, Instr.aload_n 0, 1, false), (154, Instr.getfield 55, 3, false), (157, Instr.iload_n 1, 1, false), (158, Instr.aload_n 0, 1, false), (159, Instr.iload 6, 2, false), (161, Instr.invokevirtual 202, 3, false), (164, Instr.iastore, 1, false), (165, Instr.aload_n 0, 1, false), (166, Instr.getfield 43, 3, false), (169, Instr.iload_n 1, 1, false), (170, Instr.iaload, 1, false), (171, Instr.ifCond .eq 30, 3, false), (174, Instr.aload_n 0, 1, false), (175, Instr.getfield 46, 3, false), (178, Instr.iload_n 1, 1, false), (179, Instr.iaload, 1, false), (180, Instr.ifCond .lt 21, 3, false), (183, Instr.aload_n 0, 1, false), (184, Instr.getfield 49, 3, false), (187, Instr.iload_n 1, 1, false), (188, Instr.iaload, 1, false), (189, Instr.ifCond .lt 12, 3, false), (192, Instr.aload_n 0, 1, false), (193, Instr.getfield 55, 3, false), (196, Instr.iload_n 1, 1, false), (197, Instr.iaload, 1, false), (198, Instr.ifCond .ne 5, 3, false), (201, Instr.iconst 0, 1, false), (202, Instr.ireturn, 1, false), (203, Instr.aload_n 0, 1, false), (204, Instr.getfield 52, 3, false), (207, Instr.iconst 2, 1, false), (208, Instr.iload_n 1, 1, false), (209, Instr.imul, 1, false), (210, Instr.aload_n 0, 1, false), (211, Instr.iload_n 3, 1, false), (212, Instr.aload_n 0, 1, false), (213, Instr.getfield 31, 3, false), (216, Instr.iload_n 3, 1, false), (217, Instr.iaload, 1, false), (218, Instr.iconst 1, 1, false), (219, Instr.iadd, 1, false), (220, Instr.invokevirtual 188, 3, false), (223, Instr.iastore, 1, false), (224, Instr.aload_n 0, 1, false), (225, Instr.getfield 52, 3, false), (228, Instr.iconst 2, 1, false), (229, Instr.iload_n 1, 1, false), (230, Instr.imul, 1, false), (231, Instr.iconst 1, 1, false), (232, Instr.iadd, 1, false), (233, Instr.aload_n 0, 1, false), (234, Instr.iload 4, 2, false), (236, Instr.aload_n 0, 1, false), (237, Instr.getfield 31, 3, false), (240, Instr.iload 4, 2, false), (242, Instr.iaload, 1, false), (243, Instr.iconst 1, 1, false), (244, Instr.iadd, 1, false), (245, Instr.invokevirtual 188, 3, false), (248, Instr.iastore, 1, false), (249, Instr.iconst 1, 1, false), (250, Instr.ireturn, 1, false)]
/-- PaymentHubModel.isValid()Z -/
def zi_179 : zIs := [(0, Instr.aload_n 0, 1, false), (1, Instr.getfield 17, 3, false), (4, Instr.iconst 0, 1, false), (5, Instr.caload, 1, false), (6, Instr.istore_n 1, 1, false), (7, Instr.aload_n 0, 1, false), (8, Instr.getfield 27, 3, false), (11, Instr.iconst 0, 1, false), (12, Instr.baload, 1, false), (13, Instr.ifCond .ne 32, 3, false), (16, Instr.iload_n 1, 1, false), (17, Instr.bipush 80, 2, false), (19, Instr.if_icmp .eq 15, 3, false), (22, Instr.iload_n 1, 1, false), (23, Instr.bipush 81, 2, false), (25, Instr.if_icmp .eq 9, 3, false), (28, Instr.iload_n 1, 1, false), (29, Instr.bipush 82, 2, false), (31, Instr.if_icmp .ne 14, 3, false), (34, Instr.aload_n 0, 1, false), (35, Instr.iconst 0, 1, false), (36, Instr.iconst 0, 1, false), (37, Instr.bipush 73, 2, false), (39, Instr.invokevirtual 191, 3, false), (42, Instr.ifCond .ne 5, 3, false), (45, Instr.iconst 0, 1, false), (46, Instr.ireturn, 1, false), (47, Instr.aload_n 0, 1, false), (48, Instr.iconst 0, 1, false), (49, Instr.iconst 0, 1, false), (50, Instr.invokevirtual 184, 3, false), (53, Instr.istore_n 2, 1, false), (54, Instr.aload_n 0, 1, false), (55, Instr.aload_n 0, 1, false), (56, Instr.iload_n 2, 1, false), (57, Instr.invokevirtual 195, 3, false), (60, Instr.putfield 205, 3, false), (63, Instr.aload_n 0, 1, false), (64, Instr.iconst 0, 1, false), (65, Instr.iconst 1, 1, false), (66, Instr.invokevirtual 184, 3, false), (69, Instr.istore_n 3, 1, false), (70, Instr.aload_n 0, 1, false), (71, Instr.iconst 0, 1, false), (72, Instr.iconst 2, 1, false), (73, Instr.invokevirtual 184, 3, false), (76, Instr.istore 4, 2, false), (78, Instr.aload_n 0, 1, false), (79, Instr.getfield 205, 3, false), (82, Instr.ifCond .ne 5, 3, false), (85, Instr.iconst 0, 1, false), (86, Instr.ireturn, 1, false), (87, Instr.iload_n 1, 1, false), (88, Instr.bipush 80, 2, false), (90, Instr.if_icmp .ne 135, 3, false), (93, Instr.aload_n 0, 1, false), (94, Instr.aload_n 0, 1, false), (95, Instr.getfield 24, 3, false), (98, Instr.iconst 0, 1, false), (99, Instr.iaload, 1, false), (100, Instr.iconst 3, 1, false), (101, Instr.isub, 1, false), (102, Instr.putfield 208, 3, false), (105, Instr.aload_n 0, 1, false), (106, Instr.getfield 208, 3, false), (109, Instr.iconst 1, 1, false), (110, Instr.if_icmp .lt 33, 3, false), (113, Instr.aload_n 0, 1, false), (114, Instr.getfield 208, 3, false), (117, Instr.iconst 3, 1, false), (118, Instr.if_icmp .gt 25, 3, false), (121, Instr.aload_n 0, 1, false), (122, Instr.iconst 0, 1, false), (123, Instr.iconst 1, 1, false), (124, Instr.bipush 78, 2, false), (126, Instr.invokevirtual 191, 3, false), (129, Instr.ifCond .eq 14, 3, false), (132, Instr.aload_n 0, 1, false), (133, Instr.iconst 0, 1, false), (134, Instr.iconst 2, 1, false), (135, Instr.bipush 83, 2, false), (137, Instr.invokevirtual 191, 3, false), (140, Instr.ifCond .ne 5, 3, false), (143, Instr.iconst 0, 1, false), (144, Instr.ireturn, 1, false), (145, Instr.aload_n 0, 1, false), (146, Instr.aload_n 0, 1, false), (147, Instr.iload_n 3, 1, false), (148, Instr.aload_n 0, 1, false), (149, Instr.getfield 31, 3, false), (152, Instr.iload_n 3, 1, false), (153, Instr.iaload, 1, false), (154, Instr.invokevirtual 188, 3, false), (157, Instr.putfield 211, 3, false), (160, Instr.aload_n 0, 1, false), (161, Instr.aload_n 0, 1, false), (162, Instr.iload 4, 2, false), (164, Instr.invokevirtual 202, 3, false), (167, Instr.putfield 214, 3, false), (170, Instr.aload_n 0, 1, false), (171, Instr.getfield 211, 3, false), (174, Instr.ifCond .lt 14, 3, false), (177, Instr.aload_n 0, 1, false), (178, Instr.getfield 214, 3, false), (181, Instr.ifCond .le 7, 3, false), (184, Instr.iconst 1, 1, false), (185, Instr.goto 4, 3, false), (188, Instr.iconst 0, 1, false), (189, Instr.istore 5, 2, false), (191, Instr.iconst 0, 1, false), (192, Instr.istore 6, 2, false), (194, Instr.iload 6, 2, true), (196, Instr.aload_n 0, 1, false), (197, Instr.getfield 208, 3, false), (200, Instr.if_icmp .ge 22, 3, false), (203, Instr.iload 5, 2, false), (205, Instr.ifCond .eq 17, 3, false), (208, Instr.aload_n 0, 1, false), (209, Instr.iload 6, 2, false), (211, Instr.invokevirtual 217, 3, false), (214, Instr.istore 5, 2, false), (216, Instr.iinc 6 1, 3, false), (219, Instr.goto (-25), 3, false), (222, Instr.iload 5, 2, false), (224, Instr.ireturn, 1, false), (225, Instr.aload_n 0, 1, false), (226, Instr.getfield 24, 3, false), (229, Instr.iconst 0, 1, false), (230, Instr.iaload, 1, false), (231, Instr.iconst 3, 1, false), (232, Instr.if_icmp .ne 36, 3, false), (235, Instr.aload_n 0, 1, false), (236, Instr.iconst 0, 1, false), (237, Instr.iconst 1, 1, false), (238, Instr.bipush 79, 2, false), (240, Instr.invokevirtual 191, 3, false), (243, Instr.ifCond .eq 25, 3, false), (246, Instr.aload_n 0, 1, false), (247, Instr.iconst 0, 1, false), (248, Instr.iconst 2, 1, false), (249, Instr.iload_n 1, 1, false), (250, Instr.bipush 81, 2, false), (252, Instr.if_icmp .ne 8, 3, false), (255, Instr.bipush 86, 2, false), (257, Instr.goto 5, 3, false), (260, Instr.bipush 65, 2, false), (262, Instr.invokevirtual 191, 3, false), (265, Instr.ifCond .ne 5, 3, false), (268, Instr.iconst 0, 1, false), (269, Instr.ireturn, 1, false), (270, Instr.aload_n 0, 1, false), (271, Instr.aload_n 0, 1, false), (272, Instr.iload_n 3, 1, false), (273, Instr.invokevirtual 195, 3, false), (276, Instr.putfield 221, 3, false), (279, Instr.iload_n 1, 1, false), (280, Instr.bipush 81, 2, false), (282, Instr.if_icmp .ne 84, 3, false), (285, Instr.aload_n 0, 1, false), (286, Instr.getfield 34, 3, false), (289, Instr.iload 4, 2, false), (291, Instr.iaload, 1, false), (292, Instr.aload_n 0, 1, false), (293, Instr.getfield 31, 3, false), (296, Instr.iload 4, 2, false), (298, Instr.iaload, 1, false), (299, Instr.isub, 1, false), (300, Instr.iconst 1, 1, false), (301, Instr.if_icmp .ne 18, 3, false), (304, Instr.aload_n 0, 1, false), (305, Instr.getfield 37, 3, false), (308, Instr.aload_n 0, 1, false), (309, Instr.getfield 31, 3, false), (312, Instr.iload 4, 2, false), (314, Instr.iaload, 1, false), (315, Instr.caload, 1, false), (316, Instr.goto 5, 3, false), (319, Instr.bipush 32, 2, false), (321, Instr.istore 5, 2, false), (323, Instr.aload_n 0, 1, false), (324, Instr.iload 5, 2, false), (326, Instr.bipush 65, 2, false), (328, Instr.if_icmp .ne 7, 3, false), (331, Instr.iconst 1, 1, false), (332, Instr.goto 4, 3, false), (335, Instr.iconst 0, 1, false), (336, Instr.putfield 224, 3, false), (339, Instr.aload_n 0, 1, false), (340, Instr.getfield 221, 3, false), (343, Instr.ifCond .le 21, 3, false), (346, Instr.iload 5, 2, false), (348, Instr.bipush 65, 2, false), (350, Instr.if_icmp .eq 10, 3, false), (353, Instr.iload 5, 2, false), (355, Instr.bipush 82, 2, false), (357, Instr.if_icmp .ne 7, 3, false), (360, Instr.iconst 1, 1, false), (361, Instr.goto 4, 3, false), (364, Instr.iconst 0, 1, false), (365, Instr.ireturn, 1, false), (366, Instr.aload_n 0, 1, false), (367, Instr.getfield 55, 3, false), (370, Instr.iconst 0, 1, false), (371, Instr.aload_n 0, 1, false), (372, Instr.iload 4, 2, false), (374, Instr.invokevirtual 202, 3, false), (377, Instr.iastore, 1, false), (378, Instr.aload_n 0, 1, false), (379, Instr.getfield 221, 3, false), (382, Instr.ifCond .le 16, 3, false), (385, Instr.aload_n 0, 1, false), (386, Instr.getfield 55, 3, false), (389, Instr.iconst 0, 1, false), (390, Instr.iaload, 1, false), (391, Instr.ifCond .le 7, 3, false), (394, Instr.iconst 1, 1, false), (395, Instr.goto 4, 3, false), (398, Instr.iconst 0, 1, false), (399, Instr.ireturn, 1, false)]
/-- PaymentHubModel.isRight(II)Z -/
def zi_180 : zIs := [(0, Instr.sipush 1000, 3, false), (3, Instr.bipush 100, 2, false), (5, Instr.iload_n 0, 1, false), (6, Instr.imul, 1, false), (7, Instr.iadd, 1, false), (8, Instr.iload_n 1, 1, false), (9, Instr.iadd, 1, false), (10, Instr.bipush 97, 2, false), (12, Instr.irem, 1, false), (13, Instr.iconst 1, 1, false), (14, Instr.if_icmp .ne 7, 3, false), (17, Instr.iconst 1, 1, false), (18, Instr.goto 4, 3, false), (21, Instr.iconst 0, 1, false), (22, Instr.ireturn, 1, false)]
/-- PaymentHubModel.known(I)I -/
def zi_181 : zIs := [(0, Instr.iconst (-1), 1, false), (1, Instr.istore_n 2, 1, false), (2, Instr.iconst 0, 1, false), (3, Instr.istore_n 3, 1, false), (4, Instr.iload_n 3, 1, true), (5, Instr.aload_n 0, 1, false), (6, Instr.getfield 227, 3, false), (9, Instr.if_icmp .ge 25, 3, false), (12, Instr.aload_n 0, 1, false), (13, Instr.getfield 67, 3, false), (16, Instr.iload_n 3, 1, false), (17, Instr.iaload, 1, false), (18, Instr.iload_n 1, 1, false), (19, Instr.if_icmp .ne 7, 3, false), (22, Instr.iload_n 3, 1, false), (23, Instr.goto 4, 3, false), (26, Instr.iload_n 2, 1, false), (27, Instr.istore_n 2, 1, false), (28, Instr.iinc 3 1, 3, false), (31, Instr.goto (-27), 3, false), (34, Instr.iload_n 2, 1, false), (35, Instr.ireturn, 1, false)]
/-- PaymentHubModel.brokenByPayment()I -/
def zi_182 : zIs := [(0, Instr.iconst 0, 1, false), (1, Instr.istore_n 1, 1, false), (2, Instr.iconst 1, 1, false), (3, Instr.istore_n 2, 1, false), (4, Instr.iconst 1, 1, false), (5, Instr.istore_n 3, 1, false), (6, Instr.iconst 1, 1, false), (7, Instr.istore 4, 2, false), (9, Instr.iconst 0, 1, false), (10, Instr.istore 5, 2, false), (12, Instr.iload 5, 2, true), (14, Instr.aload_n 0, 1, false), (15, Instr.getfield 208, 3, false), (18, Instr.if_icmp .ge 173, 3, false), (21, Instr.iload_n 1, 1, false), (22, Instr.aload_n 0, 1, false), (23, Instr.getfield 55, 3, false), (26, Instr.iload 5, 2, false), (28, Instr.iaload, 1, false), (29, Instr.iadd, 1, false), (30, Instr.istore_n 1, 1, false), (31, Instr.iload_n 2, 1, false), (32, Instr.ifCond .eq 53, 3, false), (35, Instr.aload_n 0, 1, false), (36, Instr.getfield 46, 3, false), (39, Instr.iload 5, 2, false), (41, Instr.iaload, 1, false), (42, Instr.aload_n 0, 1, false), (43, Instr.getfield 52, 3, false), (46, Instr.iconst 2, 1, false), (47, Instr.iload 5, 2, false), (49, Instr.imul, 1, false), (50, Instr.iaload, 1, false), (51, Instr.invokestatic 230, 3, false), (54, Instr.ifCond .eq 31, 3, false), (57, Instr.aload_n 0, 1, false), (58, Instr.getfield 49, 3, false), (61, Instr.iload 5, 2, false), (63, Instr.iaload, 1, false), (64, Instr.aload_n 0, 1, false), (65, Instr.getfield 52, 3, false), (68, Instr.iconst 2, 1, false), (69, Instr.iload 5, 2, false), (71, Instr.imul, 1, false), (72, Instr.iconst 1, 1, false), (73, Instr.iadd, 1, false), (74, Instr.iaload, 1, false), (75, Instr.invokestatic 230, 3, false), (78, Instr.ifCond .eq 7, 3, false), (81, Instr.iconst 1, 1, false), (82, Instr.goto 4, 3, false), (85, Instr.iconst 0, 1, false), (86, Instr.istore_n 2, 1, false), (87, Instr.iload_n 3, 1, false), (88, Instr.ifCond .eq 24, 3, false), (91, Instr.aload_n 0, 1, false), (92, Instr.getfield 46, 3, false), (95, Instr.iload 5, 2, false), (97, Instr.iaload, 1, false), (98, Instr.aload_n 0, 1, false), (99, Instr.getfield 49, 3, false), (102, Instr.iload 5, 2, false), (104, Instr.iaload, 1, false), (105, Instr.if_icmp .eq 7, 3, false), (108, Instr.iconst 1, 1, false), (109, Instr.goto 4, 3, false), (112, Instr.iconst 0, 1, false), (113, Instr.istore_n 3, 1, false), (114, Instr.iload 4, 2, false), (116, Instr.ifCond .eq 21, 3, false), (119, Instr.aload_n 0, 1, false), (120, Instr.aload_n 0, 1, false), (121, Instr.getfield 43, 3, false), (124, Instr.iload 5, 2, false), (126, Instr.iaload, 1, false), (127, Instr.invokevirtual 234, 3, false), (130, Instr.ifCond .ge 7, 3, false), (133, Instr.iconst 1, 1, false), (134, Instr.goto 4, 3, false), (137, Instr.iconst 0, 1, false), (138, Instr.istore 4, 2, false), (140, Instr.iconst 0, 1, false), (141, Instr.istore 6, 2, false), (143, Instr.iload 6, 2, true), (145, Instr.iload 5, 2, false), (147, Instr.if_icmp .ge 38, 3, false), (150, Instr.iload 4, 2, false), (152, Instr.ifCond .eq 24, 3, false), (155, Instr.aload_n 0, 1, false), (156, Instr.getfield 43, 3, false), (159, Instr.iload 6, 2, false), (161, Instr.iaload, 1, false), (162, Instr.aload_n 0, 1, false), (163, Instr.getfield 43, 3, false), (166, Instr.iload 5, 2, false), (168, Instr.iaload, 1, false), (169, Instr.if_icmp .eq 7, 3, false), (172, Instr.iconst 1, 1, false), (173, Instr.goto 4, 3, false), (176, Instr.iconst 0, 1, false), (177, Instr.istore 4, 2, false), (179, Instr.iinc 6 1, 3, false), (182, Instr.goto (-39), 3, false), (185, Instr.iinc 5 1, 3, false), (188, Instr.goto (-176), 3, false), (191, Instr.aload_n 0, 1, false), (192, Instr.getfield 211, 3, false), (195, Instr.aload_n 0, 1, false), (196, Instr.getfield 208, 3, false), (199, Instr.if_icmp .eq 5, 3, false), (202, Instr.iconst 4, 1, false), (203, Instr.ireturn, 1, false), (204, Instr.aload_n 0, 1, false), (205, Instr.getfield 214, 3, false), (208, Instr.iload_n 1, 1, false), (209, Instr.if_icmp .eq 5, 3, false), (212, Instr.iconst 5, 1, false), (213, Instr.ireturn, 1, false), (214, Instr.iload_n 2, 1, false), (215, Instr.ifCond .ne 6, 3, false), (218, Instr.bipush 6, 2, false), (220, Instr.ireturn, 1, false), (221, Instr.iload_n 3, 1, false), (222, Instr.ifCond .ne 6, 3, false), (225, Instr.bipush 7, 2, false), (227, Instr.ireturn, 1, false), (228, Instr.iload 4, 2, false), (230, Instr.ifCond .ne 6, 3, false), (233, Instr.bipush 8, 2, false), (235, Instr.ireturn, 1, false), (236, Instr.aload_n 0, 1, false), (237, Instr.getfield 227, 3, false), (240, Instr.aload_n 0, 1, false), (241, Instr.getfield 208, 3, false), (244, Instr.iadd, 1, false), (245, Instr.bipush 20, 2, false), (247, Instr.if_icmp .gt 13, 3, false), (250, Instr.aload_n 0, 1, false), (251, Instr.getfield 237, 3, false), (254, Instr.sipush 4000, 3, false), (257, Instr.if_icmp .lt 8, 3, false), (260, Instr.bipush 9, 2, false), (262, Instr.goto 4, 3, false), (265, Instr.iconst 0, 1, false), (266, Instr.ireturn, 1, false)]
/-- PaymentHubModel.brokenByAnswer(Z)I -/
def zi_183 : zIs := [(0, Instr.aload_n 0, 1, false), (1, Instr.aload_n 0, 1, false), (2, Instr.getfield 221, 3, false), (5, Instr.invokevirtual 234, 3, false), (8, Instr.istore_n 2, 1, false), (9, Instr.aload_n 0, 1, false), (10, Instr.getfield 237, 3, false), (13, Instr.sipush 4000, 3, false), (16, Instr.if_icmp .lt 6, 3, false), (19, Instr.bipush 9, 2, false), (21, Instr.ireturn, 1, false), (22, Instr.iload_n 2, 1, false), (23, Instr.ifCond .ge 6, 3, false), (26, Instr.bipush 10, 2, false), (28, Instr.ireturn, 1, false), (29, Instr.aload_n 0, 1, false), (30, Instr.getfield 79, 3, false), (33, Instr.iload_n 2, 1, false), (34, Instr.iaload, 1, false), (35, Instr.iload_n 1, 1, false), (36, Instr.ifCond .eq 7, 3, false), (39, Instr.iconst 4, 1, false), (40, Instr.goto 4, 3, false), (43, Instr.iconst 3, 1, false), (44, Instr.if_icmp .eq 6, 3, false), (47, Instr.bipush 11, 2, false), (49, Instr.ireturn, 1, false), (50, Instr.iload_n 1, 1, false), (51, Instr.ifCond .ne 5, 3, false), (54, Instr.iconst 0, 1, false), (55, Instr.ireturn, 1, false), (56, Instr.aload_n 0, 1, false), (57, Instr.getfield 55, 3, false), (60, Instr.iconst 0, 1, false), (61, Instr.iaload, 1, false), (62, Instr.aload_n 0, 1, false), (63, Instr.getfield 70, 3, false), (66, Instr.iload_n 2, 1, false), (67, Instr.iaload, 1, false), (68, Instr.if_icmp .le 6, 3, false), (71, Instr.bipush 12, 2, false), (73, Instr.ireturn, 1, false), (74, Instr.aload_n 0, 1, false), (75, Instr.getfield 76, 3, false), (78, Instr.iload_n 2, 1, false), (79, Instr.iaload, 1, false), (80, Instr.istore_n 3, 1, false), (81, Instr.aload_n 0, 1, false), (82, Instr.getfield 88, 3, false), (85, Instr.iload_n 3, 1, false), (86, Instr.iaload, 1, false), (87, Instr.aload_n 0, 1, false), (88, Instr.getfield 91, 3, false), (91, Instr.iload_n 3, 1, false), (92, Instr.iaload, 1, false), (93, Instr.isub, 1, false), (94, Instr.aload_n 0, 1, false), (95, Instr.getfield 116, 3, false), (98, Instr.iadd, 1, false), (99, Instr.aload_n 0, 1, false), (100, Instr.getfield 55, 3, false), (103, Instr.iconst 0, 1, false), (104, Instr.iaload, 1, false), (105, Instr.if_icmp .ge 8, 3, false), (108, Instr.bipush 13, 2, false), (110, Instr.goto 4, 3, false), (113, Instr.iconst 0, 1, false), (114, Instr.ireturn, 1, false)]
/-- PaymentHubModel.broken()I -/
def zi_184 : zIs := [(0, Instr.aload_n 0, 1, false), (1, Instr.invokevirtual 240, 3, false), (4, Instr.ifCond .ne 5, 3, false), (7, Instr.iconst 1, 1, false), (8, Instr.ireturn, 1, false), (9, Instr.aload_n 0, 1, false), (10, Instr.invokevirtual 244, 3, false), (13, Instr.ifCond .ne 5, 3, false), (16, Instr.iconst 2, 1, false), (17, Instr.ireturn, 1, false), (18, Instr.iconst 0, 1, false), (19, Instr.istore_n 1, 1, false), (20, Instr.iload_n 1, 1, true), (21, Instr.aload_n 0, 1, false), (22, Instr.getfield 247, 3, false), (25, Instr.if_icmp .ge 24, 3, false), (28, Instr.aload_n 0, 1, false), (29, Instr.getfield 64, 3, false), (32, Instr.iload_n 1, 1, false), (33, Instr.iaload, 1, false), (34, Instr.aload_n 0, 1, false), (35, Instr.getfield 205, 3, false), (38, Instr.if_icmp .ne 5, 3, false), (41, Instr.iconst 3, 1, false), (42, Instr.ireturn, 1, false), (43, Instr.iinc 1 1, 3, false), (46, Instr.goto (-26), 3, false), (49, Instr.aload_n 0, 1, false), (50, Instr.getfield 17, 3, false), (53, Instr.iconst 0, 1, false), (54, Instr.caload, 1, false), (55, Instr.bipush 80, 2, false), (57, Instr.if_icmp .ne 10, 3, false), (60, Instr.aload_n 0, 1, false), (61, Instr.invokevirtual 250, 3, false), (64, Instr.goto 23, 3, false), (67, Instr.aload_n 0, 1, false), (68, Instr.aload_n 0, 1, false), (69, Instr.getfield 17, 3, false), (72, Instr.iconst 0, 1, false), (73, Instr.caload, 1, false), (74, Instr.bipush 82, 2, false), (76, Instr.if_icmp .ne 7, 3, false), (79, Instr.iconst 1, 1, false), (80, Instr.goto 4, 3, false), (83, Instr.iconst 0, 1, false), (84, Instr.invokevirtual 253, 3, false), (87, Instr.ireturn, 1, false)]
/-- PaymentHubModel.byteOut(I)V -/
def zi_185 : zIs := [(0, Instr.aload_n 0, 1, false), (1, Instr.getfield 58, 3, false), (4, Instr.aload_n 0, 1, false), (5, Instr.getfield 257, 3, false), (8, Instr.iload_n 1, 1, false), (9, Instr.iastore, 1, false), (10, Instr.aload_n 0, 1, false), (11, Instr.dup, 1, false), (12, Instr.getfield 257, 3, false), (15, Instr.iconst 1, 1, false), (16, Instr.iadd, 1, false), (17, Instr.putfield 257, 3, false), (20, Instr.return_, 1, false)]
/-- PaymentHubModel.tagOut(CZ)V -/
def zi_186 : zIs := [(0, Instr.aload_n 0, 1, false), (1, Instr.bipush 60, 2, false), (3, Instr.invokevirtual 260, 3, false), (6, Instr.iload_n 2, 1, false), (7, Instr.ifCond .eq 9, 3, false), (10, Instr.aload_n 0, 1, false), (11, Instr.bipush 47, 2, false), (13, Instr.invokevirtual 260, 3, false), (16, Instr.aload_n 0, 1, false), (17, Instr.iload_n 1, 1, false), (18, Instr.invokevirtual 260, 3, false), (21, Instr.aload_n 0, 1, false), (22, Instr.bipush 62, 2, false), (24, Instr.invokevirtual 260, 3, false), (27, Instr.return_, 1, false)]
/-- PaymentHubModel.numberOut(I)V -/
def zi_187 : zIs := [(0, Instr.iconst 1, 1, false), (1, Instr.istore_n 2, 1, false), (2, Instr.iload_n 1, 1, true), (3, Instr.iload_n 2, 1, false), (4, Instr.idiv, 1, false), (5, Instr.bipush 10, 2, false), (7, Instr.if_icmp .lt 11, 3, false), (10, Instr.iload_n 2, 1, false), (11, Instr.bipush 10, 2, false), (13, Instr.imul, 1, false), (14, Instr.istore_n 2, 1, false), (15, Instr.goto (-13), 3, false), (18, Instr.iload_n 2, 1, true), (19, Instr.ifCond .le 24, 3, false), (22, Instr.aload_n 0, 1, false), (23, Instr.bipush 48, 2, false), (25, Instr.iload_n 1, 1, false), (26, Instr.iload_n 2, 1, false), (27, Instr.idiv, 1, false), (28, Instr.bipush 10, 2, false), (30, Instr.irem, 1, false), (31, Instr.iadd, 1, false), (32, Instr.invokevirtual 260, 3, false), (35, Instr.iload_n 2, 1, false), (36, Instr.bipush 10, 2, false), (38, Instr.idiv, 1, false), (39, Instr.istore_n 2, 1, false), (40, Instr.goto (-22), 3, false), (43, Instr.return_, 1, false)]
/-- PaymentHubModel.leafOut(I)V -/
def zi_188 : zIs := [(0, Instr.aload_n 0, 1, false), (1, Instr.getfield 17, 3, false), (4, Instr.iload_n 1, 1, false), (5, Instr.caload, 1, false), (6, Instr.istore_n 2, 1, false), (7, Instr.iload_n 2, 1, false), (8, Instr.bipush 83, 2, false), (10, Instr.if_icmp .eq 9, 3, false), (13, Instr.iload_n 2, 1, false), (14, Instr.bipush 65, 2, false), (16, Instr.if_icmp .ne 7, 3, false), (19, Instr.iconst 1, 1, false), (20, Instr.goto 4, 3, false), (23, Instr.iconst 0, 1, false), (24, Instr.istore_n 3, 1, false), (25, Instr.aload_n 0, 1, false), (26, Instr.iload_n 2, 1, false), (27, Instr.iconst 0, 1, false), (28, Instr.invokevirtual 264, 3, false), (31, Instr.iload_n 3, 1, false), (32, Instr.ifCond .eq 55, 3, false), (35, Instr.aload_n 0, 1, false), (36, Instr.iload_n 1, 1, false), (37, Instr.invokevirtual 202, 3, false), (40, Instr.istore 4, 2, false), (42, Instr.aload_n 0, 1, false), (43, Instr.iload 4, 2, false), (45, Instr.bipush 100, 2, false), (47, Instr.idiv, 1, false), (48, Instr.invokevirtual 268, 3, false), (51, Instr.aload_n 0, 1, false), (52, Instr.bipush 46, 2, false), (54, Instr.invokevirtual 260, 3, false), (57, Instr.aload_n 0, 1, false), (58, Instr.bipush 48, 2, false), (60, Instr.iload 4, 2, false), (62, Instr.bipush 10, 2, false), (64, Instr.idiv, 1, false), (65, Instr.bipush 10, 2, false), (67, Instr.irem, 1, false), (68, Instr.iadd, 1, false), (69, Instr.invokevirtual 260, 3, false), (72, Instr.aload_n 0, 1, false), (73, Instr.bipush 48, 2, false), (75, Instr.iload 4, 2, false), (77, Instr.bipush 10, 2, false), (79, Instr.irem, 1, false), (80, Instr.iadd, 1, false), (81, Instr.invokevirtual 260, 3, false), (84, Instr.goto 67, 3, false), (87, Instr.iload_n 2, 1, false), (88, Instr.bipush 78, 2, false), (90, Instr.if_icmp .ne 25, 3, false), (93, Instr.aload_n 0, 1, false), (94, Instr.iload_n 1, 1, false), (95, Instr.aload_n 0, 1, false), (96, Instr.getfield 31, 3, false), (99, Instr.iload_n 1, 1, false), (100, Instr.iaload, 1, false), (101, Instr.invokevirtual 188, 3, false), (104, Instr.istore 4, 2, false), (106, Instr.aload_n 0, 1, false), (107, Instr.iload 4, 2, false), (109, Instr.invokevirtual 268, 3, false), (112, Instr.goto 39, 3, false), (115, Instr.aload_n 0, 1, false), (116, Instr.getfield 31, 3, false), (119, Instr.iload_n 1, 1, false), (120, Instr.iaload, 1, false), (121, Instr.istore 4, 2, false), (123, Instr.iload 4, 2, true), (125, Instr.aload_n 0, 1, false), (126, Instr.getfield 34, 3, false), (129, Instr.iload_n 1, 1, false), (130, Instr.iaload, 1, false), (131, Instr.if_icmp .ge 20, 3, false), (134, Instr.aload_n 0, 1, false), (135, Instr.aload_n 0, 1, false), (136, Instr.getfield 37, 3, false), (139, Instr.iload 4, 2, false), (141, Instr.caload, 1, false), (142, Instr.invokevirtual 260, 3, false), (145, Instr.iinc 4 1, 3, false), (148, Instr.goto (-25), 3, false), (151, Instr.aload_n 0, 1, false), (152, Instr.iload_n 2, 1, false), (153, Instr.iconst 1, 1, false), (154, Instr.invokevirtual 264, 3, false), (157, Instr.return_, 1, false)]
/-- PaymentHubModel.canonical()V -/
def zi_189 : zIs := [(0, Instr.aload_n 0, 1, false), (1, Instr.iconst 0, 1, false), (2, Instr.putfield 257, 3, false), (5, Instr.aload_n 0, 1, false), (6, Instr.aload_n 0, 1, false), (7, Instr.getfield 17, 3, false), (10, Instr.iconst 0, 1, false), (11, Instr.caload, 1, false), (12, Instr.iconst 0, 1, false), (13, Instr.invokevirtual 264, 3, false), (16, Instr.iconst 1, 1, false), (17, Instr.istore_n 1, 1, false), (18, Instr.iload_n 1, 1, true), (19, Instr.aload_n 0, 1, false), (20, Instr.getfield 162, 3, false), (23, Instr.if_icmp .ge 74, 3, false), (26, Instr.aload_n 0, 1, false), (27, Instr.getfield 24, 3, false), (30, Instr.iload_n 1, 1, false), (31, Instr.iaload, 1, false), (32, Instr.ifCond .le 45, 3, false), (35, Instr.aload_n 0, 1, false), (36, Instr.bipush 84, 2, false), (38, Instr.iconst 0, 1, false), (39, Instr.invokevirtual 264, 3, false), (42, Instr.iconst 0, 1, false), (43, Instr.istore_n 2, 1, false), (44, Instr.iload_n 2, 1, true), (45, Instr.iconst 4, 1, false), (46, Instr.if_icmp .ge 21, 3, false), (49, Instr.aload_n 0, 1, false), (50, Instr.iload_n 1, 1, false), (51, Instr.iload_n 2, 1, false), (52, Instr.invokevirtual 184, 3, false), (55, Instr.istore_n 3, 1, false), (56, Instr.aload_n 0, 1, false), (57, Instr.iload_n 3, 1, false), (58, Instr.invokevirtual 271, 3, false), (61, Instr.iinc 2 1, 3, false), (64, Instr.goto (-20), 3, false), (67, Instr.aload_n 0, 1, false), (68, Instr.bipush 84, 2, false), (70, Instr.iconst 1, 1, false), (71, Instr.invokevirtual 264, 3, false), (74, Instr.goto 17, 3, false), (77, Instr.aload_n 0, 1, false), (78, Instr.getfield 20, 3, false), (81, Instr.iload_n 1, 1, false), (82, Instr.iaload, 1, false), (83, Instr.ifCond .ne 8, 3, false), (86, Instr.aload_n 0, 1, false), (87, Instr.iload_n 1, 1, false), (88, Instr.invokevirtual 271, 3, false), (91, Instr.iinc 1 1, 3, false), (94, Instr.goto (-76), 3, false), (97, Instr.aload_n 0, 1, false), (98, Instr.aload_n 0, 1, false), (99, Instr.getfield 17, 3, false), (102, Instr.iconst 0, 1, false), (103, Instr.caload, 1, false), (104, Instr.iconst 1, 1, false), (105, Instr.invokevirtual 264, 3, false), (108, Instr.return_, 1, false)]
/-- PaymentHubModel.write(I)Z -/
def zi_190 : zIs := [(0, Instr.aload_n 0, 1, false), (1, Instr.getfield 237, 3, false), (4, Instr.istore_n 2, 1, false), (5, Instr.iload_n 1, 1, false), (6, Instr.aload_n 0, 1, false), (7, Instr.getfield 257, 3, false), (10, Instr.iadd, 1, false), (11, Instr.istore_n 3, 1, false), (12, Instr.iconst 0, 1, false), (13, Instr.istore 4, 2, false), (15, Instr.iload 4, 2, true), (17, Instr.aload_n 0, 1, false), (18, Instr.getfield 257, 3, false), (21, Instr.if_icmp .ge 19, 3, false), (24, Instr.iload_n 3, 1, false), (25, Instr.aload_n 0, 1, false), (26, Instr.getfield 58, 3, false), (29, Instr.iload 4, 2, false), (31, Instr.iaload, 1, false), (32, Instr.iadd, 1, false), (33, Instr.istore_n 3, 1, false), (34, Instr.iinc 4 1, 3, false), (37, Instr.goto (-22), 3, false), (40, Instr.aload_n 0, 1, false), (41, Instr.getfield 257, 3, false), (44, Instr.iconst 3, 1, false), (45, Instr.iadd, 1, false), (46, Instr.istore 4, 2, false), (48, Instr.aload_n 0, 1, false), (49, Instr.getfield 7, 3, false), (52, Instr.ifCond .ne 19, 3, false), (55, Instr.aload_n 0, 1, false), (56, Instr.getfield 274, 3, false), (59, Instr.iload 4, 2, false), (61, Instr.if_icmp .ge 10, 3, false), (64, Instr.aload_n 0, 1, false), (65, Instr.getfield 274, 3, false), (68, Instr.goto 19, 3, false), (71, Instr.aload_n 0, 1, false), (72, Instr.getfield 7, 3, false), (75, Instr.ifCond .ne 10, 3, false), (78, Instr.iload 4, 2, false), (80, Instr.iconst 1, 1, false), (81, Instr.isub, 1, false), (82, Instr.goto 5, 3, false), (85, Instr.iload 4, 2, false), (87, Instr.istore 5, 2, false), (89, Instr.iconst 0, 1, false), (90, Instr.istore 6, 2, false), (92, Instr.iload 6, 2, true), (94, Instr.iload 5, 2, false), (96, Instr.if_icmp .ge 66, 3, false), (99, Instr.aload_n 0, 1, false), (100, Instr.getfield 61, 3, false), (103, Instr.iload_n 2, 1, false), (104, Instr.iload 6, 2, false), (106, Instr.iadd, 1, false), (107, Instr.iload 6, 2, false), (109, Instr.ifCond .ne 7, 3, false), (112, Instr.iload_n 1, 1, false), (113, Instr.goto 42, 3, false), (116, Instr.iload 6, 2, false), (118, Instr.iconst 1, 1, false), (119, Instr.if_icmp .ne 10, 3, false), (122, Instr.aload_n 0, 1, false), (123, Instr.getfield 257, 3, false), (126, Instr.goto 29, 3, false), (129, Instr.iload 6, 2, false), (131, Instr.iload 4, 2, false), (133, Instr.iconst 1, 1, false), (134, Instr.isub, 1, false), (135, Instr.if_icmp .ne 11, 3, false), (138, Instr.iload_n 3, 1, false), (139, Instr.sipush 251, 3, false), (142, Instr.irem, 1, false), (143, Instr.goto 12, 3, false), (146, Instr.aload_n 0, 1, false), (147, Instr.getfield 58, 3, false), (150, Instr.iload 6, 2, false), (152, Instr.iconst 2, 1, false), (153, Instr.isub, 1, false), (154, Instr.iaload, 1, false), (155, Instr.iastore, 1, false), (156, Instr.iinc 6 1, 3, false), (159, Instr.goto (-67), 3, false), (162, Instr.aload_n 0, 1, false), (163, Instr.dup, 1, false), (164, Instr.getfield 237, 3, false), (167, Instr.iload 5, 2, false), (169, Instr.iadd, 1, false), (170, Instr.putfield 237, 3, false), (173, Instr.aload_n 0, 1, false), (174, Instr.getfield 7, 3, false), (177, Instr.ifCond .ne 7, 3, false), (180, Instr.iconst 1, 1, false), (181, Instr.goto 4, 3, false), (184, Instr.iconst 0, 1, false), (185, Instr.istore 6, 2, false), (187, Instr.aload_n 0, 1, false), (188, Instr.aload_n 0, 1, false), (189, Instr.getfield 7, 3, false), (192, Instr.ifCond .ge 7, 3, false), (195, Instr.iconst (-1), 1, false), (196, Instr.goto 9, 3, false), (199, Instr.aload_n 0, 1, false), (200, Instr.getfield 7, 3, false), (203, Instr.iconst 1, 1, false), (204, Instr.isub, 1, false), (205, Instr.putfield 7, 3, false), (208, Instr.aload_n 0, 1, false), (209, Instr.aload_n 0, 1, false), (210, Instr.getfield 123, 3, false), (213, Instr.ifCond .ne 8, 3, false), (216, Instr.iload 6, 2, false), (218, Instr.ifCond .eq 7, 3, false), (221, Instr.iconst 1, 1, false), (222, Instr.goto 4, 3, false), (225, Instr.iconst 0, 1, false), (226, Instr.putfield 123, 3, false), (229, Instr.aload_n 0, 1, false), (230, Instr.invokevirtual 119, 3, false), (233, Instr.pop, 1, false), (234, Instr.iload 6, 2, false), (236, Instr.ifCond .ne 7, 3, false), (239, Instr.iconst 1, 1, false), (240, Instr.goto 4, 3, false), (243, Instr.iconst 0, 1, false), (244, Instr.ireturn, 1, false)]
/-- PaymentHubModel.writeOne(II)Z -/
def zi_191 : zIs := [(0, Instr.aload_n 0, 1, false), (1, Instr.iconst 0, 1, false), (2, Instr.putfield 257, 3, false), (5, Instr.aload_n 0, 1, false), (6, Instr.iload_n 2, 1, false), (7, Instr.invokevirtual 260, 3, false), (10, Instr.aload_n 0, 1, false), (11, Instr.iload_n 1, 1, false), (12, Instr.invokevirtual 277, 3, false), (15, Instr.ireturn, 1, false)]
/-- PaymentHubModel.isTag(IC)Z -/
def zi_192 : zIs := [(0, Instr.aload_n 0, 1, false), (1, Instr.getfield 61, 3, false), (4, Instr.iload_n 1, 1, false), (5, Instr.iaload, 1, false), (6, Instr.bipush 60, 2, false), (8, Instr.if_icmp .ne 32, 3, false), (11, Instr.aload_n 0, 1, false), (12, Instr.getfield 61, 3, false), (15, Instr.iload_n 1, 1, false), (16, Instr.iconst 1, 1, false), (17, Instr.iadd, 1, false), (18, Instr.iaload, 1, false), (19, Instr.iload_n 2, 1, false), (20, Instr.if_icmp .ne 20, 3, false), (23, Instr.aload_n 0, 1, false), (24, Instr.getfield 61, 3, false), (27, Instr.iload_n 1, 1, false), (28, Instr.iconst 2, 1, false), (29, Instr.iadd, 1, false), (30, Instr.iaload, 1, false), (31, Instr.bipush 62, 2, false), (33, Instr.if_icmp .ne 7, 3, false), (36, Instr.iconst 1, 1, false), (37, Instr.goto 4, 3, false), (40, Instr.iconst 0, 1, false), (41, Instr.ireturn, 1, false)]
/-- PaymentHubModel.next(IC)I -/
def zi_193 : zIs := [(0, Instr.iload_n 1, 1, false), (1, Instr.istore_n 3, 1, false), (2, Instr.iload_n 3, 1, true), (3, Instr.iconst 3, 1, false), (4, Instr.iadd, 1, false), (5, Instr.aload_n 0, 1, false), (6, Instr.getfield 237, 3, false), (9, Instr.if_icmp .ge 18, 3, false), (12, Instr.aload_n 0, 1, false), (13, Instr.iload_n 3, 1, false), (14, Instr.iload_n 2, 1, false), (15, Instr.invokevirtual 280, 3, false), (18, Instr.ifCond .ne 9, 3, false), (21, Instr.iinc 3 1, 3, false), (24, Instr.goto (-22), 3, false), (27, Instr.iload_n 3, 1, false), (28, Instr.iconst 3, 1, false), (29, Instr.iadd, 1, false), (30, Instr.ireturn, 1, false)]
/-- PaymentHubModel.nameAt(I)I -/
def zi_194 : zIs := [(0, Instr.iconst 0, 1, false), (1, Instr.istore_n 2, 1, false), (2, Instr.iload_n 1, 1, false), (3, Instr.istore_n 3, 1, false), (4, Instr.iload_n 3, 1, true), (5, Instr.aload_n 0, 1, false), (6, Instr.getfield 237, 3, false), (9, Instr.if_icmp .ge 63, 3, false), (12, Instr.aload_n 0, 1, false), (13, Instr.getfield 61, 3, false), (16, Instr.iload_n 3, 1, false), (17, Instr.iaload, 1, false), (18, Instr.bipush 60, 2, false), (20, Instr.if_icmp .eq 52, 3, false), (23, Instr.bipush 37, 2, false), (25, Instr.iload_n 2, 1, false), (26, Instr.imul, 1, false), (27, Instr.aload_n 0, 1, false), (28, Instr.getfield 61, 3, false), (31, Instr.iload_n 3, 1, false), (32, Instr.iaload, 1, false), (33, Instr.bipush 57, 2, false), (35, Instr.if_icmp .gt 17, 3, false), (38, Instr.aload_n 0, 1, false), (39, Instr.getfield 61, 3, false), (42, Instr.iload_n 3, 1, false), (43, Instr.iaload, 1, false), (44, Instr.bipush 48, 2, false), (46, Instr.isub, 1, false), (47, Instr.iconst 1, 1, false), (48, Instr.iadd, 1, false), (49, Instr.goto 15, 3, false), (52, Instr.aload_n 0, 1, false), (53, Instr.getfield 61, 3, false), (56, Instr.iload_n 3, 1, false), (57, Instr.iaload, 1, false), (58, Instr.bipush 97, 2, false), (60, Instr.isub, 1, false), (61, Instr.bipush 11, 2, false), (63, Instr.iadd, 1, false), (64, Instr.iadd, 1, false), (65, Instr.istore_n 2, 1, false), (66, Instr.iinc 3 1, 3, false), (69, Instr.goto (-65), 3, false), (72, Instr.iload_n 2, 1, false), (73, Instr.ireturn, 1, false)]
/-- PaymentHubModel.amountAt(I)I -/
def zi_195 : zIs := [(0, Instr.iconst 0, 1, false), (1, Instr.istore_n 2, 1, false), (2, Instr.iload_n 1, 1, false), (3, Instr.istore_n 3, 1, false), (4, Instr.iload_n 3, 1, true), (5, Instr.aload_n 0, 1, false), (6, Instr.getfield 237, 3, false), (9, Instr.if_icmp .ge 50, 3, false), (12, Instr.aload_n 0, 1, false), (13, Instr.getfield 61, 3, false), (16, Instr.iload_n 3, 1, false), (17, Instr.iaload, 1, false), (18, Instr.bipush 60, 2, false), (20, Instr.if_icmp .eq 39, 3, false), (23, Instr.aload_n 0, 1, false), (24, Instr.getfield 61, 3, false), (27, Instr.iload_n 3, 1, false), (28, Instr.iaload, 1, false), (29, Instr.bipush 46, 2, false), (31, Instr.if_icmp .ne 7, 3, false), (34, Instr.iload_n 2, 1, false), (35, Instr.goto 17, 3, false), (38, Instr.bipush 10, 2, false), (40, Instr.iload_n 2, 1, false), (41, Instr.imul, 1, false), (42, Instr.aload_n 0, 1, false), (43, Instr.getfield 61, 3, false), (46, Instr.iload_n 3, 1, false), (47, Instr.iaload, 1, false), (48, Instr.iadd, 1, false), (49, Instr.bipush 48, 2, false), (51, Instr.isub, 1, false), (52, Instr.istore_n 2, 1, false), (53, Instr.iinc 3 1, 3, false), (56, Instr.goto (-52), 3, false), (59, Instr.iload_n 2, 1, false), (60, Instr.ireturn, 1, false)]
/-- PaymentHubModel.leaveRow(I)V -/
def zi_196 : zIs := [(0, Instr.iconst 0, 1, false), (1, Instr.istore_n 2, 1, false), (2, Instr.iconst 0, 1, false), (3, Instr.istore_n 3, 1, false), (4, Instr.iload_n 3, 1, true), (5, Instr.aload_n 0, 1, false), (6, Instr.getfield 283, 3, false), (9, Instr.if_icmp .ge 34, 3, false), (12, Instr.aload_n 0, 1, false), (13, Instr.getfield 85, 3, false), (16, Instr.iload_n 3, 1, false), (17, Instr.iaload, 1, false), (18, Instr.iload_n 1, 1, false), (19, Instr.if_icmp .eq 18, 3, false), (22, Instr.aload_n 0, 1, false), (23, Instr.getfield 85, 3, false), (26, Instr.iload_n 2, 1, false), (27, Instr.aload_n 0, 1, false), (28, Instr.getfield 85, 3, false), (31, Instr.iload_n 3, 1, false), (32, Instr.iaload, 1, false), (33, Instr.iastore, 1, false), (34, Instr.iinc 2 1, 3, false), (37, Instr.iinc 3 1, 3, false), (40, Instr.goto (-36), 3, false), (43, Instr.aload_n 0, 1, false), (44, Instr.iload_n 2, 1, false), (45, Instr.putfield 283, 3, false), (48, Instr.return_, 1, false)]
/-- PaymentHubModel.enter(II)V -/
def zi_197 : zIs := [(0, Instr.aload_n 0, 1, false), (1, Instr.getfield 94, 3, false), (4, Instr.bipush 64, 2, false), (6, Instr.iload_n 1, 1, false), (7, Instr.imul, 1, false), (8, Instr.aload_n 0, 1, false), (9, Instr.getfield 97, 3, false), (12, Instr.iload_n 1, 1, false), (13, Instr.iaload, 1, false), (14, Instr.iadd, 1, false), (15, Instr.iload_n 2, 1, false), (16, Instr.iastore, 1, false), (17, Instr.aload_n 0, 1, false), (18, Instr.getfield 97, 3, false), (21, Instr.iload_n 1, 1, false), (22, Instr.dup2, 1, false), (23, Instr.iaload, 1, false), (24, Instr.iconst 1, 1, false), (25, Instr.iadd, 1, false), (26, Instr.iastore, 1, false), (27, Instr.aload_n 0, 1, false), (28, Instr.getfield 88, 3, false), (31, Instr.iload_n 1, 1, false), (32, Instr.dup2, 1, false), (33, Instr.iaload, 1, false), (34, Instr.iload_n 2, 1, false), (35, Instr.iadd, 1, false), (36, Instr.iastore, 1, false), (37, Instr.return_, 1, false)]
/-- PaymentHubModel.tell(III)V -/
def zi_198 : zIs := [(0, Instr.aload_n 0, 1, false), (1, Instr.getfield 79, 3, false), (4, Instr.iload_n 1, 1, false), (5, Instr.iload_n 2, 1, false), (6, Instr.iastore, 1, false), (7, Instr.aload_n 0, 1, false), (8, Instr.getfield 100, 3, false), (11, Instr.aload_n 0, 1, false), (12, Instr.getfield 286, 3, false), (15, Instr.iload_n 1, 1, false), (16, Instr.iastore, 1, false), (17, Instr.aload_n 0, 1, false), (18, Instr.getfield 103, 3, false), (21, Instr.aload_n 0, 1, false), (22, Instr.getfield 286, 3, false), (25, Instr.iload_n 2, 1, false), (26, Instr.iastore, 1, false), (27, Instr.aload_n 0, 1, false), (28, Instr.getfield 106, 3, false), (31, Instr.aload_n 0, 1, false), (32, Instr.getfield 286, 3, false), (35, Instr.iconst 0, 1, false), (36, Instr.bastore, 1, false), (37, Instr.aload_n 0, 1, false), (38, Instr.dup, 1, false), (39, Instr.getfield 286, 3, false), (42, Instr.iconst 1, 1, false), (43, Instr.iadd, 1, false), (44, Instr.putfield 286, 3, false), (47, Instr.iconst 0, 1, false), (48, Instr.istore 4, 2, false), (50, Instr.iload 4, 2, true), (52, Instr.aload_n 0, 1, false), (53, Instr.getfield 227, 3, false), (56, Instr.if_icmp .ge 60, 3, false), (59, Instr.aload_n 0, 1, false), (60, Instr.getfield 79, 3, false), (63, Instr.iload 4, 2, false), (65, Instr.iaload, 1, false), (66, Instr.iconst 2, 1, false), (67, Instr.if_icmp .ne 43, 3, false), (70, Instr.aload_n 0, 1, false), (71, Instr.getfield 73, 3, false), (74, Instr.iload 4, 2, false), (76, Instr.iaload, 1, false), (77, Instr.iload_n 3, 1, false), (78, Instr.if_icmp .ne 32, 3, false), (81, Instr.aload_n 0, 1, false), (82, Instr.getfield 79, 3, false), (85, Instr.iload 4, 2, false), (87, Instr.iconst 1, 1, false), (88, Instr.iastore, 1, false), (89, Instr.aload_n 0, 1, false), (90, Instr.getfield 85, 3, false), (93, Instr.aload_n 0, 1, false), (94, Instr.getfield 283, 3, false), (97, Instr.iload 4, 2, false), (99, Instr.iastore, 1, false), (100, Instr.aload_n 0, 1, false), (101, Instr.dup, 1, false), (102, Instr.getfield 283, 3, false), (105, Instr.iconst 1, 1, false), (106, Instr.iadd, 1, false), (107, Instr.putfield 283, 3, false), (110, Instr.iinc 4 1, 3, false), (113, Instr.goto (-63), 3, false), (116, Instr.return_, 1, false)]
/-- PaymentHubModel.reject(I)V -/
def zi_199 : zIs := [(0, Instr.aload_n 0, 1, false), (1, Instr.getfield 91, 3, false), (4, Instr.aload_n 0, 1, false), (5, Instr.getfield 73, 3, false), (8, Instr.iload_n 1, 1, false), (9, Instr.iaload, 1, false), (10, Instr.dup2, 1, false), (11, Instr.iaload, 1, false), (12, Instr.aload_n 0, 1, false), (13, Instr.getfield 70, 3, false), (16, Instr.iload_n 1, 1, false), (17, Instr.iaload, 1, false), (18, Instr.isub, 1, false), (19, Instr.iastore, 1, false), (20, Instr.aload_n 0, 1, false), (21, Instr.iload_n 1, 1, false), (22, Instr.iconst 5, 1, false), (23, Instr.aload_n 0, 1, false), (24, Instr.getfield 73, 3, false), (27, Instr.iload_n 1, 1, false), (28, Instr.iaload, 1, false), (29, Instr.invokevirtual 289, 3, false), (32, Instr.return_, 1, false)]
/-- PaymentHubModel.doMessage(I)V -/
def zi_200 : zIs := [(0, Instr.aload_n 0, 1, false), (1, Instr.getfield 61, 3, false), (4, Instr.iload_n 1, 1, false), (5, Instr.iconst 1, 1, false), (6, Instr.iadd, 1, false), (7, Instr.iaload, 1, false), (8, Instr.istore_n 2, 1, false), (9, Instr.aload_n 0, 1, false), (10, Instr.iload_n 1, 1, false), (11, Instr.bipush 73, 2, false), (13, Instr.invokevirtual 293, 3, false), (16, Instr.istore_n 3, 1, false), (17, Instr.aload_n 0, 1, false), (18, Instr.getfield 64, 3, false), (21, Instr.aload_n 0, 1, false), (22, Instr.getfield 247, 3, false), (25, Instr.aload_n 0, 1, false), (26, Instr.iload_n 3, 1, false), (27, Instr.invokevirtual 297, 3, false), (30, Instr.iastore, 1, false), (31, Instr.aload_n 0, 1, false), (32, Instr.dup, 1, false), (33, Instr.getfield 247, 3, false), (36, Instr.iconst 1, 1, false), (37, Instr.iadd, 1, false), (38, Instr.putfield 247, 3, false), (41, Instr.iload_n 2, 1, false), (42, Instr.bipush 80, 2, false), (44, Instr.if_icmp .ne 54, 3, false), (47, Instr.aload_n 0, 1, false), (48, Instr.iload_n 1, 1, false), (49, Instr.bipush 78, 2, false), (51, Instr.invokevirtual 293, 3, false), (54, Instr.istore 4, 2, false), (56, Instr.aload_n 0, 1, false), (57, Instr.getfield 61, 3, false), (60, Instr.iload 4, 2, false), (62, Instr.iaload, 1, false), (63, Instr.bipush 48, 2, false), (65, Instr.isub, 1, false), (66, Instr.istore 5, 2, false), (68, Instr.iconst 0, 1, false), (69, Instr.istore 6, 2, false), (71, Instr.iload 6, 2, true), (73, Instr.iload 5, 2, false), (75, Instr.if_icmp .ge 22, 3, false), (78, Instr.aload_n 0, 1, false), (79, Instr.aload_n 0, 1, false), (80, Instr.iload_n 3, 1, false), (81, Instr.bipush 69, 2, false), (83, Instr.invokevirtual 293, 3, false), (86, Instr.iload 6, 2, false), (88, Instr.invokevirtual 300, 3, false), (91, Instr.iinc 6 1, 3, false), (94, Instr.goto (-23), 3, false), (97, Instr.return_, 1, false), (98, Instr.aload_n 0, 1, false), (99, Instr.iload_n 1, 1, false), (100, Instr.bipush 79, 2, false), (102, Instr.invokevirtual 293, 3, false), (105, Instr.istore 4, 2, false), (107, Instr.aload_n 0, 1, false), (108, Instr.iload 4, 2, false), (110, Instr.invokevirtual 297, 3, false), (113, Instr.istore 5, 2, false), (115, Instr.aload_n 0, 1, false), (116, Instr.iload 5, 2, false), (118, Instr.invokevirtual 234, 3, false), (121, Instr.istore 6, 2, false), (123, Instr.aload_n 0, 1, false), (124, Instr.iload_n 1, 1, false), (125, Instr.iload_n 2, 1, false), (126, Instr.bipush 81, 2, false), (128, Instr.if_icmp .ne 8, 3, false), (131, Instr.bipush 86, 2, false), (133, Instr.goto 5, 3, false), (136, Instr.bipush 65, 2, false), (138, Instr.invokevirtual 293, 3, false), (141, Instr.istore 7, 2, false), (143, Instr.iload_n 2, 1, false), (144, Instr.bipush 81, 2, false), (146, Instr.if_icmp .ne 24, 3, false), (149, Instr.aload_n 0, 1, false), (150, Instr.getfield 61, 3, false), (153, Instr.iload 7, 2, false), (155, Instr.iaload, 1, false), (156, Instr.bipush 82, 2, false), (158, Instr.if_icmp .ne 12, 3, false), (161, Instr.aload_n 0, 1, false), (162, Instr.iload 6, 2, false), (164, Instr.invokevirtual 304, 3, false), (167, Instr.goto 135, 3, false), (170, Instr.iload_n 2, 1, false), (171, Instr.bipush 81, 2, false), (173, Instr.if_icmp .ne 79, 3, false), (176, Instr.aload_n 0, 1, false), (177, Instr.getfield 91, 3, false), (180, Instr.aload_n 0, 1, false), (181, Instr.getfield 73, 3, false), (184, Instr.iload 6, 2, false), (186, Instr.iaload, 1, false), (187, Instr.dup2, 1, false), (188, Instr.iaload, 1, false), (189, Instr.aload_n 0, 1, false), (190, Instr.getfield 70, 3, false), (193, Instr.iload 6, 2, false), (195, Instr.iaload, 1, false), (196, Instr.isub, 1, false), (197, Instr.iastore, 1, false), (198, Instr.aload_n 0, 1, false), (199, Instr.aload_n 0, 1, false), (200, Instr.getfield 73, 3, false), (203, Instr.iload 6, 2, false), (205, Instr.iaload, 1, false), (206, Instr.aload_n 0, 1, false), (207, Instr.getfield 70, 3, false), (210, Instr.iload 6, 2, false), (212, Instr.iaload, 1, false), (213, Instr.ineg, 1, false), (214, Instr.invokevirtual 307, 3, false), (217, Instr.aload_n 0, 1, false), (218, Instr.aload_n 0, 1, false), (219, Instr.getfield 76, 3, false), (222, Instr.iload 6, 2, false), (224, Instr.iaload, 1, false), (225, Instr.aload_n 0, 1, false), (226, Instr.getfield 70, 3, false), (229, Instr.iload 6, 2, false), (231, Instr.iaload, 1, false), (232, Instr.invokevirtual 307, 3, false), (235, Instr.aload_n 0, 1, false), (236, Instr.iload 6, 2, false), (238, Instr.iconst 4, 1, false), (239, Instr.aload_n 0, 1, false), (240, Instr.getfield 76, 3, false), (243, Instr.iload 6, 2, false), (245, Instr.iaload, 1, false), (246, Instr.invokevirtual 289, 3, false), (249, Instr.goto 53, 3, false), (252, Instr.aload_n 0, 1, false), (253, Instr.iload 7, 2, false), (255, Instr.invokevirtual 310, 3, false), (258, Instr.istore 8, 2, false), (260, Instr.aload_n 0, 1, false), (261, Instr.aload_n 0, 1, false), (262, Instr.getfield 76, 3, false), (265, Instr.iload 6, 2, false), (267, Instr.iaload, 1, false), (268, Instr.iload 8, 2, false), (270, Instr.ineg, 1, false), (271, Instr.invokevirtual 307, 3, false), (274, Instr.aload_n 0, 1, false), (275, Instr.aload_n 0, 1, false), (276, Instr.getfield 73, 3, false), (279, Instr.iload 6, 2, false), (281, Instr.iaload, 1, false), (282, Instr.iload 8, 2, false), (284, Instr.invokevirtual 307, 3, false), (287, Instr.aload_n 0, 1, false), (288, Instr.iload 6, 2, false), (290, Instr.bipush 6, 2, false), (292, Instr.aload_n 0, 1, false), (293, Instr.getfield 73, 3, false), (296, Instr.iload 6, 2, false), (298, Instr.iaload, 1, false), (299, Instr.invokevirtual 289, 3, false), (302, Instr.return_, 1, false)]
/-- PaymentHubModel.doPart(II)V -/
def zi_201 : zIs := [(0, Instr.iload_n 1, 1, false), (1, Instr.istore_n 3, 1, false), (2, Instr.iconst 0, 1, false), (3, Instr.istore 4, 2, false), (5, Instr.iload 4, 2, true), (7, Instr.iload_n 2, 1, false), (8, Instr.if_icmp .ge 17, 3, false), (11, Instr.aload_n 0, 1, false), (12, Instr.iload_n 3, 1, false), (13, Instr.bipush 69, 2, false), (15, Instr.invokevirtual 293, 3, false), (18, Instr.istore_n 3, 1, false), (19, Instr.iinc 4 1, 3, false), (22, Instr.goto (-17), 3, false), (25, Instr.aload_n 0, 1, false), (26, Instr.iload_n 3, 1, false), (27, Instr.bipush 68, 2, false), (29, Instr.invokevirtual 293, 3, false), (32, Instr.istore 4, 2, false), (34, Instr.aload_n 0, 1, false), (35, Instr.iload_n 3, 1, false), (36, Instr.bipush 67, 2, false), (38, Instr.invokevirtual 293, 3, false), (41, Instr.istore 5, 2, false), (43, Instr.aload_n 0, 1, false), (44, Instr.iload_n 3, 1, false), (45, Instr.bipush 65, 2, false), (47, Instr.invokevirtual 293, 3, false), (50, Instr.istore 6, 2, false), (52, Instr.aload_n 0, 1, false), (53, Instr.getfield 227, 3, false), (56, Instr.istore 7, 2, false), (58, Instr.aload_n 0, 1, false), (59, Instr.getfield 67, 3, false), (62, Instr.iload 7, 2, false), (64, Instr.aload_n 0, 1, false), (65, Instr.iload_n 3, 1, false), (66, Instr.invokevirtual 297, 3, false), (69, Instr.iastore, 1, false), (70, Instr.aload_n 0, 1, false), (71, Instr.getfield 73, 3, false), (74, Instr.iload 7, 2, false), (76, Instr.aload_n 0, 1, false), (77, Instr.getfield 61, 3, false), (80, Instr.iload 4, 2, false), (82, Instr.iaload, 1, false), (83, Instr.bipush 65, 2, false), (85, Instr.isub, 1, false), (86, Instr.iastore, 1, false), (87, Instr.aload_n 0, 1, false), (88, Instr.getfield 76, 3, false), (91, Instr.iload 7, 2, false), (93, Instr.aload_n 0, 1, false), (94, Instr.getfield 61, 3, false), (97, Instr.iload 5, 2, false), (99, Instr.iaload, 1, false), (100, Instr.bipush 65, 2, false), (102, Instr.isub, 1, false), (103, Instr.iastore, 1, false), (104, Instr.aload_n 0, 1, false), (105, Instr.getfield 70, 3, false), (108, Instr.iload 7, 2, false), (110, Instr.aload_n 0, 1, false), (111, Instr.iload 6, 2, false), (113, Instr.invokevirtual 310, 3, false), (116, Instr.iastore, 1, false), (117, Instr.aload_n 0, 1, false), (118, Instr.getfield 79, 3, false), (121, Instr.iload 7, 2, false), (123, Instr.iconst 1, 1, false), (124, Instr.iastore, 1, false), (125, Instr.aload_n 0, 1, false), (126, Instr.getfield 82, 3, false), (129, Instr.iload 7, 2, false), (131, Instr.iconst 0, 1, false), (132, Instr.iastore, 1, false), (133, Instr.aload_n 0, 1, false), (134, Instr.getfield 85, 3, false), (137, Instr.aload_n 0, 1, false), (138, Instr.getfield 283, 3, false), (141, Instr.iload 7, 2, false), (143, Instr.iastore, 1, false), (144, Instr.aload_n 0, 1, false), (145, Instr.dup, 1, false), (146, Instr.getfield 283, 3, false), (149, Instr.iconst 1, 1, false), (150, Instr.iadd, 1, false), (151, Instr.putfield 283, 3, false), (154, Instr.aload_n 0, 1, false), (155, Instr.dup, 1, false), (156, Instr.getfield 227, 3, false), (159, Instr.iconst 1, 1, false), (160, Instr.iadd, 1, false), (161, Instr.putfield 227, 3, false), (164, Instr.return_, 1, false)]
/-- PaymentHubModel.doRecord(I)V -/
def zi_202 : zIs := [(0, Instr.aload_n 0, 1, false), (1, Instr.getfield 61, 3, false), (4, Instr.iload_n 1, 1, false), (5, Instr.iaload, 1, false), (6, Instr.istore_n 2, 1, false), (7, Instr.aload_n 0, 1, false), (8, Instr.getfield 61, 3, false), (11, Instr.iload_n 1, 1, false), (12, Instr.iconst 2, 1, false), (13, Instr.iadd, 1, false), (14, Instr.iaload, 1, false), (15, Instr.istore_n 3, 1, false), (16, Instr.iload_n 2, 1, false), (17, Instr.bipush 77, 2, false), (19, Instr.if_icmp .ne 13, 3, false), (22, Instr.aload_n 0, 1, false), (23, Instr.iload_n 1, 1, false), (24, Instr.iconst 2, 1, false), (25, Instr.iadd, 1, false), (26, Instr.invokevirtual 313, 3, false), (29, Instr.goto 126, 3, false), (32, Instr.iload_n 2, 1, false), (33, Instr.bipush 72, 2, false), (35, Instr.if_icmp .ne 78, 3, false), (38, Instr.aload_n 0, 1, false), (39, Instr.iload_n 3, 1, false), (40, Instr.invokevirtual 316, 3, false), (43, Instr.aload_n 0, 1, false), (44, Instr.getfield 79, 3, false), (47, Instr.iload_n 3, 1, false), (48, Instr.iconst 3, 1, false), (49, Instr.iastore, 1, false), (50, Instr.aload_n 0, 1, false), (51, Instr.getfield 82, 3, false), (54, Instr.iload_n 3, 1, false), (55, Instr.aload_n 0, 1, false), (56, Instr.getfield 61, 3, false), (59, Instr.iload_n 1, 1, false), (60, Instr.iconst 3, 1, false), (61, Instr.iadd, 1, false), (62, Instr.iaload, 1, false), (63, Instr.sipush 256, 3, false), (66, Instr.imul, 1, false), (67, Instr.aload_n 0, 1, false), (68, Instr.getfield 61, 3, false), (71, Instr.iload_n 1, 1, false), (72, Instr.iconst 4, 1, false), (73, Instr.iadd, 1, false), (74, Instr.iaload, 1, false), (75, Instr.iadd, 1, false), (76, Instr.sipush 256, 3, false), (79, Instr.imul, 1, false), (80, Instr.aload_n 0, 1, false), (81, Instr.getfield 61, 3, false), (84, Instr.iload_n 1, 1, false), (85, Instr.iconst 5, 1, false), (86, Instr.iadd, 1, false), (87, Instr.iaload, 1, false), (88, Instr.iadd, 1, false), (89, Instr.iastore, 1, false), (90, Instr.aload_n 0, 1, false), (91, Instr.getfield 91, 3, false), (94, Instr.aload_n 0, 1, false), (95, Instr.getfield 73, 3, false), (98, Instr.iload_n 3, 1, false), (99, Instr.iaload, 1, false), (100, Instr.dup2, 1, false), (101, Instr.iaload, 1, false), (102, Instr.aload_n 0, 1, false), (103, Instr.getfield 70, 3, false), (106, Instr.iload_n 3, 1, false), (107, Instr.iaload, 1, false), (108, Instr.iadd, 1, false), (109, Instr.iastore, 1, false), (110, Instr.goto 45, 3, false), (113, Instr.iload_n 2, 1, false), (114, Instr.bipush 87, 2, false), (116, Instr.if_icmp .ne 18, 3, false), (119, Instr.aload_n 0, 1, false), (120, Instr.iload_n 3, 1, false), (121, Instr.invokevirtual 316, 3, false), (124, Instr.aload_n 0, 1, false), (125, Instr.getfield 79, 3, false), (128, Instr.iload_n 3, 1, false), (129, Instr.iconst 2, 1, false), (130, Instr.iastore, 1, false), (131, Instr.goto 24, 3, false), (134, Instr.iload_n 2, 1, false), (135, Instr.bipush 88, 2, false), (137, Instr.if_icmp .ne 11, 3, false), (140, Instr.aload_n 0, 1, false), (141, Instr.iload_n 3, 1, false), (142, Instr.invokevirtual 304, 3, false), (145, Instr.goto 10, 3, false), (148, Instr.aload_n 0, 1, false), (149, Instr.getfield 106, 3, false), (152, Instr.iload_n 3, 1, false), (153, Instr.iconst 1, 1, false), (154, Instr.bastore, 1, false), (155, Instr.return_, 1, false)]
/-- PaymentHubModel.replay()I -/
def zi_203 : zIs := [(0, Instr.aload_n 0, 1, false), (1, Instr.iconst 0, 1, false), (2, Instr.putfield 247, 3, false), (5, Instr.aload_n 0, 1, false), (6, Instr.iconst 0, 1, false), (7, Instr.putfield 227, 3, false), (10, Instr.aload_n 0, 1, false), (11, Instr.iconst 0, 1, false), (12, Instr.putfield 283, 3, false), (15, Instr.aload_n 0, 1, false), (16, Instr.iconst 0, 1, false), (17, Instr.putfield 286, 3, false), (20, Instr.iconst 0, 1, false), (21, Instr.istore_n 1, 1, false), (22, Instr.iload_n 1, 1, true), (23, Instr.iconst 4, 1, false), (24, Instr.if_icmp .ge 33, 3, false), (27, Instr.aload_n 0, 1, false), (28, Instr.getfield 88, 3, false), (31, Instr.iload_n 1, 1, false), (32, Instr.aload_n 0, 1, false), (33, Instr.getfield 113, 3, false), (36, Instr.iastore, 1, false), (37, Instr.aload_n 0, 1, false), (38, Instr.getfield 91, 3, false), (41, Instr.iload_n 1, 1, false), (42, Instr.iconst 0, 1, false), (43, Instr.iastore, 1, false), (44, Instr.aload_n 0, 1, false), (45, Instr.getfield 97, 3, false), (48, Instr.iload_n 1, 1, false), (49, Instr.iconst 0, 1, false), (50, Instr.iastore, 1, false), (51, Instr.iinc 1 1, 3, false), (54, Instr.goto (-32), 3, false), (57, Instr.iconst 0, 1, false), (58, Instr.istore_n 1, 1, false), (59, Instr.iload_n 1, 1, true), (60, Instr.iconst 1, 1, false), (61, Instr.iadd, 1, false), (62, Instr.aload_n 0, 1, false), (63, Instr.getfield 237, 3, false), (66, Instr.if_icmp .ge 43, 3, false), (69, Instr.iload_n 1, 1, false), (70, Instr.iconst 3, 1, false), (71, Instr.iadd, 1, false), (72, Instr.aload_n 0, 1, false), (73, Instr.getfield 61, 3, false), (76, Instr.iload_n 1, 1, false), (77, Instr.iconst 1, 1, false), (78, Instr.iadd, 1, false), (79, Instr.iaload, 1, false), (80, Instr.iadd, 1, false), (81, Instr.aload_n 0, 1, false), (82, Instr.getfield 237, 3, false), (85, Instr.if_icmp .gt 24, 3, false), (88, Instr.aload_n 0, 1, false), (89, Instr.iload_n 1, 1, false), (90, Instr.invokevirtual 319, 3, false), (93, Instr.iload_n 1, 1, false), (94, Instr.iconst 3, 1, false), (95, Instr.aload_n 0, 1, false), (96, Instr.getfield 61, 3, false), (99, Instr.iload_n 1, 1, false), (100, Instr.iconst 1, 1, false), (101, Instr.iadd, 1, false), (102, Instr.iaload, 1, false), (103, Instr.iadd, 1, false), (104, Instr.iadd, 1, false), (105, Instr.istore_n 1, 1, false), (106, Instr.goto (-47), 3, false), (109, Instr.iload_n 1, 1, false), (110, Instr.ireturn, 1, false)]
/-- PaymentHubModel.submit()I -/
def zi_204 : zIs := [(0, Instr.aload_n 0, 1, false), (1, Instr.getfield 123, 3, false), (4, Instr.ifCond .eq 6, 3, false), (7, Instr.bipush (-9), 2, false), (9, Instr.ireturn, 1, false), (10, Instr.aload_n 0, 1, false), (11, Instr.invokevirtual 322, 3, false), (14, Instr.istore_n 1, 1, false), (15, Instr.aload_n 0, 1, false), (16, Instr.iconst 0, 1, false), (17, Instr.putfield 127, 3, false), (20, Instr.iload_n 1, 1, false), (21, Instr.ifCond .le 5, 3, false), (24, Instr.iload_n 1, 1, false), (25, Instr.ireturn, 1, false), (26, Instr.aload_n 0, 1, false), (27, Instr.invokevirtual 325, 3, false), (30, Instr.aload_n 0, 1, false), (31, Instr.bipush 77, 2, false), (33, Instr.invokevirtual 277, 3, false), (36, Instr.ifCond .eq 7, 3, false), (39, Instr.iconst 0, 1, false), (40, Instr.goto 5, 3, false), (43, Instr.bipush (-9), 2, false), (45, Instr.ireturn, 1, false)]
/-- PaymentHubModel.work()I -/
def zi_205 : zIs := [(0, Instr.aload_n 0, 1, false), (1, Instr.getfield 123, 3, false), (4, Instr.ifCond .eq 6, 3, false), (7, Instr.bipush (-9), 2, false), (9, Instr.ireturn, 1, false), (10, Instr.aload_n 0, 1, false), (11, Instr.getfield 283, 3, false), (14, Instr.ifCond .eq 13, 3, false), (17, Instr.aload_n 0, 1, false), (18, Instr.getfield 237, 3, false), (21, Instr.sipush 5000, 3, false), (24, Instr.if_icmp .lt 5, 3, false), (27, Instr.iconst (-1), 1, false), (28, Instr.ireturn, 1, false), (29, Instr.aload_n 0, 1, false), (30, Instr.getfield 85, 3, false), (33, Instr.iconst 0, 1, false), (34, Instr.iaload, 1, false), (35, Instr.istore_n 1, 1, false), (36, Instr.aload_n 0, 1, false), (37, Instr.getfield 73, 3, false), (40, Instr.iload_n 1, 1, false), (41, Instr.iaload, 1, false), (42, Instr.istore_n 2, 1, false), (43, Instr.aload_n 0, 1, false), (44, Instr.getfield 70, 3, false), (47, Instr.iload_n 1, 1, false), (48, Instr.iaload, 1, false), (49, Instr.aload_n 0, 1, false), (50, Instr.getfield 88, 3, false), (53, Instr.iload_n 2, 1, false), (54, Instr.iaload, 1, false), (55, Instr.aload_n 0, 1, false), (56, Instr.getfield 91, 3, false), (59, Instr.iload_n 2, 1, false), (60, Instr.iaload, 1, false), (61, Instr.isub, 1, false), (62, Instr.aload_n 0, 1, false), (63, Instr.getfield 116, 3, false), (66, Instr.iadd, 1, false), (67, Instr.if_icmp .le 23, 3, false), (70, Instr.aload_n 0, 1, false), (71, Instr.bipush 87, 2, false), (73, Instr.iload_n 1, 1, false), (74, Instr.invokevirtual 328, 3, false), (77, Instr.ifCond .eq 10, 3, false), (80, Instr.bipush 100, 2, false), (82, Instr.iload_n 1, 1, false), (83, Instr.iadd, 1, false), (84, Instr.goto 5, 3, false), (87, Instr.bipush (-9), 2, false), (89, Instr.ireturn, 1, false), (90, Instr.aload_n 0, 1, false), (91, Instr.getfield 331, 3, false), (94, Instr.bipush 30, 2, false), (96, Instr.iadd, 1, false), (97, Instr.istore_n 3, 1, false), (98, Instr.aload_n 0, 1, false), (99, Instr.iconst 0, 1, false), (100, Instr.putfield 257, 3, false), (103, Instr.aload_n 0, 1, false), (104, Instr.iload_n 1, 1, false), (105, Instr.invokevirtual 260, 3, false), (108, Instr.aload_n 0, 1, false), (109, Instr.iload_n 3, 1, false), (110, Instr.ldc_w 334, 3, false), (113, Instr.idiv, 1, false), (114, Instr.invokevirtual 260, 3, false), (117, Instr.aload_n 0, 1, false), (118, Instr.iload_n 3, 1, false), (119, Instr.sipush 256, 3, false), (122, Instr.idiv, 1, false), (123, Instr.sipush 256, 3, false), (126, Instr.irem, 1, false), (127, Instr.invokevirtual 260, 3, false), (130, Instr.aload_n 0, 1, false), (131, Instr.iload_n 3, 1, false), (132, Instr.sipush 256, 3, false), (135, Instr.irem, 1, false), (136, Instr.invokevirtual 260, 3, false), (139, Instr.aload_n 0, 1, false), (140, Instr.bipush 72, 2, false), (142, Instr.invokevirtual 277, 3, false), (145, Instr.ifCond .eq 7, 3, false), (148, Instr.iload_n 1, 1, false), (149, Instr.goto 5, 3, false), (152, Instr.bipush (-9), 2, false), (154, Instr.ireturn, 1, false)]
/-- PaymentHubModel.tick(I)I -/
def zi_206 : zIs := [(0, Instr.aload_n 0, 1, false), (1, Instr.dup, 1, false), (2, Instr.getfield 331, 3, false), (5, Instr.iload_n 1, 1, false), (6, Instr.ifCond .lt 14, 3, false), (9, Instr.iload_n 1, 1, false), (10, Instr.sipush 1000, 3, false), (13, Instr.if_icmp .gt 7, 3, false), (16, Instr.iload_n 1, 1, false), (17, Instr.goto 4, 3, false), (20, Instr.iconst 0, 1, false), (21, Instr.iadd, 1, false), (22, Instr.putfield 331, 3, false), (25, Instr.iconst 0, 1, false), (26, Instr.istore_n 2, 1, false), (27, Instr.iload_n 2, 1, true), (28, Instr.aload_n 0, 1, false), (29, Instr.getfield 227, 3, false), (32, Instr.if_icmp .ge 67, 3, false), (35, Instr.aload_n 0, 1, false), (36, Instr.getfield 123, 3, false), (39, Instr.ifCond .ne 60, 3, false), (42, Instr.aload_n 0, 1, false), (43, Instr.getfield 79, 3, false), (46, Instr.iload_n 2, 1, false), (47, Instr.iaload, 1, false), (48, Instr.iconst 3, 1, false), (49, Instr.if_icmp .ne 44, 3, false), (52, Instr.aload_n 0, 1, false), (53, Instr.getfield 82, 3, false), (56, Instr.iload_n 2, 1, false), (57, Instr.iaload, 1, false), (58, Instr.aload_n 0, 1, false), (59, Instr.getfield 331, 3, false), (62, Instr.if_icmp .gt 31, 3, false), (65, Instr.aload_n 0, 1, false), (66, Instr.bipush 88, 2, false), (68, Instr.iload_n 2, 1, false), (69, Instr.invokevirtual 328, 3, false), (72, Instr.istore_n 3, 1, false), (73, Instr.aload_n 0, 1, false), (74, Instr.aload_n 0, 1, false), (75, Instr.getfield 123, 3, false), (78, Instr.ifCond .ne 7, 3, false), (81, Instr.iload_n 3, 1, false), (82, Instr.ifCond .ne 7, 3, false), (85, Instr.iconst 1, 1, false), (86, Instr.goto 4, 3, false), (89, Instr.iconst 0, 1, false), (90, Instr.putfield 123, 3, false), (93, Instr.iinc 2 1, 3, false), (96, Instr.goto (-69), 3, false), (99, Instr.aload_n 0, 1, false), (100, Instr.getfield 331, 3, false), (103, Instr.ireturn, 1, false)]
/-- PaymentHubModel.send()I -/
def zi_207 : zIs := [(0, Instr.aload_n 0, 1, false), (1, Instr.getfield 123, 3, false), (4, Instr.ifCond .eq 6, 3, false), (7, Instr.bipush (-9), 2, false), (9, Instr.ireturn, 1, false), (10, Instr.iconst 0, 1, false), (11, Instr.istore_n 1, 1, false), (12, Instr.iload_n 1, 1, true), (13, Instr.aload_n 0, 1, false), (14, Instr.getfield 286, 3, false), (17, Instr.if_icmp .ge 18, 3, false), (20, Instr.aload_n 0, 1, false), (21, Instr.getfield 106, 3, false), (24, Instr.iload_n 1, 1, false), (25, Instr.baload, 1, false), (26, Instr.ifCond .eq 9, 3, false), (29, Instr.iinc 1 1, 3, false), (32, Instr.goto (-20), 3, false), (35, Instr.iload_n 1, 1, false), (36, Instr.aload_n 0, 1, false), (37, Instr.getfield 286, 3, false), (40, Instr.if_icmp .ne 5, 3, false), (43, Instr.iconst (-1), 1, false), (44, Instr.ireturn, 1, false), (45, Instr.aload_n 0, 1, false), (46, Instr.getfield 109, 3, false), (49, Instr.iload_n 1, 1, false), (50, Instr.dup2, 1, false), (51, Instr.iaload, 1, false), (52, Instr.iconst 1, 1, false), (53, Instr.iadd, 1, false), (54, Instr.iastore, 1, false), (55, Instr.aload_n 0, 1, false), (56, Instr.bipush 83, 2, false), (58, Instr.iload_n 1, 1, false), (59, Instr.invokevirtual 328, 3, false), (62, Instr.ifCond .eq 7, 3, false), (65, Instr.iload_n 1, 1, false), (66, Instr.goto 5, 3, false), (69, Instr.bipush (-9), 2, false), (71, Instr.ireturn, 1, false)]
/-- PaymentHubModel.fail(II)Z -/
def zi_208 : zIs := [(0, Instr.aload_n 0, 1, false), (1, Instr.getfield 123, 3, false), (4, Instr.ifCond .ne 24, 3, false), (7, Instr.iload_n 1, 1, false), (8, Instr.ifCond .lt 20, 3, false), (11, Instr.iload_n 1, 1, false), (12, Instr.bipush 50, 2, false), (14, Instr.if_icmp .gt 14, 3, false), (17, Instr.iload_n 2, 1, false), (18, Instr.ifCond .lt 10, 3, false), (21, Instr.iload_n 2, 1, false), (22, Instr.sipush 300, 3, false), (25, Instr.if_icmp .le 5, 3, false), (28, Instr.iconst 0, 1, false), (29, Instr.ireturn, 1, false), (30, Instr.aload_n 0, 1, false), (31, Instr.iload_n 1, 1, false), (32, Instr.putfield 7, 3, false), (35, Instr.aload_n 0, 1, false), (36, Instr.iload_n 2, 1, false), (37, Instr.putfield 274, 3, false), (40, Instr.iconst 1, 1, false), (41, Instr.ireturn, 1, false)]
/-- PaymentHubModel.recover()Z -/
def zi_209 : zIs := [(0, Instr.aload_n 0, 1, false), (1, Instr.getfield 123, 3, false), (4, Instr.ifCond .ne 5, 3, false), (7, Instr.iconst 0, 1, false), (8, Instr.ireturn, 1, false), (9, Instr.aload_n 0, 1, false), (10, Instr.aload_n 0, 1, false), (11, Instr.invokevirtual 119, 3, false), (14, Instr.putfield 237, 3, false), (17, Instr.aload_n 0, 1, false), (18, Instr.iconst 0, 1, false), (19, Instr.putfield 123, 3, false), (22, Instr.aload_n 0, 1, false), (23, Instr.iconst 0, 1, false), (24, Instr.putfield 127, 3, false), (27, Instr.iconst 1, 1, false), (28, Instr.ireturn, 1, false)]
/-- PaymentHubModel.journal()I -/
def zi_210 : zIs := [(0, Instr.aload_n 0, 1, false), (1, Instr.getfield 237, 3, false), (4, Instr.ireturn, 1, false)]
/-- PaymentHubModel.octet(I)I -/
def zi_211 : zIs := [(0, Instr.iload_n 1, 1, false), (1, Instr.ifCond .lt 11, 3, false), (4, Instr.iload_n 1, 1, false), (5, Instr.aload_n 0, 1, false), (6, Instr.getfield 237, 3, false), (9, Instr.if_icmp .lt 7, 3, false), (12, Instr.iconst (-1), 1, false), (13, Instr.goto 9, 3, false), (16, Instr.aload_n 0, 1, false), (17, Instr.getfield 61, 3, false), (20, Instr.iload_n 1, 1, false), (21, Instr.iaload, 1, false), (22, Instr.ireturn, 1, false)]
/-- PaymentHubModel.transaction(II)I -/
def zi_212 : zIs := [(0, Instr.aload_n 0, 1, false), (1, Instr.getfield 123, 3, false), (4, Instr.ifCond .ne 24, 3, false), (7, Instr.iload_n 1, 1, false), (8, Instr.ifCond .lt 20, 3, false), (11, Instr.iload_n 1, 1, false), (12, Instr.aload_n 0, 1, false), (13, Instr.getfield 227, 3, false), (16, Instr.if_icmp .ge 12, 3, false), (19, Instr.iload_n 2, 1, false), (20, Instr.ifCond .lt 8, 3, false), (23, Instr.iload_n 2, 1, false), (24, Instr.iconst 4, 1, false), (25, Instr.if_icmp .le 5, 3, false), (28, Instr.iconst (-1), 1, false), (29, Instr.ireturn, 1, false), (30, Instr.iload_n 2, 1, false), (31, Instr.ifCond .ne 12, 3, false), (34, Instr.aload_n 0, 1, false), (35, Instr.getfield 79, 3, false), (38, Instr.iload_n 1, 1, false), (39, Instr.iaload, 1, false), (40, Instr.goto 51, 3, false), (43, Instr.iload_n 2, 1, false), (44, Instr.iconst 1, 1, false), (45, Instr.if_icmp .ne 12, 3, false), (48, Instr.aload_n 0, 1, false), (49, Instr.getfield 70, 3, false), (52, Instr.iload_n 1, 1, false), (53, Instr.iaload, 1, false), (54, Instr.goto 37, 3, false), (57, Instr.iload_n 2, 1, false), (58, Instr.iconst 2, 1, false), (59, Instr.if_icmp .ne 12, 3, false), (62, Instr.aload_n 0, 1, false), (63, Instr.getfield 73, 3, false), (66, Instr.iload_n 1, 1, false), (67, Instr.iaload, 1, false), (68, Instr.goto 23, 3, false), (71, Instr.iload_n 2, 1, false), (72, Instr.iconst 3, 1, false), (73, Instr.if_icmp .ne 12, 3, false), (76, Instr.aload_n 0, 1, false), (77, Instr.getfield 76, 3, false), (80, Instr.iload_n 1, 1, false), (81, Instr.iaload, 1, false), (82, Instr.goto 9, 3, false), (85, Instr.aload_n 0, 1, false), (86, Instr.getfield 82, 3, false), (89, Instr.iload_n 1, 1, false), (90, Instr.iaload, 1, false), (91, Instr.ireturn, 1, false)]
/-- PaymentHubModel.queue(I)I -/
def zi_213 : zIs := [(0, Instr.aload_n 0, 1, false), (1, Instr.getfield 123, 3, false), (4, Instr.ifCond .ne 15, 3, false), (7, Instr.iload_n 1, 1, false), (8, Instr.ifCond .lt 11, 3, false), (11, Instr.iload_n 1, 1, false), (12, Instr.aload_n 0, 1, false), (13, Instr.getfield 283, 3, false), (16, Instr.if_icmp .lt 7, 3, false), (19, Instr.iconst (-1), 1, false), (20, Instr.goto 9, 3, false), (23, Instr.aload_n 0, 1, false), (24, Instr.getfield 85, 3, false), (27, Instr.iload_n 1, 1, false), (28, Instr.iaload, 1, false), (29, Instr.ireturn, 1, false)]
/-- PaymentHubModel.account(II)I -/
def zi_214 : zIs := [(0, Instr.aload_n 0, 1, false), (1, Instr.getfield 123, 3, false), (4, Instr.ifCond .ne 21, 3, false), (7, Instr.iload_n 1, 1, false), (8, Instr.ifCond .lt 17, 3, false), (11, Instr.iload_n 1, 1, false), (12, Instr.iconst 3, 1, false), (13, Instr.if_icmp .gt 12, 3, false), (16, Instr.iload_n 2, 1, false), (17, Instr.ifCond .lt 8, 3, false), (20, Instr.iload_n 2, 1, false), (21, Instr.iconst 2, 1, false), (22, Instr.if_icmp .le 5, 3, false), (25, Instr.iconst 0, 1, false), (26, Instr.ireturn, 1, false), (27, Instr.iload_n 2, 1, false), (28, Instr.ifCond .ne 12, 3, false), (31, Instr.aload_n 0, 1, false), (32, Instr.getfield 88, 3, false), (35, Instr.iload_n 1, 1, false), (36, Instr.iaload, 1, false), (37, Instr.goto 23, 3, false), (40, Instr.iload_n 2, 1, false), (41, Instr.iconst 1, 1, false), (42, Instr.if_icmp .ne 12, 3, false), (45, Instr.aload_n 0, 1, false), (46, Instr.getfield 91, 3, false), (49, Instr.iload_n 1, 1, false), (50, Instr.iaload, 1, false), (51, Instr.goto 9, 3, false), (54, Instr.aload_n 0, 1, false), (55, Instr.getfield 97, 3, false), (58, Instr.iload_n 1, 1, false), (59, Instr.iaload, 1, false), (60, Instr.ireturn, 1, false)]
/-- PaymentHubModel.entry(II)I -/
def zi_215 : zIs := [(0, Instr.aload_n 0, 1, false), (1, Instr.getfield 123, 3, false), (4, Instr.ifCond .ne 26, 3, false), (7, Instr.iload_n 1, 1, false), (8, Instr.ifCond .lt 22, 3, false), (11, Instr.iload_n 1, 1, false), (12, Instr.iconst 3, 1, false), (13, Instr.if_icmp .gt 17, 3, false), (16, Instr.iload_n 2, 1, false), (17, Instr.ifCond .lt 13, 3, false), (20, Instr.iload_n 2, 1, false), (21, Instr.aload_n 0, 1, false), (22, Instr.getfield 97, 3, false), (25, Instr.iload_n 1, 1, false), (26, Instr.iaload, 1, false), (27, Instr.if_icmp .lt 7, 3, false), (30, Instr.iconst 0, 1, false), (31, Instr.goto 14, 3, false), (34, Instr.aload_n 0, 1, false), (35, Instr.getfield 94, 3, false), (38, Instr.bipush 64, 2, false), (40, Instr.iload_n 1, 1, false), (41, Instr.imul, 1, false), (42, Instr.iload_n 2, 1, false), (43, Instr.iadd, 1, false), (44, Instr.iaload, 1, false), (45, Instr.ireturn, 1, false)]
/-- PaymentHubModel.report(II)I -/
def zi_216 : zIs := [(0, Instr.aload_n 0, 1, false), (1, Instr.getfield 123, 3, false), (4, Instr.ifCond .ne 24, 3, false), (7, Instr.iload_n 1, 1, false), (8, Instr.ifCond .lt 20, 3, false), (11, Instr.iload_n 1, 1, false), (12, Instr.aload_n 0, 1, false), (13, Instr.getfield 286, 3, false), (16, Instr.if_icmp .ge 12, 3, false), (19, Instr.iload_n 2, 1, false), (20, Instr.ifCond .lt 8, 3, false), (23, Instr.iload_n 2, 1, false), (24, Instr.iconst 2, 1, false), (25, Instr.if_icmp .le 5, 3, false), (28, Instr.iconst (-1), 1, false), (29, Instr.ireturn, 1, false), (30, Instr.iload_n 2, 1, false), (31, Instr.ifCond .ne 12, 3, false), (34, Instr.aload_n 0, 1, false), (35, Instr.getfield 100, 3, false), (38, Instr.iload_n 1, 1, false), (39, Instr.iaload, 1, false), (40, Instr.goto 31, 3, false), (43, Instr.iload_n 2, 1, false), (44, Instr.iconst 1, 1, false), (45, Instr.if_icmp .ne 12, 3, false), (48, Instr.aload_n 0, 1, false), (49, Instr.getfield 103, 3, false), (52, Instr.iload_n 1, 1, false), (53, Instr.iaload, 1, false), (54, Instr.goto 17, 3, false), (57, Instr.aload_n 0, 1, false), (58, Instr.getfield 106, 3, false), (61, Instr.iload_n 1, 1, false), (62, Instr.baload, 1, false), (63, Instr.ifCond .eq 7, 3, false), (66, Instr.iconst 1, 1, false), (67, Instr.goto 4, 3, false), (70, Instr.iconst 0, 1, false), (71, Instr.ireturn, 1, false)]
/-- PaymentHubModel.copies(I)I -/
def zi_217 : zIs := [(0, Instr.iload_n 1, 1, false), (1, Instr.ifCond .lt 9, 3, false), (4, Instr.iload_n 1, 1, false), (5, Instr.bipush 64, 2, false), (7, Instr.if_icmp .lt 7, 3, false), (10, Instr.iconst 0, 1, false), (11, Instr.goto 9, 3, false), (14, Instr.aload_n 0, 1, false), (15, Instr.getfield 109, 3, false), (18, Instr.iload_n 1, 1, false), (19, Instr.iaload, 1, false), (20, Instr.ireturn, 1, false)]
/-- PaymentHubLaw.cell([II)I -/
def zi_218 : zIs := [(0, Instr.iload_n 1, 1, false), (1, Instr.aload_n 0, 1, false), (2, Instr.arraylength, 1, false), (3, Instr.if_icmp .ge 9, 3, false), (6, Instr.aload_n 0, 1, false), (7, Instr.iload_n 1, 1, false), (8, Instr.iaload, 1, false), (9, Instr.goto 4, 3, false), (12, Instr.iconst 0, 1, false), (13, Instr.ireturn, 1, false)]
/-- PaymentHubLaw.law([I)Z -/
def zi_219 : zIs := [(0, Instr.new 7, 3, false), (3, Instr.dup, 1, false), (4, Instr.aload_n 0, 1, false), (5, Instr.iconst 0, 1, false), (6, Instr.invokestatic 9, 3, false), (9, Instr.aload_n 0, 1, false), (10, Instr.iconst 1, 1, false), (11, Instr.invokestatic 9, 3, false), (14, Instr.invokespecial 15, 3, false), (17, Instr.astore_n 1, 1, false), (18, Instr.new 18, 3, false), (21, Instr.dup, 1, false), (22, Instr.aload_n 0, 1, false), (23, Instr.iconst 0, 1, false), (24, Instr.invokestatic 9, 3, false), (27, Instr.aload_n 0, 1, false), (28, Instr.iconst 1, 1, false), (29, Instr.invokestatic 9, 3, false), (32, Instr.invokespecial 20, 3, false), (35, Instr.astore_n 2, 1, false), (36, Instr.iconst 2, 1, false), (37, Instr.istore_n 3, 1, false), (38, Instr.iload_n 3, 1, true), (39, Instr.aload_n 0, 1, false), (40, Instr.arraylength, 1, false), (41, Instr.iconst 4, 1, false), (42, Instr.isub, 1, false), (43, Instr.if_icmp .gt 476, 3, false), (46, Instr.aload_n 0, 1, false), (47, Instr.iload_n 3, 1, false), (48, Instr.iaload, 1, false), (49, Instr.bipush 15, 2, false), (51, Instr.iand, 1, false), (52, Instr.tableswitch 461 0 14 #[76, 139, 152, 165, 188, 201, 234, 247, 260, 283, 316, 339, 372, 405, 438], 76, false), (128, Instr.aload_n 1, 1, false), (129, Instr.aload_n 0, 1, false), (130, Instr.iload_n 3, 1, false), (131, Instr.iconst 1, 1, false), (132, Instr.iadd, 1, false), (133, Instr.iaload, 1, false), (134, Instr.i2l, 1, false), (135, Instr.bipush 32, 2, false), (137, Instr.lshl, 1, false), (138, Instr.aload_n 0, 1, false), (139, Instr.iload_n 3, 1, false), (140, Instr.iconst 2, 1, false), (141, Instr.iadd, 1, false), (142, Instr.iaload, 1, false), (143, Instr.i2l, 1, false), (144, Instr.ldc2_w 21, 3, false), (147, Instr.land, 1, false), (148, Instr.lor, 1, false), (149, Instr.aload_n 0, 1, false), (150, Instr.iload_n 3, 1, false), (151, Instr.iconst 3, 1, false), (152, Instr.iadd, 1, false), (153, Instr.iaload, 1, false), (154, Instr.invokevirtual 23, 3, false), (157, Instr.aload_n 2, 1, false), (158, Instr.aload_n 0, 1, false), (159, Instr.iload_n 3, 1, false), (160, Instr.iconst 1, 1, false), (161, Instr.iadd, 1, false), (162, Instr.iaload, 1, false), (163, Instr.i2l, 1, false), (164, Instr.bipush 32, 2, false), (166, Instr.lshl, 1, false), (167, Instr.aload_n 0, 1, false), (168, Instr.iload_n 3, 1, false), (169, Instr.iconst 2, 1, false), (170, Instr.iadd, 1, false), (171, Instr.iaload, 1, false), (172, Instr.i2l, 1, false), (173, Instr.ldc2_w 21, 3, false), (176, Instr.land, 1, false), (177, Instr.lor, 1, false), (178, Instr.aload_n 0, 1, false), (179, Instr.iload_n 3, 1, false), (180, Instr.iconst 3, 1, false), (181, Instr.iadd, 1, false), (182, Instr.iaload, 1, false), (183, Instr.invokevirtual 27, 3, false), (186, Instr.if_icmp .eq 327, 3, false), (189, Instr.iconst 0, 1, false), (190, Instr.ireturn, 1, false), (191, Instr.aload_n 1, 1, false), (192, Instr.invokevirtual 28, 3, false), (195, Instr.aload_n 2, 1, false), (196, Instr.invokevirtual 32, 3, false), (199, Instr.if_icmp .eq 314, 3, false), (202, Instr.iconst 0, 1, false), (203, Instr.ireturn, 1, false), (204, Instr.aload_n 1, 1, false), (205, Instr.invokevirtual 33, 3, false), (208, Instr.aload_n 2, 1, false), (209, Instr.invokevirtual 36, 3, false), (212, Instr.if_icmp .eq 301, 3, false), (215, Instr.iconst 0, 1, false), (216, Instr.ireturn, 1, false), (217, Instr.aload_n 1, 1, false), (218, Instr.aload_n 0, 1, false), (219, Instr.iload_n 3, 1, false), (220, Instr.iconst 1, 1, false), (221, Instr.iadd, 1, false), (222, Instr.iaload, 1, false), (223, Instr.invokevirtual 37, 3, false), (226, Instr.aload_n 2, 1, false), (227, Instr.aload_n 0, 1, false), (228, Instr.iload_n 3, 1, false), (229, Instr.iconst 1, 1, false), (230, Instr.iadd, 1, false), (231, Instr.iaload, 1, false), (232, Instr.invokevirtual 41, 3, false), (235, Instr.if_icmp .eq 278, 3, false), (238, Instr.iconst 0, 1, false), (239, Instr.ireturn, 1, false), (240, Instr.aload_n 1, 1, false), (241, Instr.invokevirtual 42, 3, false), (244, Instr.aload_n 2, 1, false), (245, Instr.invokevirtual 45, 3, false), (248, Instr.if_icmp .eq 265, 3, false), (251, Instr.iconst 0, 1, false), (252, Instr.ireturn, 1, false), (253, Instr.aload_n 1, 1, false), (254, Instr.aload_n 0, 1, false), (255, Instr.iload_n 3, 1, false), (256, Instr.iconst 1, 1, false), (257, Instr.iadd, 1, false), (258, Instr.iaload, 1, false), (259, Instr.aload_n 0, 1, false), (260, Instr.iload_n 3, 1, false), (261, Instr.iconst 2, 1, false), (262, Instr.iadd, 1, false), (263, Instr.iaload, 1, false), (264, Instr.invokevirtual 46, 3, false), (267, Instr.aload_n 2, 1, false), (268, Instr.aload_n 0, 1, false), (269, Instr.iload_n 3, 1, false), (270, Instr.iconst 1, 1, false), (271, Instr.iadd, 1, false), (272, Instr.iaload, 1, false), (273, Instr.aload_n 0, 1, false), (274, Instr.iload_n 3, 1, false), (275, Instr.iconst 2, 1, false), (276, Instr.iadd, 1, false), (277, Instr.iaload, 1, false), (278, Instr.invokevirtual 50, 3, false), (281, Instr.if_icmp .eq 232, 3, false), (284, Instr.iconst 0, 1, false), (285, Instr.ireturn, 1, false), (286, Instr.aload_n 1, 1, false), (287, Instr.invokevirtual 51, 3, false), (290, Instr.aload_n 2, 1, false), (291, Instr.invokevirtual 55, 3, false), (294, Instr.if_icmp .eq 219, 3, false), (297, Instr.iconst 0, 1, false), (298, Instr.ireturn, 1, false), (299, Instr.aload_n 1, 1, false), (300, Instr.invokevirtual 56, 3, false), (303, Instr.aload_n 2, 1, false), (304, Instr.invokevirtual 59, 3, false), (307, Instr.if_icmp .eq 206, 3, false), (310, Instr.iconst 0, 1, false), (311, Instr.ireturn, 1, false), (312, Instr.aload_n 1, 1, false), (313, Instr.aload_n 0, 1, false), (314, Instr.iload_n 3, 1, false), (315, Instr.iconst 1, 1, false), (316, Instr.iadd, 1, false), (317, Instr.iaload, 1, false), (318, Instr.invokevirtual 60, 3, false), (321, Instr.aload_n 2, 1, false), (322, Instr.aload_n 0, 1, false), (323, Instr.iload_n 3, 1, false), (324, Instr.iconst 1, 1, false), (325, Instr.iadd, 1, false), (326, Instr.iaload, 1, false), (327, Instr.invokevirtual 63, 3, false), (330, Instr.if_icmp .eq 183, 3, false), (333, Instr.iconst 0, 1, false), (334, Instr.ireturn, 1, false), (335, Instr.aload_n 1, 1, false), (336, Instr.aload_n 0, 1, false), (337, Instr.iload_n 3, 1, false), (338, Instr.iconst 1, 1, false), (339, Instr.iadd, 1, false), (340, Instr.iaload, 1, false), (341, Instr.aload_n 0, 1, false), (342, Instr.iload_n 3, 1, false), (343, Instr.iconst 2, 1, false), (344, Instr.iadd, 1, false), (345, Instr.iaload, 1, false), (346, Instr.invokevirtual 64, 3, false), (349, Instr.aload_n 2, 1, false), (350, Instr.aload_n 0, 1, false), (351, Instr.iload_n 3, 1, false), (352, Instr.iconst 1, 1, false), (353, Instr.iadd, 1, false), (354, Instr.iaload, 1, false), (355, Instr.aload_n 0, 1, false), (356, Instr.iload_n 3, 1, false), (357, Instr.iconst 2, 1, false), (358, Instr.iadd, 1, false), (359, Instr.iaload, 1, false), (360, Instr.invokevirtual 68, 3, false), (363, Instr.if_icmp .eq 150, 3, false), (366, Instr.iconst 0, 1, false), (367, Instr.ireturn, 1, false), (368, Instr.aload_n 1, 1, false), (369, Instr.aload_n 0, 1, false), (370, Instr.iload_n 3, 1, false), (371, Instr.iconst 1, 1, false), (372, Instr.iadd, 1, false), (373, Instr.iaload, 1, false), (374, Instr.invokevirtual 69, 3, false), (377, Instr.aload_n 2, 1, false), (378, Instr.aload_n 0, 1, false), (379, Instr.iload_n 3, 1, false), (380, Instr.iconst 1, 1, false), (381, Instr.iadd, 1, false), (382, Instr.iaload, 1, false), (383, Instr.invokevirtual 72, 3, false), (386, Instr.if_icmp .eq 127, 3, false), (389, Instr.iconst 0, 1, false), (390, Instr.ireturn, 1, false), (391, Instr.aload_n 1, 1, false), (392, Instr.aload_n 0, 1, false), (393, Instr.iload_n 3, 1, false), (394, Instr.iconst 1, 1, false), (395, Instr.iadd, 1, false), (396, Instr.iaload, 1, false), (397, Instr.aload_n 0, 1, false), (398, Instr.iload_n 3, 1, false), (399, Instr.iconst 2, 1, false), (400, Instr.iadd, 1, false), (401, Instr.iaload, 1, false), (402, Instr.invokevirtual 73, 3, false), (405, Instr.aload_n 2, 1, false), (406, Instr.aload_n 0, 1, false), (407, Instr.iload_n 3, 1, false), (408, Instr.iconst 1, 1, false), (409, Instr.iadd, 1, false), (410, Instr.iaload, 1, false), (411, Instr.aload_n 0, 1, false), (412, Instr.iload_n 3, 1, false), (413, Instr.iconst 2, 1, false), (414, Instr.iadd, 1, false), (415, Instr.iaload, 1, false), (416, Instr.invokevirtual 76, 3, false), (419, Instr.if_icmp .eq 94, 3, false), (422, Instr.iconst 0, 1, false), (423, Instr.ireturn, 1, false), (424, Instr.aload_n 1, 1, false), (425, Instr.aload_n 0, 1, false), (426, Instr.iload_n 3, 1, false), (427, Instr.iconst 1, 1, false), (428, Instr.iadd, 1, false), (429, Instr.iaload, 1, false), (430, Instr.aload_n 0, 1, false), (431, Instr.iload_n 3, 1, false), (432, Instr.iconst 2, 1, false), (433, Instr.iadd, 1, false), (434, Instr.iaload, 1, false), (435, Instr.invokevirtual 77, 3, false), (438, Instr.aload_n 2, 1, false), (439, Instr.aload_n 0, 1, false), (440, Instr.iload_n 3, 1, false), (441, Instr.iconst 1, 1, false), (442, Instr.iadd, 1, false), (443, Instr.iaload, 1, false), (444, Instr.aload_n 0, 1, false), (445, Instr.iload_n 3, 1, false), (446, Instr.iconst 2, 1, false), (447, Instr.iadd, 1, false), (448, Instr.iaload, 1, false), (449, Instr.invokevirtual 80, 3, false), (452, Instr.if_icmp .eq 61, 3, false), (455, Instr.iconst 0, 1, false), (456, Instr.ireturn, 1, false), (457, Instr.aload_n 1, 1, false), (458, Instr.aload_n 0, 1, false), (459, Instr.iload_n 3, 1, false), (460, Instr.iconst 1, 1, false), (461, Instr.iadd, 1, false), (462, Instr.iaload, 1, false), (463, Instr.aload_n 0, 1, false), (464, Instr.iload_n 3, 1, false), (465, Instr.iconst 2, 1, false), (466, Instr.iadd, 1, false), (467, Instr.iaload, 1, false), (468, Instr.invokevirtual 81, 3, false), (471, Instr.aload_n 2, 1, false), (472, Instr.aload_n 0, 1, false), (473, Instr.iload_n 3, 1, false), (474, Instr.iconst 1, 1, false), (475, Instr.iadd, 1, false), (476, Instr.iaload, 1, false), (477, Instr.aload_n 0, 1, false), (478, Instr.iload_n 3, 1, false), (479, Instr.iconst 2, 1, false), (480, Instr.iadd, 1, false), (481, Instr.iaload, 1, false), (482, Instr.invokevirtual 84, 3, false), (485, Instr.if_icmp .eq 28, 3, false), (488, Instr.iconst 0, 1, false), (489, Instr.ireturn, 1, false), (490, Instr.aload_n 1, 1, false), (491, Instr.aload_n 0, 1, false), (492, Instr.iload_n 3, 1, false), (493, Instr.iconst 1, 1, false), (494, Instr.iadd, 1, false), (495, Instr.iaload, 1, false), (496, Instr.invokevirtual 85, 3, false), (499, Instr.aload_n 2, 1, false), (500, Instr.aload_n 0, 1, false), (501, Instr.iload_n 3, 1, false), (502, Instr.iconst 1, 1, false), (503, Instr.iadd, 1, false), (504, Instr.iaload, 1, false), (505, Instr.invokevirtual 88, 3, false), (508, Instr.if_icmp .eq 5, 3, false), (511, Instr.iconst 0, 1, false), (512, Instr.ireturn, 1, false), (513, Instr.iinc 3 4, 3, false), (516, Instr.goto (-478), 3, false), (519, Instr.iconst 1, 1, false), (520, Instr.ireturn, 1, false)]
/-- java/lang/String.length()I -/
def zi_220 : zIs := [(0, Instr.aload_n 0, 1, false), (1, Instr.getfield 9, 3, false), (4, Instr.arraylength, 1, false), (5, Instr.aload_n 0, 1, false), (6, Instr.invokevirtual 335, 3, false), (9, Instr.ishr, 1, false), (10, Instr.ireturn, 1, false)]
/-- java/lang/String.isEmpty()Z -/
def zi_221 : zIs := [(0, Instr.aload_n 0, 1, false), (1, Instr.getfield 9, 3, false), (4, Instr.arraylength, 1, false), (5, Instr.ifCond .ne 7, 3, false), (8, Instr.iconst 1, 1, false), (9, Instr.goto 4, 3, false), (12, Instr.iconst 0, 1, false), (13, Instr.ireturn, 1, false)]
/-- java/lang/String.charAt(I)C -/
def zi_222 : zIs := [(0, Instr.aload_n 0, 1, false), (1, Instr.invokevirtual 492, 3, false), (4, Instr.ifCond .eq 12, 3, false), (7, Instr.aload_n 0, 1, false), (8, Instr.getfield 9, 3, false), (11, Instr.iload_n 1, 1, false), (12, Instr.invokestatic 495, 3, false), (15, Instr.ireturn, 1, false), (16, Instr.aload_n 0, 1, false), (17, Instr.getfield 9, 3, false), (20, Instr.iload_n 1, 1, false), (21, Instr.invokestatic 498, 3, false), (24, Instr.ireturn, 1, false)]
/-- java/lang/String.coder()B -/
def zi_223 : zIs := [(0, Instr.getstatic 38, 3, false), (3, Instr.ifCond .eq 10, 3, false), (6, Instr.aload_n 0, 1, false), (7, Instr.getfield 15, 3, false), (10, Instr.goto 4, 3, false), (13, Instr.iconst 1, 1, false), (14, Instr.ireturn, 1, false)]
/-- java/lang/String.isLatin1()Z -/
def zi_224 : zIs := [(0, Instr.getstatic 38, 3, false), (3, Instr.ifCond .eq 14, 3, false), (6, Instr.aload_n 0, 1, false), (7, Instr.getfield 15, 3, false), (10, Instr.ifCond .ne 7, 3, false), (13, Instr.iconst 1, 1, false), (14, Instr.goto 4, 3, false), (17, Instr.iconst 0, 1, false), (18, Instr.ireturn, 1, false)]
/-- java/lang/String.checkIndex(II)V -/
def zi_225 : zIs := [(0, Instr.iload_n 0, 1, false), (1, Instr.iload_n 1, 1, false), (2, Instr.getstatic 1053, 3, false), (5, Instr.invokestatic 1059, 3, false), (8, Instr.pop, 1, false), (9, Instr.return_, 1, false)]
/-- java/lang/StringLatin1.charAt([BI)C -/
def zi_226 : zIs := [(0, Instr.iload_n 1, 1, false), (1, Instr.aload_n 0, 1, false), (2, Instr.arraylength, 1, false), (3, Instr.invokestatic 9, 3, false), (6, Instr.aload_n 0, 1, false), (7, Instr.iload_n 1, 1, false), (8, Instr.baload, 1, false), (9, Instr.sipush 255, 3, false), (12, Instr.iand, 1, false), (13, Instr.i2c, 1, false), (14, Instr.ireturn, 1, false)]
/-- java/lang/StringUTF16.getChar([BI)C -/
def zi_227 : zIs := [(0, Instr.getstatic 44, 3, false), (3, Instr.ifCond .ne 25, 3, false), (6, Instr.iload_n 1, 1, false), (7, Instr.ifCond .lt 11, 3, false), (10, Instr.iload_n 1, 1, false), (11, Instr.aload_n 0, 1, false), (12, Instr.invokestatic 48, 3, false), (15, Instr.if_icmp .lt 13, 3, false), (18, Instr.new 52, 3, false), (21, Instr.dup, 1, false), (22, Instr.ldc 54, 2, false), (24, Instr.invokespecial 56, 3, false), (27, Instr.athrow, 1, false), (28, Instr.iload_n 1, 1, false), (29, Instr.iconst 1, 1, false), (30, Instr.ishl, 1, false), (31, Instr.istore_n 1, 1, false), (32, Instr.aload_n 0, 1, false), (33, Instr.iload_n 1, 1, false), (34, Instr.iinc 1 1, 3, false), (37, Instr.baload, 1, false), (38, Instr.sipush 255, 3, false), (41, Instr.iand, 1, false), (42, Instr.getstatic 59, 3, false), (45, Instr.ishl, 1, false), (46, Instr.aload_n 0, 1, false), (47, Instr.iload_n 1, 1, false), (48, Instr.baload, 1, false), (49, Instr.sipush 255, 3, false), (52, Instr.iand, 1, false), (53, Instr.getstatic 63, 3, false), (56, Instr.ishl, 1, false), (57, Instr.ior, 1, false), (58, Instr.i2c, 1, false), (59, Instr.ireturn, 1, false)]
/-- java/lang/StringUTF16.length([B)I -/
def zi_228 : zIs := [(0, Instr.aload_n 0, 1, false), (1, Instr.arraylength, 1, false), (2, Instr.iconst 1, 1, false), (3, Instr.ishr, 1, false), (4, Instr.ireturn, 1, false)]
/-- java/lang/StringUTF16.charAt([BI)C -/
def zi_229 : zIs := [(0, Instr.iload_n 1, 1, false), (1, Instr.aload_n 0, 1, false), (2, Instr.invokestatic 67, 3, false), (5, Instr.aload_n 0, 1, false), (6, Instr.iload_n 1, 1, false), (7, Instr.invokestatic 71, 3, false), (10, Instr.ireturn, 1, false)]
/-- java/lang/StringUTF16.checkIndex(I[B)V -/
def zi_230 : zIs := [(0, Instr.iload_n 0, 1, false), (1, Instr.aload_n 1, 1, false), (2, Instr.invokestatic 48, 3, false), (5, Instr.invokestatic 414, 3, false), (8, Instr.return_, 1, false)]
/-- jdk/internal/util/Preconditions.checkIndex(IILjava/util/function/BiFunction;)I -/
def zi_231 : zIs := [(0, Instr.iload_n 0, 1, false), (1, Instr.ifCond .lt 8, 3, false), (4, Instr.iload_n 0, 1, false), (5, Instr.iload_n 1, 1, false), (6, Instr.if_icmp .lt 10, 3, false), (9, Instr.aload_n 2, 1, false), (10, Instr.iload_n 0, 1, false), (11, Instr.iload_n 1, 1, false), (12, Instr.invokestatic 95, 3, false), (15, Instr.athrow, 1, false), (16, Instr.iload_n 0, 1, false), (17, Instr.ireturn, 1, false)]
/-- java/lang/Math.max(II)I -/
def zi_232 : zIs := [(0, Instr.iload_n 0, 1, false), (1, Instr.iload_n 1, 1, false), (2, Instr.if_icmp .lt 7, 3, false), (5, Instr.iload_n 0, 1, false), (6, Instr.goto 4, 3, false), (9, Instr.iload_n 1, 1, false), (10, Instr.ireturn, 1, false)]
/-- java/lang/Math.min(II)I -/
def zi_233 : zIs := [(0, Instr.iload_n 0, 1, false), (1, Instr.iload_n 1, 1, false), (2, Instr.if_icmp .gt 7, 3, false), (5, Instr.iload_n 0, 1, false), (6, Instr.goto 4, 3, false), (9, Instr.iload_n 1, 1, false), (10, Instr.ireturn, 1, false)]
def zIT : List (List zIs) := [[zi_0, zi_1, zi_2, zi_3, zi_4, zi_5, zi_6, zi_7, zi_8, zi_9, zi_10, zi_11, zi_12, zi_13, zi_14, zi_15], [zi_16, zi_17, zi_18, zi_19, zi_20, zi_21, zi_22, zi_23, zi_24, zi_25, zi_26, zi_27, zi_28, zi_29, zi_30, zi_31], [zi_32, zi_33, zi_34, zi_35, zi_36, zi_37, zi_38, zi_39, zi_40, zi_41, zi_42, zi_43, zi_44, zi_45, zi_46, zi_47], [zi_48, zi_49, zi_50, zi_51, zi_52, zi_53, zi_54, zi_55, zi_56, zi_57, zi_58, zi_59, zi_60, zi_61, zi_62, zi_63], [zi_64, zi_65, zi_66, zi_67, zi_68, zi_69, zi_70, zi_71, zi_72, zi_73, zi_74, zi_75, zi_76, zi_77, zi_78, zi_79], [zi_80, zi_81, zi_82, zi_83, zi_84, zi_85, zi_86, zi_87, zi_88, zi_89, zi_90, zi_91, zi_92, zi_93, zi_94, zi_95], [zi_96, zi_97, zi_98, zi_99, zi_100, zi_101, zi_102, zi_103, zi_104, zi_105, zi_106, zi_107, zi_108, zi_109, zi_110, zi_111], [zi_112, zi_113, zi_114, zi_115, zi_116, zi_117, zi_118, zi_119, zi_120, zi_121, zi_122, zi_123, zi_124, zi_125, zi_126, zi_127], [zi_128, zi_129, zi_130, zi_131, zi_132, zi_133, zi_134, zi_135, zi_136, zi_137, zi_138, zi_139, zi_140, zi_141, zi_142, zi_143], [zi_144, zi_145, zi_146, zi_147, zi_148, zi_149, zi_150, zi_151, zi_152, zi_153, zi_154, zi_155, zi_156, zi_157, zi_158, zi_159], [zi_160, zi_161, zi_162, zi_163, zi_164, zi_165, zi_166, zi_167, zi_168, zi_169, zi_170, zi_171, zi_172, zi_173, zi_174, zi_175], [zi_176, zi_177, zi_178, zi_179, zi_180, zi_181, zi_182, zi_183, zi_184, zi_185, zi_186, zi_187, zi_188, zi_189, zi_190, zi_191], [zi_192, zi_193, zi_194, zi_195, zi_196, zi_197, zi_198, zi_199, zi_200, zi_201, zi_202, zi_203, zi_204, zi_205, zi_206, zi_207], [zi_208, zi_209, zi_210, zi_211, zi_212, zi_213, zi_214, zi_215, zi_216, zi_217, zi_218, zi_219, zi_220, zi_221, zi_222, zi_223], [zi_224, zi_225, zi_226, zi_227, zi_228, zi_229, zi_230, zi_231, zi_232, zi_233]]
def zI (k : Nat) : zIs := (zIT.getD (k / 16) []).getD (k % 16) []
/-- owner, name, code, locals, answer, frames, words, arguments, cells, slots made -/
abbrev zRec : Type := Nat × MethodName × ByteArray × Nat × Option FieldType × Nat × Nat × Nat × Nat × Nat
def zMT : List (List zRec) := [[(0, yX0_init, cX0_init, 4, none, 1, 20, 3, 8, 176), (0, yX0_available, cX0_available, 2, (some .int), 2, 42, 2, 0, 0), (0, yX0_balanceOf, cX0_balanceOf, 2, (some .int), 1, 21, 2, 0, 0), (0, yX0_reservedOn, cX0_reservedOn, 2, (some .int), 1, 21, 2, 0, 0), (0, yX0_entriesOf, cX0_entriesOf, 2, (some .int), 1, 21, 2, 0, 0), (0, yX0_entryAt, cX0_entryAt, 3, (some .int), 1, 21, 3, 0, 0), (0, yX0_reserve, cX0_reserve, 3, none, 1, 21, 3, 0, 0), (0, yX0_book, cX0_book, 3, none, 1, 21, 3, 0, 0), (0, yX0_has, cX0_has, 2, (some .boolean), 0, 0, 2, 0, 0), (1, yX1_init, cX1_init, 2, none, 1, 20, 2, 0, 0), (1, yX1_compose, cX1_compose, 3, none, 6, 131, 2, 0, 0), (1, yX1_addRow, cX1_addRow, 6, none, 5, 106, 4, 0, 0), (1, yX1_addBegin, cX1_addBegin, 2, none, 1, 21, 2, 0, 0), (1, yX1_addEnd, cX1_addEnd, 2, none, 1, 21, 2, 0, 0), (1, yX1_addValue, cX1_addValue, 3, none, 2, 44, 3, 0, 0), (1, yX1_addName, cX1_addName, 4, none, 1, 21, 2, 0, 0)], [(1, yX1_addNumber, cX1_addNumber, 3, none, 1, 21, 2, 0, 0), (1, yX1_addTwoDigits, cX1_addTwoDigits, 2, none, 1, 21, 2, 0, 0), (2, yX2_init, cX2_init, 3, none, 2, 43, 3, 23, 555), (2, yX2_knows, cX2_knows, 3, (some .boolean), 0, 0, 2, 0, 0), (2, yX2_knowsAnyOf, cX2_knowsAnyOf, 3, (some .boolean), 2, 42, 2, 0, 0), (2, yX2_canPay, cX2_canPay, 2, (some .boolean), 3, 63, 2, 0, 0), (2, yX2_take, cX2_take, 2, none, 5, 109, 2, 0, 0), (2, yX2_hold, cX2_hold, 3, none, 2, 43, 3, 0, 0), (2, yX2_letWait, cX2_letWait, 2, none, 2, 43, 2, 0, 0), (2, yX2_reject, cX2_reject, 2, none, 3, 65, 2, 0, 0), (2, yX2_receive, cX2_receive, 5, none, 3, 66, 2, 0, 0), (2, yX2_answer, cX2_answer, 3, none, 4, 87, 3, 0, 0), (2, yX2_settle, cX2_settle, 3, none, 3, 65, 2, 0, 0), (2, yX2_giveBack, cX2_giveBack, 3, none, 3, 65, 3, 0, 0), (2, yX2_end, cX2_end, 3, none, 2, 43, 3, 0, 0), (3, yX3_init, cX3_init, 2, none, 2, 41, 2, 2, 22)], [(3, yX3_take, cX3_take, 3, (some .boolean), 6, 132, 1, 0, 0), (3, yX3_takeRow, cX3_takeRow, 7, (some .boolean), 5, 106, 4, 0, 0), (3, yX3_kind, cX3_kind, 1, (some .int), 0, 0, 1, 0, 0), (3, yX3_size, cX3_size, 1, (some .int), 0, 0, 1, 0, 0), (3, yX3_placeOf, cX3_placeOf, 2, (some .int), 0, 0, 2, 0, 0), (3, yX3_valueAt, cX3_valueAt, 2, (some .int), 0, 0, 2, 0, 0), (3, yX3_name, cX3_name, 1, (some .int), 1, 21, 1, 0, 0), (3, yX3_number, cX3_number, 1, (some .int), 1, 21, 1, 0, 0), (3, yX3_sum, cX3_sum, 1, (some .int), 1, 21, 1, 0, 0), (3, yX3_original, cX3_original, 1, (some .int), 1, 21, 1, 0, 0), (3, yX3_verdict, cX3_verdict, 1, (some .int), 1, 21, 1, 0, 0), (3, yX3_returned, cX3_returned, 1, (some .int), 1, 21, 1, 0, 0), (3, yX3_nameOf, cX3_nameOf, 2, (some .int), 1, 21, 2, 0, 0), (3, yX3_debtorOf, cX3_debtorOf, 2, (some .int), 1, 21, 2, 0, 0), (3, yX3_creditorOf, cX3_creditorOf, 2, (some .int), 1, 21, 2, 0, 0), (3, yX3_amountOf, cX3_amountOf, 2, (some .int), 1, 21, 2, 0, 0)], [(3, yX3_total, cX3_total, 3, (some .int), 2, 42, 1, 0, 0), (3, yX3_hasGoodAccounts, cX3_hasGoodAccounts, 2, (some .boolean), 2, 42, 1, 0, 0), (3, yX3_joinsDifferentAccounts, cX3_joinsDifferentAccounts, 2, (some .boolean), 2, 42, 1, 0, 0), (3, yX3_hasDifferentNames, cX3_hasDifferentNames, 3, (some .boolean), 2, 42, 1, 0, 0), (4, yX4_init, cX4_init, 1, none, 1, 20, 1, 2, 5505), (4, yX4_isDown, cX4_isDown, 1, (some .boolean), 0, 0, 1, 0, 0), (4, yX4_length, cX4_length, 1, (some .int), 0, 0, 1, 0, 0), (4, yX4_byteAt, cX4_byteAt, 2, (some .int), 0, 0, 2, 0, 0), (4, yX4_breakAfter, cX4_breakAfter, 3, none, 0, 0, 3, 0, 0), (4, yX4_restore, cX4_restore, 1, none, 0, 0, 1, 0, 0), (4, yX4_begin, cX4_begin, 2, none, 1, 21, 2, 0, 0), (4, yX4_add, cX4_add, 2, none, 0, 0, 2, 0, 0), (4, yX4_writeNumber, cX4_writeNumber, 3, (some .boolean), 2, 42, 3, 0, 0), (4, yX4_write, cX4_write, 1, (some .boolean), 1, 22, 1, 0, 0), (4, yX4_check, cX4_check, 3, (some .int), 0, 0, 1, 0, 0), (4, yX4_append, cX4_append, 3, none, 0, 0, 2, 0, 0)], [(5, yX5_init, cX5_init, 1, none, 1, 20, 1, 4, 160), (5, yX5_has, cX5_has, 2, (some .boolean), 0, 0, 2, 0, 0), (5, yX5_add, cX5_add, 3, none, 0, 0, 3, 0, 0), (5, yX5_transactionOf, cX5_transactionOf, 2, (some .int), 1, 21, 2, 0, 0), (5, yX5_statusOf, cX5_statusOf, 2, (some .int), 1, 21, 2, 0, 0), (5, yX5_isMarked, cX5_isMarked, 2, (some .boolean), 1, 21, 2, 0, 0), (5, yX5_copiesOf, cX5_copiesOf, 2, (some .int), 1, 21, 2, 0, 0), (5, yX5_firstUnmarked, cX5_firstUnmarked, 2, (some .int), 0, 0, 1, 0, 0), (5, yX5_copy, cX5_copy, 2, none, 1, 21, 2, 0, 0), (5, yX5_mark, cX5_mark, 2, none, 1, 21, 2, 0, 0), (6, yX6_init, cX6_init, 2, none, 1, 20, 2, 1, 300), (6, yX6_length, cX6_length, 1, (some .int), 0, 0, 1, 0, 0), (6, yX6_hasRoomFor, cX6_hasRoomFor, 2, (some .boolean), 0, 0, 2, 0, 0), (6, yX6_add, cX6_add, 2, none, 0, 0, 2, 0, 0), (6, yX6_clear, cX6_clear, 1, none, 0, 0, 1, 0, 0), (6, yX6_read, cX6_read, 2, (some .boolean), 5, 105, 1, 0, 0)], [(6, yX6_readNext, cX6_readNext, 2, (some .boolean), 4, 84, 1, 0, 0), (6, yX6_readSign, cX6_readSign, 1, (some .boolean), 3, 64, 1, 0, 0), (6, yX6_readComment, cX6_readComment, 2, (some .boolean), 1, 22, 1, 0, 0), (6, yX6_readBegin, cX6_readBegin, 2, (some .boolean), 2, 43, 1, 0, 0), (6, yX6_readEnd, cX6_readEnd, 2, (some .boolean), 2, 43, 1, 0, 0), (6, yX6_readClosingSign, cX6_readClosingSign, 2, (some .boolean), 1, 22, 1, 0, 0), (6, yX6_readReference, cX6_readReference, 4, (some .boolean), 2, 43, 1, 0, 0), (6, yX6_skipBlanks, cX6_skipBlanks, 1, none, 1, 22, 1, 0, 0), (6, yX6_peek, cX6_peek, 3, (some .int), 0, 0, 2, 0, 0), (7, yX7_init, cX7_init, 1, none, 1, 20, 1, 7, 140), (7, yX7_has, cX7_has, 2, (some .boolean), 0, 0, 2, 0, 0), (7, yX7_hasRoomFor, cX7_hasRoomFor, 2, (some .boolean), 0, 0, 2, 0, 0), (7, yX7_find, cX7_find, 3, (some .int), 0, 0, 2, 0, 0), (7, yX7_statusOf, cX7_statusOf, 2, (some .int), 1, 21, 2, 0, 0), (7, yX7_amountOf, cX7_amountOf, 2, (some .int), 1, 21, 2, 0, 0), (7, yX7_debtorOf, cX7_debtorOf, 2, (some .int), 1, 21, 2, 0, 0)], [(7, yX7_creditorOf, cX7_creditorOf, 2, (some .int), 1, 21, 2, 0, 0), (7, yX7_deadlineOf, cX7_deadlineOf, 2, (some .int), 1, 21, 2, 0, 0), (7, yX7_isDue, cX7_isDue, 3, (some .boolean), 1, 21, 3, 0, 0), (7, yX7_firstQueued, cX7_firstQueued, 1, (some .int), 1, 21, 1, 0, 0), (7, yX7_queuedAt, cX7_queuedAt, 2, (some .int), 0, 0, 2, 0, 0), (7, yX7_receive, cX7_receive, 5, none, 2, 42, 5, 0, 0), (7, yX7_become, cX7_become, 3, none, 1, 21, 3, 0, 0), (7, yX7_setDeadline, cX7_setDeadline, 3, none, 1, 21, 3, 0, 0), (7, yX7_dropFirstQueued, cX7_dropFirstQueued, 2, none, 0, 0, 1, 0, 0), (7, yX7_wakeThoseOf, cX7_wakeThoseOf, 3, none, 2, 42, 2, 0, 0), (7, yX7_enqueue, cX7_enqueue, 2, none, 1, 21, 2, 0, 0), (8, yX8_init, cX8_init, 1, none, 1, 20, 1, 7, 679), (8, yX8_clear, cX8_clear, 1, none, 0, 0, 1, 0, 0), (8, yX8_isOpen, cX8_isOpen, 1, (some .boolean), 0, 0, 1, 0, 0), (8, yX8_isComplete, cX8_isComplete, 1, (some .boolean), 0, 0, 1, 0, 0), (8, yX8_size, cX8_size, 1, (some .int), 0, 0, 1, 0, 0)], [(8, yX8_begin, cX8_begin, 2, (some .boolean), 0, 0, 2, 0, 0), (8, yX8_end, cX8_end, 3, (some .boolean), 1, 21, 2, 0, 0), (8, yX8_add, cX8_add, 3, (some .boolean), 1, 21, 2, 0, 0), (8, yX8_isAt, cX8_isAt, 4, (some .boolean), 1, 21, 4, 0, 0), (8, yX8_letterAt, cX8_letterAt, 2, (some .int), 1, 21, 2, 0, 0), (8, yX8_hasOnlyBlanks, cX8_hasOnlyBlanks, 2, (some .boolean), 1, 21, 2, 0, 0), (8, yX8_beginOf, cX8_beginOf, 2, (some .int), 1, 21, 2, 0, 0), (8, yX8_endOf, cX8_endOf, 2, (some .int), 1, 21, 2, 0, 0), (8, yX8_characterAt, cX8_characterAt, 2, (some .int), 0, 0, 2, 0, 0), (8, yX8_has, cX8_has, 2, (some .boolean), 0, 0, 2, 0, 0), (8, yX8_innermost, cX8_innermost, 1, (some .int), 0, 0, 1, 0, 0), (9, yX9_init, cX9_init, 2, none, 1, 20, 2, 0, 0), (9, yX9_read, cX9_read, 2, (some .int), 3, 72, 2, 0, 0), (9, yX9_trim, cX9_trim, 5, none, 1, 21, 3, 0, 0), (9, yX9_name, cX9_name, 4, (some .int), 1, 21, 1, 0, 0), (9, yX9_accountNumber, cX9_accountNumber, 3, (some .int), 2, 47, 1, 0, 0)], [(9, yX9_verdict, cX9_verdict, 2, (some .int), 1, 21, 1, 0, 0), (9, yX9_amount, cX9_amount, 6, (some .int), 2, 47, 1, 0, 0), (9, yX9_digits, cX9_digits, 7, (some .int), 1, 21, 4, 0, 0), (10, yX10_init, cX10_init, 4, none, 3, 65, 3, 41, 7095), (10, yX10_put, cX10_put, 5, (some .int), 2, 46, 3, 0, 0), (10, yX10_submit, cX10_submit, 3, (some .int), 7, 154, 1, 0, 0), (10, yX10_work, cX10_work, 2, (some .int), 4, 87, 1, 0, 0), (10, yX10_tick, cX10_tick, 3, (some .int), 4, 86, 2, 0, 0), (10, yX10_send, cX10_send, 2, (some .int), 3, 64, 1, 0, 0), (10, yX10_fail, cX10_fail, 3, (some .boolean), 1, 22, 3, 0, 0), (10, yX10_recover, cX10_recover, 1, (some .boolean), 1, 20, 1, 0, 0), (10, yX10_journal, cX10_journal, 1, (some .int), 1, 20, 1, 0, 0), (10, yX10_octet, cX10_octet, 2, (some .int), 1, 21, 2, 0, 0), (10, yX10_transaction, cX10_transaction, 3, (some .int), 2, 42, 3, 0, 0), (10, yX10_queue, cX10_queue, 2, (some .int), 1, 21, 2, 0, 0), (10, yX10_account, cX10_account, 3, (some .int), 2, 42, 3, 0, 0)], [(10, yX10_entry, cX10_entry, 3, (some .int), 2, 43, 3, 0, 0), (10, yX10_report, cX10_report, 3, (some .int), 2, 42, 3, 0, 0), (10, yX10_copies, cX10_copies, 2, (some .int), 2, 42, 2, 0, 0), (10, yX10_hold, cX10_hold, 3, (some .int), 3, 65, 2, 0, 0), (10, yX10_letWait, cX10_letWait, 2, (some .int), 3, 64, 2, 0, 0), (10, yX10_ruleBroken, cX10_ruleBroken, 1, (some .int), 4, 86, 1, 0, 0), (10, yX10_ruleBrokenByPayment, cX10_ruleBrokenByPayment, 2, (some .int), 3, 64, 1, 0, 0), (10, yX10_ruleBrokenByFollower, cX10_ruleBrokenByFollower, 3, (some .int), 2, 42, 2, 0, 0), (10, yX10_ruleBrokenByReturn, cX10_ruleBrokenByReturn, 3, (some .int), 3, 64, 1, 0, 0), (10, yX10_nearestMoney, cX10_nearestMoney, 1, (some .int), 1, 21, 1, 0, 0), (10, yX10_byteOf, cX10_byteOf, 3, (some .int), 0, 0, 2, 0, 0), (10, yX10_areReadable, cX10_areReadable, 5, (some .boolean), 1, 22, 2, 0, 0), (10, yX10_isDigit, cX10_isDigit, 1, (some .boolean), 0, 0, 1, 0, 0), (10, yX10_isLetter, cX10_isLetter, 1, (some .boolean), 0, 0, 1, 0, 0), (10, yX10_rowOf, cX10_rowOf, 1, (some (.object "java/lang/String")), 0, 0, 1, 0, 0), (10, yX10_letterPlaceOf, cX10_letterPlaceOf, 1, (some .int), 0, 0, 1, 0, 0)], [(11, yX11_init, cX11_init, 3, none, 6, 144, 3, 32, 9614), (11, yX11_put, cX11_put, 7, (some .int), 0, 0, 3, 0, 0), (11, yX11_sees, cX11_sees, 3, (some .boolean), 0, 0, 3, 0, 0), (11, yX11_isLetter, cX11_isLetter, 1, (some .boolean), 0, 0, 1, 0, 0), (11, yX11_isDigit, cX11_isDigit, 1, (some .boolean), 0, 0, 1, 0, 0), (11, yX11_skipBlanks, cX11_skipBlanks, 1, none, 0, 0, 1, 0, 0), (11, yX11_comment, cX11_comment, 2, none, 1, 22, 1, 0, 0), (11, yX11_closing, cX11_closing, 2, none, 1, 22, 1, 0, 0), (11, yX11_opening, cX11_opening, 2, none, 1, 22, 1, 0, 0), (11, yX11_letterIn, cX11_letterIn, 2, none, 0, 0, 2, 0, 0), (11, yX11_reference, cX11_reference, 4, none, 1, 22, 1, 0, 0), (11, yX11_isDocument, cX11_isDocument, 2, (some .boolean), 2, 45, 1, 0, 0), (11, yX11_child, cX11_child, 5, (some .int), 0, 0, 3, 0, 0), (11, yX11_isLeaf, cX11_isLeaf, 5, (some .boolean), 1, 24, 4, 0, 0), (11, yX11_name, cX11_name, 6, (some .int), 1, 20, 2, 0, 0), (11, yX11_small, cX11_small, 6, (some .int), 1, 20, 3, 0, 0)], [(11, yX11_placeOf, cX11_placeOf, 4, (some .int), 2, 45, 2, 0, 0), (11, yX11_amount, cX11_amount, 7, (some .int), 2, 45, 2, 0, 0), (11, yX11_readPart, cX11_readPart, 7, (some .boolean), 3, 71, 2, 0, 0), (11, yX11_isValid, cX11_isValid, 7, (some .boolean), 4, 97, 1, 0, 0), (11, yX11_isRight, cX11_isRight, 2, (some .boolean), 0, 0, 2, 0, 0), (11, yX11_known, cX11_known, 4, (some .int), 0, 0, 2, 0, 0), (11, yX11_brokenByPayment, cX11_brokenByPayment, 7, (some .int), 1, 23, 1, 0, 0), (11, yX11_brokenByAnswer, cX11_brokenByAnswer, 4, (some .int), 1, 23, 2, 0, 0), (11, yX11_broken, cX11_broken, 2, (some .int), 5, 123, 1, 0, 0), (11, yX11_byteOut, cX11_byteOut, 2, none, 0, 0, 2, 0, 0), (11, yX11_tagOut, cX11_tagOut, 3, none, 1, 21, 3, 0, 0), (11, yX11_numberOut, cX11_numberOut, 3, none, 1, 21, 2, 0, 0), (11, yX11_leafOut, cX11_leafOut, 5, none, 3, 71, 2, 0, 0), (11, yX11_canonical, cX11_canonical, 4, none, 4, 95, 1, 0, 0), (11, yX11_write, cX11_write, 7, (some .boolean), 6, 144, 2, 0, 0), (11, yX11_writeOne, cX11_writeOne, 3, (some .boolean), 7, 170, 3, 0, 0)], [(11, yX11_isTag, cX11_isTag, 3, (some .boolean), 0, 0, 3, 0, 0), (11, yX11_next, cX11_next, 4, (some .int), 1, 22, 3, 0, 0), (11, yX11_nameAt, cX11_nameAt, 4, (some .int), 0, 0, 2, 0, 0), (11, yX11_amountAt, cX11_amountAt, 4, (some .int), 0, 0, 2, 0, 0), (11, yX11_leaveRow, cX11_leaveRow, 4, none, 0, 0, 2, 0, 0), (11, yX11_enter, cX11_enter, 3, none, 0, 0, 3, 0, 0), (11, yX11_tell, cX11_tell, 5, none, 0, 0, 4, 0, 0), (11, yX11_reject, cX11_reject, 2, none, 1, 24, 2, 0, 0), (11, yX11_doMessage, cX11_doMessage, 9, none, 3, 72, 2, 0, 0), (11, yX11_doPart, cX11_doPart, 8, none, 2, 45, 3, 0, 0), (11, yX11_doRecord, cX11_doRecord, 4, none, 4, 100, 2, 0, 0), (11, yX11_replay, cX11_replay, 2, (some .int), 5, 123, 1, 0, 0), (11, yX11_submit, cX11_submit, 2, (some .int), 7, 170, 1, 0, 0), (11, yX11_work, cX11_work, 4, (some .int), 8, 192, 1, 0, 0), (11, yX11_tick, cX11_tick, 4, (some .int), 8, 192, 2, 0, 0), (11, yX11_send, cX11_send, 2, (some .int), 8, 192, 1, 0, 0)], [(11, yX11_fail, cX11_fail, 3, (some .boolean), 0, 0, 3, 0, 0), (11, yX11_recover, cX11_recover, 1, (some .boolean), 6, 144, 1, 0, 0), (11, yX11_journal, cX11_journal, 1, (some .int), 0, 0, 1, 0, 0), (11, yX11_octet, cX11_octet, 2, (some .int), 0, 0, 2, 0, 0), (11, yX11_transaction, cX11_transaction, 3, (some .int), 0, 0, 3, 0, 0), (11, yX11_queue, cX11_queue, 2, (some .int), 0, 0, 2, 0, 0), (11, yX11_account, cX11_account, 3, (some .int), 0, 0, 3, 0, 0), (11, yX11_entry, cX11_entry, 3, (some .int), 0, 0, 3, 0, 0), (11, yX11_report, cX11_report, 3, (some .int), 0, 0, 3, 0, 0), (11, yX11_copies, cX11_copies, 2, (some .int), 0, 0, 2, 0, 0), (12, yL_cell, cL_cell, 2, (some .int), 0, 0, 2, 0, 0), (12, yL_law, cL_law, 4, (some .boolean), 11, 430, 1, 0, 0), (13, yJ0_length_8abf5, cJ0_length_8abf5, 1, (some .int), 1, 20, 1, 0, 0), (13, yJ0_isEmpty_aae02, cJ0_isEmpty_aae02, 1, (some .boolean), 0, 0, 1, 0, 0), (13, yJ0_charAt_5068e, cJ0_charAt_5068e, 2, (some .char), 4, 85, 2, 0, 0), (13, yJ0_coder_7d493, cJ0_coder_7d493, 1, (some .byte), 0, 0, 1, 0, 0)], [(13, yJ0_isLatin1_aae02, cJ0_isLatin1_aae02, 1, (some .boolean), 0, 0, 1, 0, 0), (13, yJ0_checkIndex_df160, cJ0_checkIndex_df160, 2, none, 1, 22, 2, 0, 0), (14, yJ1_charAt_3b067, cJ1_charAt_3b067, 2, (some .char), 2, 43, 2, 0, 0), (15, yJ2_getChar_3b067, cJ2_getChar_3b067, 2, (some .char), 1, 20, 2, 0, 0), (15, yJ2_length_9d52b, cJ2_length_9d52b, 1, (some .int), 0, 0, 1, 0, 0), (15, yJ2_charAt_3b067, cJ2_charAt_3b067, 2, (some .char), 3, 64, 2, 0, 0), (15, yJ2_checkIndex_2214a, cJ2_checkIndex_2214a, 2, none, 2, 43, 2, 0, 0), (16, yJ3_checkIndex_8e157, cJ3_checkIndex_8e157, 3, (some .int), 0, 0, 3, 0, 0), (17, yJ9_max_7cf53, cJ9_max_7cf53, 2, (some .int), 0, 0, 2, 0, 0), (17, yJ9_min_7cf53, cJ9_min_7cf53, 2, (some .int), 0, 0, 2, 0, 0)]]
def zRc (k : Nat) : zRec := (zMT.getD (k / 16) []).getD (k % 16) (0, yL_law, code, 0, none, 0, 0, 0, 0, 0)
def zO (k : Nat) : Nat := (zRc k).1
def zY (k : Nat) : MethodName := (zRc k).2.1
def zC (k : Nat) : ByteArray := (zRc k).2.2.1
def zL (k : Nat) : Nat := (zRc k).2.2.2.1
def zRt (k : Nat) : Option FieldType := (zRc k).2.2.2.2.1
def zFr (k : Nat) : Nat := (zRc k).2.2.2.2.2.1
def zLo (k : Nat) : Nat := (zRc k).2.2.2.2.2.2.1
def zNa (k : Nat) : Nat := (zRc k).2.2.2.2.2.2.2.1
def zMc (k : Nat) : Nat := (zRc k).2.2.2.2.2.2.2.2.1
def zMs (k : Nat) : Nat := (zRc k).2.2.2.2.2.2.2.2.2
def zRN (o : Nat) : String := ([RX0, RX1, RX2, RX3, RX4, RX5, RX6, RX7, RX8, RX9, RX10, RX11, RL, RJ0, RJ1, RJ2, RJ3, RJ9] : List String).getD o ""
/-- fields of a class: 0 an int, 1 a boolean, 2 a reference -/
def zFk (c f : Nat) : Nat := (([[0, 2, 2, 2, 2], [2], [2, 2, 2, 2, 0], [2, 2, 2, 0, 0], [2, 0, 0, 2, 0, 1, 0, 0, 1], [2, 2, 2, 2, 0], [2, 2, 0, 0], [2, 2, 2, 2, 2, 2, 0, 2, 0], [2, 2, 2, 2, 2, 0, 2, 0, 2, 0], [2, 0, 0], [2, 2, 2, 2, 2, 0], [0, 0, 0, 1, 0, 0, 2, 0, 2, 2, 2, 2, 2, 2, 0, 2, 0, 2, 0, 1, 0, 1, 0, 0, 0, 2, 2, 2, 2, 2, 0, 0, 1, 2, 0, 2, 0, 2, 0, 2, 2, 2, 2, 2, 2, 0, 2, 0, 2, 2, 2, 2, 2, 2, 2, 0, 2]] : List (List Nat)).getD c []).getD f 9
/-- may a field be written outside its constructor -/
def zFw (c f : Nat) : Bool := (([[false, false, false, false, false], [false], [false, false, false, false, true], [false, false, false, true, true], [false, true, true, false, true, true, true, true, true], [false, false, false, false, true], [false, false, true, true], [false, false, false, false, false, false, true, false, true], [false, false, false, false, false, true, false, true, false, true], [false, true, true], [false, false, false, false, false, true], [true, true, true, true, true, true, true, true, true, true, true, true, true, true, true, true, true, true, true, true, true, true, true, true, true, true, true, true, true, true, true, true, true, true, true, true, true, true, true, true, true, true, true, true, true, true, true, true, true, true, true, true, true, true, true, true, true]] : List (List Bool)).getD c []).getD f false
def zN (c : Nat) : Nat := ([5, 1, 5, 5, 9, 5, 4, 9, 10, 3, 6, 57] : List Nat).getD c 0
/-- entries that name a field: owner, entry, class, field, place of the word -/
def zFT : List (List (Nat × Nat × Nat × Nat)) := [[(9, 0, 0, 270), (15, 0, 1, 271), (19, 0, 2, 272), (22, 0, 3, 273), (27, 0, 4, 274)], [(9, 1, 0, 242)], [(14, 2, 0, 342), (23, 2, 1, 344), (30, 2, 2, 346), (34, 2, 3, 348), (38, 2, 4, 349)], [(9, 3, 0, 185), (20, 3, 1, 186), (24, 3, 2, 187), (28, 3, 3, 188), (32, 3, 4, 189)], [(9, 4, 0, 207), (15, 4, 1, 208), (19, 4, 2, 209), (22, 4, 3, 210), (26, 4, 4, 211), (29, 4, 5, 212), (33, 4, 6, 213), (36, 4, 7, 214), (39, 4, 8, 215)], [(9, 5, 0, 326), (15, 5, 1, 327), (18, 5, 2, 328), (22, 5, 3, 329), (25, 5, 4, 330)], [(9, 6, 0, 150), (15, 6, 1, 151), (19, 6, 2, 152), (23, 6, 3, 153)], [(9, 7, 0, 292), (15, 7, 1, 293), (18, 7, 2, 294), (21, 7, 3, 295), (24, 7, 4, 296), (27, 7, 5, 297), (30, 7, 6, 298), (34, 7, 7, 299), (37, 7, 8, 300)], [(9, 8, 0, 111), (15, 8, 1, 112), (18, 8, 2, 113), (21, 8, 3, 114), (24, 8, 4, 115), (28, 8, 5, 116), (32, 8, 6, 117), (35, 8, 7, 118), (38, 8, 8, 119), (41, 8, 9, 120)], [(9, 9, 0, 175), (15, 9, 1, 176), (19, 9, 2, 177)], [(17, 10, 0, 361), (24, 10, 1, 362), (31, 10, 2, 363), (40, 10, 3, 364), (53, 10, 4, 365), (57, 10, 5, 366), (106, 2, 1, 9999), (135, 2, 2, 9999), (180, 2, 0, 9999)], [(7, 11, 4, 1129), (13, 11, 6, 1131), (17, 11, 8, 1133), (20, 11, 9, 1134), (24, 11, 10, 1135), (27, 11, 11, 1136), (31, 11, 12, 1137), (34, 11, 13, 1138), (37, 11, 15, 1140), (40, 11, 17, 1142), (43, 11, 25, 1150), (46, 11, 26, 1151), (49, 11, 27, 1152), (52, 11, 28, 1153), (55, 11, 29, 1154), (58, 11, 33, 1158), (61, 11, 35, 1160), (64, 11, 37, 1162), (67, 11, 39, 1164), (70, 11, 40, 1165), (73, 11, 41, 1166), (76, 11, 42, 1167), (79, 11, 43, 1168), (82, 11, 44, 1169), (85, 11, 46, 1171), (88, 11, 48, 1173), (91, 11, 49, 1174), (94, 11, 50, 1175), (97, 11, 51, 1176), (100, 11, 52, 1177), (103, 11, 53, 1178), (106, 11, 54, 1179), (109, 11, 56, 1181), (113, 11, 0, 1125), (116, 11, 1, 1126), (123, 11, 3, 1128), (127, 11, 7, 1132), (136, 11, 20, 1145), (143, 11, 21, 1146), (146, 11, 18, 1143), (152, 11, 16, 1141), (159, 11, 19, 1144), (162, 11, 14, 1139), (205, 11, 22, 1147), (208, 11, 30, 1155), (211, 11, 23, 1148), (214, 11, 24, 1149), (221, 11, 31, 1156), (224, 11, 32, 1157), (227, 11, 45, 1170), (237, 11, 36, 1161), (247, 11, 38, 1163), (257, 11, 34, 1159), (274, 11, 5, 1130), (283, 11, 47, 1172), (286, 11, 55, 1180), (331, 11, 2, 1127)]]
def zF (o i : Nat) : Option (Nat × Nat) := ((zFT.getD o []).find? (fun e => e.1 == i)).map (fun e => (e.2.1, e.2.2.1))
/-- entries that name a method: entry, method, place of the word; 999 is Object.<init> -/
def zLT : List (List (Nat × Nat × Nat)) := [[(3, 999, 267), (30, 2, 748), (34, 3, 756), (37, 8, 752)], [(3, 999, 241), (15, 58, 764), (21, 34, 772), (27, 158, 9999), (31, 11, 774), (35, 35, 808), (38, 36, 809), (44, 13, 804), (47, 220, 778), (52, 222, 779), (56, 12, 780), (59, 37, 785), (62, 14, 786), (66, 59, 784), (69, 16, 790), (72, 159, 9999), (75, 17, 796), (78, 15, 800)], [(3, 999, 261), (11, 0, 264), (22, 89, 288), (29, 64, 322), (42, 35, 697), (48, 44, 698), (52, 92, 699), (55, 94, 859), (58, 95, 860), (61, 1, 914), (64, 38, 828), (67, 34, 829), (70, 26, 830), (74, 41, 846), (77, 42, 847), (80, 27, 851), (83, 43, 893), (86, 29, 894), (89, 104, 926), (92, 102, 877), (95, 103, 930), (98, 6, 864), (101, 30, 873), (104, 105, 885), (108, 45, 834), (109, 159, 9999), (112, 46, 836), (115, 47, 837), (116, 101, 838), (119, 28, 855), (122, 25, 889), (125, 7, 868), (128, 96, 872), (129, 66, 881)], [(3, 999, 168), (17, 123, 171), (35, 116, 496), (41, 111, 500), (44, 158, 9999), (48, 33, 511), (52, 36, 617), (57, 221, 515), (63, 222, 519), (67, 115, 559), (71, 117, 563), (75, 220, 567), (78, 124, 575), (81, 37, 630), (84, 47, 662), (87, 45, 670), (90, 46, 674), (93, 159, 9999), (96, 44, 689)], [(3, 999, 206), (42, 59, 768), (46, 58, 942), (49, 61, 943), (53, 62, 815), (57, 233, 819), (63, 63, 820)], [(3, 999, 325), (29, 65, 969)], [(3, 999, 149), (26, 108, 414), (31, 80, 418), (35, 110, 484), (38, 88, 422), (42, 81, 426), (45, 86, 469), (48, 109, 480), (51, 114, 476), (55, 82, 430), (58, 84, 434), (61, 83, 458), (64, 157, 9999), (67, 112, 465), (70, 87, 450), (73, 113, 438), (76, 85, 454), (79, 156, 9999)], [(3, 999, 291), (40, 90, 724), (44, 100, 906), (48, 106, 842)], [(3, 999, 110), (44, 122, 442), (48, 121, 446)], [(3, 999, 174), (22, 118, 579), (28, 119, 583), (31, 125, 587), (35, 116, 595), (38, 126, 596), (42, 130, 601), (46, 127, 605), (49, 128, 609), (52, 129, 613), (55, 120, 591), (58, 156, 9999)], [(3, 999, 102), (11, 107, 107), (14, 74, 146), (23, 31, 165), (30, 52, 203), (37, 9, 238), (46, 153, 248), (50, 18, 258), (61, 53, 384), (65, 76, 388), (69, 155, 392), (73, 154, 395), (77, 77, 398), (81, 75, 402), (85, 79, 410), (88, 78, 488), (91, 32, 492), (94, 149, 622), (97, 10, 760), (101, 61, 811), (104, 22, 824), (110, 99, 902), (115, 54, 707), (116, 21, 910), (119, 147, 915), (122, 148, 934), (125, 98, 952), (129, 60, 938), (132, 25, 956), (139, 71, 961), (144, 72, 965), (147, 73, 973), (150, 56, 981), (153, 57, 989), (156, 55, 1001), (159, 90, 1009), (162, 93, 720), (165, 94, 736), (168, 95, 1010), (171, 96, 740), (174, 97, 1011), (177, 100, 1019), (184, 2, 1024), (189, 3, 1025), (192, 4, 1026), (195, 5, 1034), (199, 65, 1042), (200, 67, 1043), (203, 68, 1047), (204, 69, 1051), (207, 70, 1059), (211, 58, 920), (214, 59, 921), (215, 23, 922), (217, 24, 944), (219, 38, 626), (222, 19, 634), (225, 34, 638), (228, 150, 642), (231, 151, 711), (234, 152, 728), (237, 39, 646), (240, 35, 650), (243, 40, 654), (246, 48, 658), (249, 49, 666), (252, 50, 678), (255, 51, 685), (258, 20, 693), (262, 91, 703), (263, 41, 715), (266, 92, 719), (269, 43, 732), (272, 1, 744), (276, 233, 252), (281, 232, 255)], [(1, 999, 1071), (119, 203, 1073), (139, 162, 1317), (149, 165, 1329), (155, 163, 1337), (165, 164, 1344), (168, 169, 1347), (172, 166, 1321), (175, 167, 1325), (178, 168, 1333), (181, 170, 1340), (184, 172, 1359), (188, 175, 1367), (191, 173, 1355), (195, 174, 1363), (199, 176, 1379), (202, 177, 1371), (217, 178, 1375), (230, 180, 1387), (234, 181, 1105), (240, 171, 1313), (244, 179, 1351), (250, 182, 1383), (253, 183, 1390), (260, 185, 1402), (264, 186, 1398), (268, 187, 1410), (271, 188, 1406), (277, 190, 1414), (280, 192, 1089), (289, 198, 1113), (293, 193, 1085), (297, 194, 1093), (300, 201, 1097), (304, 199, 1109), (307, 197, 1117), (310, 195, 1101), (313, 200, 1081), (316, 196, 1121), (319, 202, 1077), (322, 184, 1309), (325, 189, 1394), (328, 191, 1422)], [(9, 218, 1063), (15, 131, 99), (20, 160, 1068), (23, 132, 380), (27, 161, 1298), (28, 133, 406), (32, 204, 1305), (33, 134, 898), (36, 205, 1418), (37, 135, 948), (41, 206, 1427), (42, 136, 957), (45, 207, 1431), (46, 137, 977), (50, 208, 1435), (51, 138, 985), (55, 209, 1439), (56, 139, 993), (59, 210, 1443), (60, 140, 997), (63, 211, 1447), (64, 141, 1005), (68, 212, 1451), (69, 142, 1015), (72, 213, 1455), (73, 143, 1020), (76, 214, 1459), (77, 144, 1030), (80, 215, 1463), (81, 145, 1038), (84, 216, 1467), (85, 146, 1055), (88, 217, 1471)], [(335, 223, 571), (492, 224, 523), (495, 226, 529), (498, 229, 540), (1059, 231, 537)], [(9, 225, 532)], [(48, 228, 546), (67, 230, 543), (71, 227, 550), (414, 225, 549)], [], []]
def zLk (o i : Nat) : Option Nat := ((zLT.getD o []).find? (fun e => e.1 == i)).map (fun e => e.2.1)
def zCT : List (Nat × Nat × Nat × Nat) := [(12, 7, 10, 97), (10, 9, 8, 105), (10, 12, 6, 144), (10, 21, 3, 163), (3, 15, 9, 169), (10, 28, 4, 201), (10, 35, 1, 236), (10, 44, 2, 246), (2, 9, 0, 262), (2, 20, 7, 286), (2, 27, 5, 320), (12, 18, 11, 1066)]
def zCl (o i : Nat) : Option Nat := (zCT.find? (fun e => e.1 == o && e.2.1 == i)).map (fun e => e.2.2.1)
def zKT : List (Nat × Nat × Nat × Nat) := [(10, 275, 1000000, 251), (1, 81, 100000, 794), (10, 210, 16777215, 919), (11, 112, 1000000, 1072), (11, 334, 65536, 1426)]
def zKi (o i : Nat) : Option Nat := (zKT.find? (fun e => e.1 == o && e.2.1 == i)).map (fun e => e.2.2.1)
def zKLT : List (Nat × Nat × Nat × Nat) := [(11, 130, 255, 1302), (11, 132, 32, 1303), (11, 134, 126, 1304), (12, 21, 4294967295, 1475)]
def zKl (o i : Nat) : Option Nat := (zKLT.find? (fun e => e.1 == o && e.2.1 == i)).map (fun e => e.2.2.1)
/-- words that a nest mate's link needs -/
def zNW : List Cond := [.fieldLinkNest RX10 180 "PaymentHub$Ledger" "accounts" "LPaymentHub$Accounts;" "PaymentHub", .fieldLinkNest RX10 106 "PaymentHub$Ledger" "transactions" "LPaymentHub$Transactions;" "PaymentHub", .fieldLinkNest RX10 135 "PaymentHub$Ledger" "reports" "LPaymentHub$Reports;" "PaymentHub", .methodLinkNest RX6 64 yX10_isLetter "PaymentHub", .methodLinkNest RX6 79 yX10_isDigit "PaymentHub", .methodLinkNest RX3 44 yX10_rowOf "PaymentHub", .methodLinkNest RX9 58 yX10_isDigit "PaymentHub", .methodLinkNest RX3 93 yX10_letterPlaceOf "PaymentHub", .methodLinkNest RX1 27 yX10_rowOf "PaymentHub", .methodLinkNest RX1 72 yX10_letterPlaceOf "PaymentHub", .methodLinkNest RX2 109 yX10_letterPlaceOf "PaymentHub"]
/-- the words that hold at every call -/
def zTB : List Cond := lw_tbl.filter goodWord
end
section
/-! DECODE ROWS, written by wip/gen/emit5.py -/
def zdf (c : ByteArray) (l : zIs) : Bool := l.all (fun e => decide (decode c e.1 = .ok (e.2.1, e.2.2.1)))
theorem zdf_cut {c : ByteArray} {l : zIs} (n : Nat) (h1 : zdf c (l.take n) = true) (h2 : zdf c (l.drop n) = true) : zdf c l = true := by
  unfold zdf at *
  rw [← List.take_append_drop n l, List.all_append, h1, h2]
  rfl
def zsq : zIs → Bool
  | [] => true
  | e :: r => (match r with | [] => true | f :: _ => f.1 == e.1 + e.2.2.1) && zsq r
theorem zd_0 : zdf cX0_init zi_0 = true := (by decide +kernel)
theorem zq_0 : zsq zi_0 = true := by decide +kernel
theorem zd_1 : zdf cX0_available zi_1 = true := (by decide +kernel)
theorem zq_1 : zsq zi_1 = true := by decide +kernel
theorem zd_2 : zdf cX0_balanceOf zi_2 = true := (by decide +kernel)
theorem zq_2 : zsq zi_2 = true := by decide +kernel
theorem zd_3 : zdf cX0_reservedOn zi_3 = true := (by decide +kernel)
theorem zq_3 : zsq zi_3 = true := by decide +kernel
theorem zd_4 : zdf cX0_entriesOf zi_4 = true := (by decide +kernel)
theorem zq_4 : zsq zi_4 = true := by decide +kernel
theorem zd_5 : zdf cX0_entryAt zi_5 = true := (by decide +kernel)
theorem zq_5 : zsq zi_5 = true := by decide +kernel
theorem zd_6 : zdf cX0_reserve zi_6 = true := (by decide +kernel)
theorem zq_6 : zsq zi_6 = true := by decide +kernel
theorem zd_7 : zdf cX0_book zi_7 = true := (by decide +kernel)
theorem zq_7 : zsq zi_7 = true := by decide +kernel
theorem zd_8 : zdf cX0_has zi_8 = true := (by decide +kernel)
theorem zq_8 : zsq zi_8 = true := by decide +kernel
theorem zd_9 : zdf cX1_init zi_9 = true := (by decide +kernel)
theorem zq_9 : zsq zi_9 = true := by decide +kernel
theorem zd_10 : zdf cX1_compose zi_10 = true := (by decide +kernel)
theorem zq_10 : zsq zi_10 = true := by decide +kernel
theorem zd_11 : zdf cX1_addRow zi_11 = true := (by decide +kernel)
theorem zq_11 : zsq zi_11 = true := by decide +kernel
theorem zd_12 : zdf cX1_addBegin zi_12 = true := (by decide +kernel)
theorem zq_12 : zsq zi_12 = true := by decide +kernel
theorem zd_13 : zdf cX1_addEnd zi_13 = true := (by decide +kernel)
theorem zq_13 : zsq zi_13 = true := by decide +kernel
theorem zd_14 : zdf cX1_addValue zi_14 = true := (by decide +kernel)
theorem zq_14 : zsq zi_14 = true := by decide +kernel
theorem zd_15 : zdf cX1_addName zi_15 = true := (by decide +kernel)
theorem zq_15 : zsq zi_15 = true := by decide +kernel
theorem zd_16 : zdf cX1_addNumber zi_16 = true := (by decide +kernel)
theorem zq_16 : zsq zi_16 = true := by decide +kernel
theorem zd_17 : zdf cX1_addTwoDigits zi_17 = true := (by decide +kernel)
theorem zq_17 : zsq zi_17 = true := by decide +kernel
theorem zd_18 : zdf cX2_init zi_18 = true := (by decide +kernel)
theorem zq_18 : zsq zi_18 = true := by decide +kernel
theorem zd_19 : zdf cX2_knows zi_19 = true := (by decide +kernel)
theorem zq_19 : zsq zi_19 = true := by decide +kernel
theorem zd_20 : zdf cX2_knowsAnyOf zi_20 = true := (by decide +kernel)
theorem zq_20 : zsq zi_20 = true := by decide +kernel
theorem zd_21 : zdf cX2_canPay zi_21 = true := (by decide +kernel)
theorem zq_21 : zsq zi_21 = true := by decide +kernel
theorem zd_22 : zdf cX2_take zi_22 = true := (zdf_cut 40 (by decide +kernel) (by decide +kernel))
theorem zq_22 : zsq zi_22 = true := by decide +kernel
theorem zd_23 : zdf cX2_hold zi_23 = true := (by decide +kernel)
theorem zq_23 : zsq zi_23 = true := by decide +kernel
theorem zd_24 : zdf cX2_letWait zi_24 = true := (by decide +kernel)
theorem zq_24 : zsq zi_24 = true := by decide +kernel
theorem zd_25 : zdf cX2_reject zi_25 = true := (by decide +kernel)
theorem zq_25 : zsq zi_25 = true := by decide +kernel
theorem zd_26 : zdf cX2_receive zi_26 = true := (by decide +kernel)
theorem zq_26 : zsq zi_26 = true := by decide +kernel
theorem zd_27 : zdf cX2_answer zi_27 = true := (by decide +kernel)
theorem zq_27 : zsq zi_27 = true := by decide +kernel
theorem zd_28 : zdf cX2_settle zi_28 = true := (by decide +kernel)
theorem zq_28 : zsq zi_28 = true := by decide +kernel
theorem zd_29 : zdf cX2_giveBack zi_29 = true := (by decide +kernel)
theorem zq_29 : zsq zi_29 = true := by decide +kernel
theorem zd_30 : zdf cX2_end zi_30 = true := (by decide +kernel)
theorem zq_30 : zsq zi_30 = true := by decide +kernel
theorem zd_31 : zdf cX3_init zi_31 = true := (by decide +kernel)
theorem zq_31 : zsq zi_31 = true := by decide +kernel
theorem zd_32 : zdf cX3_take zi_32 = true := (zdf_cut 40 (by decide +kernel) (by decide +kernel))
theorem zq_32 : zsq zi_32 = true := by decide +kernel
theorem zd_33 : zdf cX3_takeRow zi_33 = true := (zdf_cut 40 (by decide +kernel) (by decide +kernel))
theorem zq_33 : zsq zi_33 = true := by decide +kernel
theorem zd_34 : zdf cX3_kind zi_34 = true := (by decide +kernel)
theorem zq_34 : zsq zi_34 = true := by decide +kernel
theorem zd_35 : zdf cX3_size zi_35 = true := (by decide +kernel)
theorem zq_35 : zsq zi_35 = true := by decide +kernel
theorem zd_36 : zdf cX3_placeOf zi_36 = true := (by decide +kernel)
theorem zq_36 : zsq zi_36 = true := by decide +kernel
theorem zd_37 : zdf cX3_valueAt zi_37 = true := (by decide +kernel)
theorem zq_37 : zsq zi_37 = true := by decide +kernel
theorem zd_38 : zdf cX3_name zi_38 = true := (by decide +kernel)
theorem zq_38 : zsq zi_38 = true := by decide +kernel
theorem zd_39 : zdf cX3_number zi_39 = true := (by decide +kernel)
theorem zq_39 : zsq zi_39 = true := by decide +kernel
theorem zd_40 : zdf cX3_sum zi_40 = true := (by decide +kernel)
theorem zq_40 : zsq zi_40 = true := by decide +kernel
theorem zd_41 : zdf cX3_original zi_41 = true := (by decide +kernel)
theorem zq_41 : zsq zi_41 = true := by decide +kernel
theorem zd_42 : zdf cX3_verdict zi_42 = true := (by decide +kernel)
theorem zq_42 : zsq zi_42 = true := by decide +kernel
theorem zd_43 : zdf cX3_returned zi_43 = true := (by decide +kernel)
theorem zq_43 : zsq zi_43 = true := by decide +kernel
theorem zd_44 : zdf cX3_nameOf zi_44 = true := (by decide +kernel)
theorem zq_44 : zsq zi_44 = true := by decide +kernel
theorem zd_45 : zdf cX3_debtorOf zi_45 = true := (by decide +kernel)
theorem zq_45 : zsq zi_45 = true := by decide +kernel
theorem zd_46 : zdf cX3_creditorOf zi_46 = true := (by decide +kernel)
theorem zq_46 : zsq zi_46 = true := by decide +kernel
theorem zd_47 : zdf cX3_amountOf zi_47 = true := (by decide +kernel)
theorem zq_47 : zsq zi_47 = true := by decide +kernel
theorem zd_48 : zdf cX3_total zi_48 = true := (by decide +kernel)
theorem zq_48 : zsq zi_48 = true := by decide +kernel
theorem zd_49 : zdf cX3_hasGoodAccounts zi_49 = true := (by decide +kernel)
theorem zq_49 : zsq zi_49 = true := by decide +kernel
theorem zd_50 : zdf cX3_joinsDifferentAccounts zi_50 = true := (by decide +kernel)
theorem zq_50 : zsq zi_50 = true := by decide +kernel
theorem zd_51 : zdf cX3_hasDifferentNames zi_51 = true := (by decide +kernel)
theorem zq_51 : zsq zi_51 = true := by decide +kernel
theorem zd_52 : zdf cX4_init zi_52 = true := (by decide +kernel)
theorem zq_52 : zsq zi_52 = true := by decide +kernel
theorem zd_53 : zdf cX4_isDown zi_53 = true := (by decide +kernel)
theorem zq_53 : zsq zi_53 = true := by decide +kernel
theorem zd_54 : zdf cX4_length zi_54 = true := (by decide +kernel)
theorem zq_54 : zsq zi_54 = true := by decide +kernel
theorem zd_55 : zdf cX4_byteAt zi_55 = true := (by decide +kernel)
theorem zq_55 : zsq zi_55 = true := by decide +kernel
theorem zd_56 : zdf cX4_breakAfter zi_56 = true := (by decide +kernel)
theorem zq_56 : zsq zi_56 = true := by decide +kernel
theorem zd_57 : zdf cX4_restore zi_57 = true := (by decide +kernel)
theorem zq_57 : zsq zi_57 = true := by decide +kernel
theorem zd_58 : zdf cX4_begin zi_58 = true := (by decide +kernel)
theorem zq_58 : zsq zi_58 = true := by decide +kernel
theorem zd_59 : zdf cX4_add zi_59 = true := (by decide +kernel)
theorem zq_59 : zsq zi_59 = true := by decide +kernel
theorem zd_60 : zdf cX4_writeNumber zi_60 = true := (by decide +kernel)
theorem zq_60 : zsq zi_60 = true := by decide +kernel
theorem zd_61 : zdf cX4_write zi_61 = true := (zdf_cut 40 (by decide +kernel) (by decide +kernel))
theorem zq_61 : zsq zi_61 = true := by decide +kernel
theorem zd_62 : zdf cX4_check zi_62 = true := (by decide +kernel)
theorem zq_62 : zsq zi_62 = true := by decide +kernel
theorem zd_63 : zdf cX4_append zi_63 = true := (by decide +kernel)
theorem zq_63 : zsq zi_63 = true := by decide +kernel
theorem zd_64 : zdf cX5_init zi_64 = true := (by decide +kernel)
theorem zq_64 : zsq zi_64 = true := by decide +kernel
theorem zd_65 : zdf cX5_has zi_65 = true := (by decide +kernel)
theorem zq_65 : zsq zi_65 = true := by decide +kernel
theorem zd_66 : zdf cX5_add zi_66 = true := (by decide +kernel)
theorem zq_66 : zsq zi_66 = true := by decide +kernel
theorem zd_67 : zdf cX5_transactionOf zi_67 = true := (by decide +kernel)
theorem zq_67 : zsq zi_67 = true := by decide +kernel
theorem zd_68 : zdf cX5_statusOf zi_68 = true := (by decide +kernel)
theorem zq_68 : zsq zi_68 = true := by decide +kernel
theorem zd_69 : zdf cX5_isMarked zi_69 = true := (by decide +kernel)
theorem zq_69 : zsq zi_69 = true := by decide +kernel
theorem zd_70 : zdf cX5_copiesOf zi_70 = true := (by decide +kernel)
theorem zq_70 : zsq zi_70 = true := by decide +kernel
theorem zd_71 : zdf cX5_firstUnmarked zi_71 = true := (by decide +kernel)
theorem zq_71 : zsq zi_71 = true := by decide +kernel
theorem zd_72 : zdf cX5_copy zi_72 = true := (by decide +kernel)
theorem zq_72 : zsq zi_72 = true := by decide +kernel
theorem zd_73 : zdf cX5_mark zi_73 = true := (by decide +kernel)
theorem zq_73 : zsq zi_73 = true := by decide +kernel
theorem zd_74 : zdf cX6_init zi_74 = true := (by decide +kernel)
theorem zq_74 : zsq zi_74 = true := by decide +kernel
theorem zd_75 : zdf cX6_length zi_75 = true := (by decide +kernel)
theorem zq_75 : zsq zi_75 = true := by decide +kernel
theorem zd_76 : zdf cX6_hasRoomFor zi_76 = true := (by decide +kernel)
theorem zq_76 : zsq zi_76 = true := by decide +kernel
theorem zd_77 : zdf cX6_add zi_77 = true := (by decide +kernel)
theorem zq_77 : zsq zi_77 = true := by decide +kernel
theorem zd_78 : zdf cX6_clear zi_78 = true := (by decide +kernel)
theorem zq_78 : zsq zi_78 = true := by decide +kernel
theorem zd_79 : zdf cX6_read zi_79 = true := (by decide +kernel)
theorem zq_79 : zsq zi_79 = true := by decide +kernel
theorem zd_80 : zdf cX6_readNext zi_80 = true := (by decide +kernel)
theorem zq_80 : zsq zi_80 = true := by decide +kernel
theorem zd_81 : zdf cX6_readSign zi_81 = true := (by decide +kernel)
theorem zq_81 : zsq zi_81 = true := by decide +kernel
theorem zd_82 : zdf cX6_readComment zi_82 = true := (zdf_cut 40 (by decide +kernel) (by decide +kernel))
theorem zq_82 : zsq zi_82 = true := by decide +kernel
theorem zd_83 : zdf cX6_readBegin zi_83 = true := (by decide +kernel)
theorem zq_83 : zsq zi_83 = true := by decide +kernel
theorem zd_84 : zdf cX6_readEnd zi_84 = true := (by decide +kernel)
theorem zq_84 : zsq zi_84 = true := by decide +kernel
theorem zd_85 : zdf cX6_readClosingSign zi_85 = true := (by decide +kernel)
theorem zq_85 : zsq zi_85 = true := by decide +kernel
theorem zd_86 : zdf cX6_readReference zi_86 = true := (zdf_cut 40 (by decide +kernel) (by decide +kernel))
theorem zq_86 : zsq zi_86 = true := by decide +kernel
theorem zd_87 : zdf cX6_skipBlanks zi_87 = true := (by decide +kernel)
theorem zq_87 : zsq zi_87 = true := by decide +kernel
theorem zd_88 : zdf cX6_peek zi_88 = true := (by decide +kernel)
theorem zq_88 : zsq zi_88 = true := by decide +kernel
theorem zd_89 : zdf cX7_init zi_89 = true := (by decide +kernel)
theorem zq_89 : zsq zi_89 = true := by decide +kernel
theorem zd_90 : zdf cX7_has zi_90 = true := (by decide +kernel)
theorem zq_90 : zsq zi_90 = true := by decide +kernel
theorem zd_91 : zdf cX7_hasRoomFor zi_91 = true := (by decide +kernel)
theorem zq_91 : zsq zi_91 = true := by decide +kernel
theorem zd_92 : zdf cX7_find zi_92 = true := (by decide +kernel)
theorem zq_92 : zsq zi_92 = true := by decide +kernel
theorem zd_93 : zdf cX7_statusOf zi_93 = true := (by decide +kernel)
theorem zq_93 : zsq zi_93 = true := by decide +kernel
theorem zd_94 : zdf cX7_amountOf zi_94 = true := (by decide +kernel)
theorem zq_94 : zsq zi_94 = true := by decide +kernel
theorem zd_95 : zdf cX7_debtorOf zi_95 = true := (by decide +kernel)
theorem zq_95 : zsq zi_95 = true := by decide +kernel
theorem zd_96 : zdf cX7_creditorOf zi_96 = true := (by decide +kernel)
theorem zq_96 : zsq zi_96 = true := by decide +kernel
theorem zd_97 : zdf cX7_deadlineOf zi_97 = true := (by decide +kernel)
theorem zq_97 : zsq zi_97 = true := by decide +kernel
theorem zd_98 : zdf cX7_isDue zi_98 = true := (by decide +kernel)
theorem zq_98 : zsq zi_98 = true := by decide +kernel
theorem zd_99 : zdf cX7_firstQueued zi_99 = true := (by decide +kernel)
theorem zq_99 : zsq zi_99 = true := by decide +kernel
theorem zd_100 : zdf cX7_queuedAt zi_100 = true := (by decide +kernel)
theorem zq_100 : zsq zi_100 = true := by decide +kernel
theorem zd_101 : zdf cX7_receive zi_101 = true := (zdf_cut 40 (by decide +kernel) (by decide +kernel))
theorem zq_101 : zsq zi_101 = true := by decide +kernel
theorem zd_102 : zdf cX7_become zi_102 = true := (by decide +kernel)
theorem zq_102 : zsq zi_102 = true := by decide +kernel
theorem zd_103 : zdf cX7_setDeadline zi_103 = true := (by decide +kernel)
theorem zq_103 : zsq zi_103 = true := by decide +kernel
theorem zd_104 : zdf cX7_dropFirstQueued zi_104 = true := (by decide +kernel)
theorem zq_104 : zsq zi_104 = true := by decide +kernel
theorem zd_105 : zdf cX7_wakeThoseOf zi_105 = true := (by decide +kernel)
theorem zq_105 : zsq zi_105 = true := by decide +kernel
theorem zd_106 : zdf cX7_enqueue zi_106 = true := (by decide +kernel)
theorem zq_106 : zsq zi_106 = true := by decide +kernel
theorem zd_107 : zdf cX8_init zi_107 = true := (by decide +kernel)
theorem zq_107 : zsq zi_107 = true := by decide +kernel
theorem zd_108 : zdf cX8_clear zi_108 = true := (by decide +kernel)
theorem zq_108 : zsq zi_108 = true := by decide +kernel
theorem zd_109 : zdf cX8_isOpen zi_109 = true := (by decide +kernel)
theorem zq_109 : zsq zi_109 = true := by decide +kernel
theorem zd_110 : zdf cX8_isComplete zi_110 = true := (by decide +kernel)
theorem zq_110 : zsq zi_110 = true := by decide +kernel
theorem zd_111 : zdf cX8_size zi_111 = true := (by decide +kernel)
theorem zq_111 : zsq zi_111 = true := by decide +kernel
theorem zd_112 : zdf cX8_begin zi_112 = true := (zdf_cut 40 (by decide +kernel) (by decide +kernel))
theorem zq_112 : zsq zi_112 = true := by decide +kernel
theorem zd_113 : zdf cX8_end zi_113 = true := (by decide +kernel)
theorem zq_113 : zsq zi_113 = true := by decide +kernel
theorem zd_114 : zdf cX8_add zi_114 = true := (by decide +kernel)
theorem zq_114 : zsq zi_114 = true := by decide +kernel
theorem zd_115 : zdf cX8_isAt zi_115 = true := (by decide +kernel)
theorem zq_115 : zsq zi_115 = true := by decide +kernel
theorem zd_116 : zdf cX8_letterAt zi_116 = true := (by decide +kernel)
theorem zq_116 : zsq zi_116 = true := by decide +kernel
theorem zd_117 : zdf cX8_hasOnlyBlanks zi_117 = true := (by decide +kernel)
theorem zq_117 : zsq zi_117 = true := by decide +kernel
theorem zd_118 : zdf cX8_beginOf zi_118 = true := (by decide +kernel)
theorem zq_118 : zsq zi_118 = true := by decide +kernel
theorem zd_119 : zdf cX8_endOf zi_119 = true := (by decide +kernel)
theorem zq_119 : zsq zi_119 = true := by decide +kernel
theorem zd_120 : zdf cX8_characterAt zi_120 = true := (by decide +kernel)
theorem zq_120 : zsq zi_120 = true := by decide +kernel
theorem zd_121 : zdf cX8_has zi_121 = true := (by decide +kernel)
theorem zq_121 : zsq zi_121 = true := by decide +kernel
theorem zd_122 : zdf cX8_innermost zi_122 = true := (by decide +kernel)
theorem zq_122 : zsq zi_122 = true := by decide +kernel
theorem zd_123 : zdf cX9_init zi_123 = true := (by decide +kernel)
theorem zq_123 : zsq zi_123 = true := by decide +kernel
theorem zd_124 : zdf cX9_read zi_124 = true := (by decide +kernel)
theorem zq_124 : zsq zi_124 = true := by decide +kernel
theorem zd_125 : zdf cX9_trim zi_125 = true := (by decide +kernel)
theorem zq_125 : zsq zi_125 = true := by decide +kernel
theorem zd_126 : zdf cX9_name zi_126 = true := (zdf_cut 40 (by decide +kernel) (by decide +kernel))
theorem zq_126 : zsq zi_126 = true := by decide +kernel
theorem zd_127 : zdf cX9_accountNumber zi_127 = true := (by decide +kernel)
theorem zq_127 : zsq zi_127 = true := by decide +kernel
theorem zd_128 : zdf cX9_verdict zi_128 = true := (by decide +kernel)
theorem zq_128 : zsq zi_128 = true := by decide +kernel
theorem zd_129 : zdf cX9_amount zi_129 = true := (zdf_cut 40 (by decide +kernel) (by decide +kernel))
theorem zq_129 : zsq zi_129 = true := by decide +kernel
theorem zd_130 : zdf cX9_digits zi_130 = true := (by decide +kernel)
theorem zq_130 : zsq zi_130 = true := by decide +kernel
theorem zd_131 : zdf cX10_init zi_131 = true := (by decide +kernel)
theorem zq_131 : zsq zi_131 = true := by decide +kernel
theorem zd_132 : zdf cX10_put zi_132 = true := (by decide +kernel)
theorem zq_132 : zsq zi_132 = true := by decide +kernel
theorem zd_133 : zdf cX10_submit zi_133 = true := (zdf_cut 40 (by decide +kernel) (by decide +kernel))
theorem zq_133 : zsq zi_133 = true := by decide +kernel
theorem zd_134 : zdf cX10_work zi_134 = true := (by decide +kernel)
theorem zq_134 : zsq zi_134 = true := by decide +kernel
theorem zd_135 : zdf cX10_tick zi_135 = true := (by decide +kernel)
theorem zq_135 : zsq zi_135 = true := by decide +kernel
theorem zd_136 : zdf cX10_send zi_136 = true := (by decide +kernel)
theorem zq_136 : zsq zi_136 = true := by decide +kernel
theorem zd_137 : zdf cX10_fail zi_137 = true := (by decide +kernel)
theorem zq_137 : zsq zi_137 = true := by decide +kernel
theorem zd_138 : zdf cX10_recover zi_138 = true := (by decide +kernel)
theorem zq_138 : zsq zi_138 = true := by decide +kernel
theorem zd_139 : zdf cX10_journal zi_139 = true := (by decide +kernel)
theorem zq_139 : zsq zi_139 = true := by decide +kernel
theorem zd_140 : zdf cX10_octet zi_140 = true := (by decide +kernel)
theorem zq_140 : zsq zi_140 = true := by decide +kernel
theorem zd_141 : zdf cX10_transaction zi_141 = true := (zdf_cut 40 (by decide +kernel) (by decide +kernel))
theorem zq_141 : zsq zi_141 = true := by decide +kernel
theorem zd_142 : zdf cX10_queue zi_142 = true := (by decide +kernel)
theorem zq_142 : zsq zi_142 = true := by decide +kernel
theorem zd_143 : zdf cX10_account zi_143 = true := (by decide +kernel)
theorem zq_143 : zsq zi_143 = true := by decide +kernel
theorem zd_144 : zdf cX10_entry zi_144 = true := (by decide +kernel)
theorem zq_144 : zsq zi_144 = true := by decide +kernel
theorem zd_145 : zdf cX10_report zi_145 = true := (by decide +kernel)
theorem zq_145 : zsq zi_145 = true := by decide +kernel
theorem zd_146 : zdf cX10_copies zi_146 = true := (by decide +kernel)
theorem zq_146 : zsq zi_146 = true := by decide +kernel
theorem zd_147 : zdf cX10_hold zi_147 = true := (zdf_cut 40 (by decide +kernel) (by decide +kernel))
theorem zq_147 : zsq zi_147 = true := by decide +kernel
theorem zd_148 : zdf cX10_letWait zi_148 = true := (by decide +kernel)
theorem zq_148 : zsq zi_148 = true := by decide +kernel
theorem zd_149 : zdf cX10_ruleBroken zi_149 = true := (by decide +kernel)
theorem zq_149 : zsq zi_149 = true := by decide +kernel
theorem zd_150 : zdf cX10_ruleBrokenByPayment zi_150 = true := (zdf_cut 40 (by decide +kernel) (by decide +kernel))
theorem zq_150 : zsq zi_150 = true := by decide +kernel
theorem zd_151 : zdf cX10_ruleBrokenByFollower zi_151 = true := (by decide +kernel)
theorem zq_151 : zsq zi_151 = true := by decide +kernel
theorem zd_152 : zdf cX10_ruleBrokenByReturn zi_152 = true := (by decide +kernel)
theorem zq_152 : zsq zi_152 = true := by decide +kernel
theorem zd_153 : zdf cX10_nearestMoney zi_153 = true := (by decide +kernel)
theorem zq_153 : zsq zi_153 = true := by decide +kernel
theorem zd_154 : zdf cX10_byteOf zi_154 = true := (by decide +kernel)
theorem zq_154 : zsq zi_154 = true := by decide +kernel
theorem zd_155 : zdf cX10_areReadable zi_155 = true := (by decide +kernel)
theorem zq_155 : zsq zi_155 = true := by decide +kernel
theorem zd_156 : zdf cX10_isDigit zi_156 = true := (by decide +kernel)
theorem zq_156 : zsq zi_156 = true := by decide +kernel
theorem zd_157 : zdf cX10_isLetter zi_157 = true := (by decide +kernel)
theorem zq_157 : zsq zi_157 = true := by decide +kernel
theorem zd_158 : zdf cX10_rowOf zi_158 = true := (by decide +kernel)
theorem zq_158 : zsq zi_158 = true := by decide +kernel
theorem zd_159 : zdf cX10_letterPlaceOf zi_159 = true := (by decide +kernel)
theorem zq_159 : zsq zi_159 = true := by decide +kernel
theorem zd_160 : zdf cX11_init zi_160 = true := (zdf_cut 40 (by decide +kernel) (zdf_cut 40 (by decide +kernel) (zdf_cut 40 (by decide +kernel) (by decide +kernel))))
theorem zq_160 : zsq zi_160 = true := by decide +kernel
theorem zd_161 : zdf cX11_put zi_161 = true := (zdf_cut 40 (by decide +kernel) (by decide +kernel))
theorem zq_161 : zsq zi_161 = true := by decide +kernel
theorem zd_162 : zdf cX11_sees zi_162 = true := (by decide +kernel)
theorem zq_162 : zsq zi_162 = true := by decide +kernel
theorem zd_163 : zdf cX11_isLetter zi_163 = true := (by decide +kernel)
theorem zq_163 : zsq zi_163 = true := by decide +kernel
theorem zd_164 : zdf cX11_isDigit zi_164 = true := (by decide +kernel)
theorem zq_164 : zsq zi_164 = true := by decide +kernel
theorem zd_165 : zdf cX11_skipBlanks zi_165 = true := (by decide +kernel)
theorem zq_165 : zsq zi_165 = true := by decide +kernel
theorem zd_166 : zdf cX11_comment zi_166 = true := (zdf_cut 40 (by decide +kernel) (by decide +kernel))
theorem zq_166 : zsq zi_166 = true := by decide +kernel
theorem zd_167 : zdf cX11_closing zi_167 = true := (zdf_cut 40 (by decide +kernel) (by decide +kernel))
theorem zq_167 : zsq zi_167 = true := by decide +kernel
theorem zd_168 : zdf cX11_opening zi_168 = true := (zdf_cut 40 (by decide +kernel) (zdf_cut 40 (by decide +kernel) (zdf_cut 40 (by decide +kernel) (zdf_cut 40 (by decide +kernel) (by decide +kernel)))))
theorem zq_168 : zsq zi_168 = true := by decide +kernel
theorem zd_169 : zdf cX11_letterIn zi_169 = true := (zdf_cut 40 (by decide +kernel) (by decide +kernel))
theorem zq_169 : zsq zi_169 = true := by decide +kernel
theorem zd_170 : zdf cX11_reference zi_170 = true := (zdf_cut 40 (by decide +kernel) (by decide +kernel))
theorem zq_170 : zsq zi_170 = true := by decide +kernel
theorem zd_171 : zdf cX11_isDocument zi_171 = true := (zdf_cut 40 (by decide +kernel) (zdf_cut 40 (by decide +kernel) (by decide +kernel)))
theorem zq_171 : zsq zi_171 = true := by decide +kernel
theorem zd_172 : zdf cX11_child zi_172 = true := (by decide +kernel)
theorem zq_172 : zsq zi_172 = true := by decide +kernel
theorem zd_173 : zdf cX11_isLeaf zi_173 = true := (zdf_cut 40 (by decide +kernel) (by decide +kernel))
theorem zq_173 : zsq zi_173 = true := by decide +kernel
theorem zd_174 : zdf cX11_name zi_174 = true := (zdf_cut 40 (by decide +kernel) (by decide +kernel))
theorem zq_174 : zsq zi_174 = true := by decide +kernel
theorem zd_175 : zdf cX11_small zi_175 = true := (zdf_cut 40 (by decide +kernel) (by decide +kernel))
theorem zq_175 : zsq zi_175 = true := by decide +kernel
theorem zd_176 : zdf cX11_placeOf zi_176 = true := (by decide +kernel)
theorem zq_176 : zsq zi_176 = true := by decide +kernel
theorem zd_177 : zdf cX11_amount zi_177 = true := (zdf_cut 40 (by decide +kernel) (zdf_cut 40 (by decide +kernel) (by decide +kernel)))
theorem zq_177 : zsq zi_177 = true := by decide +kernel
theorem zd_178 : zdf cX11_readPart zi_178 = true := (zdf_cut 40 (by decide +kernel) (zdf_cut 40 (by decide +kernel) (zdf_cut 40 (by decide +kernel) (by decide +kernel))))
theorem zq_178 : zsq zi_178 = true := by decide +kernel
theorem zd_179 : zdf cX11_isValid zi_179 = true := (zdf_cut 40 (by decide +kernel) (zdf_cut 40 (by decide +kernel) (zdf_cut 40 (by decide +kernel) (zdf_cut 40 (by decide +kernel) (zdf_cut 40 (by decide +kernel) (by decide +kernel))))))
theorem zq_179 : zsq zi_179 = true := by decide +kernel
theorem zd_180 : zdf cX11_isRight zi_180 = true := (by decide +kernel)
theorem zq_180 : zsq zi_180 = true := by decide +kernel
theorem zd_181 : zdf cX11_known zi_181 = true := (by decide +kernel)
theorem zq_181 : zsq zi_181 = true := by decide +kernel
theorem zd_182 : zdf cX11_brokenByPayment zi_182 = true := (zdf_cut 40 (by decide +kernel) (zdf_cut 40 (by decide +kernel) (zdf_cut 40 (by decide +kernel) (by decide +kernel))))
theorem zq_182 : zsq zi_182 = true := by decide +kernel
theorem zd_183 : zdf cX11_brokenByAnswer zi_183 = true := (zdf_cut 40 (by decide +kernel) (by decide +kernel))
theorem zq_183 : zsq zi_183 = true := by decide +kernel
theorem zd_184 : zdf cX11_broken zi_184 = true := (zdf_cut 40 (by decide +kernel) (by decide +kernel))
theorem zq_184 : zsq zi_184 = true := by decide +kernel
theorem zd_185 : zdf cX11_byteOut zi_185 = true := (by decide +kernel)
theorem zq_185 : zsq zi_185 = true := by decide +kernel
theorem zd_186 : zdf cX11_tagOut zi_186 = true := (by decide +kernel)
theorem zq_186 : zsq zi_186 = true := by decide +kernel
theorem zd_187 : zdf cX11_numberOut zi_187 = true := (by decide +kernel)
theorem zq_187 : zsq zi_187 = true := by decide +kernel
theorem zd_188 : zdf cX11_leafOut zi_188 = true := (zdf_cut 40 (by decide +kernel) (zdf_cut 40 (by decide +kernel) (by decide +kernel)))
theorem zq_188 : zsq zi_188 = true := by decide +kernel
theorem zd_189 : zdf cX11_canonical zi_189 = true := (zdf_cut 40 (by decide +kernel) (by decide +kernel))
theorem zq_189 : zsq zi_189 = true := by decide +kernel
theorem zd_190 : zdf cX11_write zi_190 = true := (zdf_cut 40 (by decide +kernel) (zdf_cut 40 (by decide +kernel) (zdf_cut 40 (by decide +kernel) (by decide +kernel))))
theorem zq_190 : zsq zi_190 = true := by decide +kernel
theorem zd_191 : zdf cX11_writeOne zi_191 = true := (by decide +kernel)
theorem zq_191 : zsq zi_191 = true := by decide +kernel
theorem zd_192 : zdf cX11_isTag zi_192 = true := (by decide +kernel)
theorem zq_192 : zsq zi_192 = true := by decide +kernel
theorem zd_193 : zdf cX11_next zi_193 = true := (by decide +kernel)
theorem zq_193 : zsq zi_193 = true := by decide +kernel
theorem zd_194 : zdf cX11_nameAt zi_194 = true := (zdf_cut 40 (by decide +kernel) (by decide +kernel))
theorem zq_194 : zsq zi_194 = true := by decide +kernel
theorem zd_195 : zdf cX11_amountAt zi_195 = true := (by decide +kernel)
theorem zq_195 : zsq zi_195 = true := by decide +kernel
theorem zd_196 : zdf cX11_leaveRow zi_196 = true := (by decide +kernel)
theorem zq_196 : zsq zi_196 = true := by decide +kernel
theorem zd_197 : zdf cX11_enter zi_197 = true := (by decide +kernel)
theorem zq_197 : zsq zi_197 = true := by decide +kernel
theorem zd_198 : zdf cX11_tell zi_198 = true := (zdf_cut 40 (by decide +kernel) (by decide +kernel))
theorem zq_198 : zsq zi_198 = true := by decide +kernel
theorem zd_199 : zdf cX11_reject zi_199 = true := (by decide +kernel)
theorem zq_199 : zsq zi_199 = true := by decide +kernel
theorem zd_200 : zdf cX11_doMessage zi_200 = true := (zdf_cut 40 (by decide +kernel) (zdf_cut 40 (by decide +kernel) (zdf_cut 40 (by decide +kernel) (zdf_cut 40 (by decide +kernel) (by decide +kernel)))))
theorem zq_200 : zsq zi_200 = true := by decide +kernel
theorem zd_201 : zdf cX11_doPart zi_201 = true := (zdf_cut 40 (by decide +kernel) (zdf_cut 40 (by decide +kernel) (by decide +kernel)))
theorem zq_201 : zsq zi_201 = true := by decide +kernel
theorem zd_202 : zdf cX11_doRecord zi_202 = true := (zdf_cut 40 (by decide +kernel) (zdf_cut 40 (by decide +kernel) (by decide +kernel)))
theorem zq_202 : zsq zi_202 = true := by decide +kernel
theorem zd_203 : zdf cX11_replay zi_203 = true := (zdf_cut 40 (by decide +kernel) (by decide +kernel))
theorem zq_203 : zsq zi_203 = true := by decide +kernel
theorem zd_204 : zdf cX11_submit zi_204 = true := (by decide +kernel)
theorem zq_204 : zsq zi_204 = true := by decide +kernel
theorem zd_205 : zdf cX11_work zi_205 = true := (zdf_cut 40 (by decide +kernel) (zdf_cut 40 (by decide +kernel) (by decide +kernel)))
theorem zq_205 : zsq zi_205 = true := by decide +kernel
theorem zd_206 : zdf cX11_tick zi_206 = true := (zdf_cut 40 (by decide +kernel) (by decide +kernel))
theorem zq_206 : zsq zi_206 = true := by decide +kernel
theorem zd_207 : zdf cX11_send zi_207 = true := (by decide +kernel)
theorem zq_207 : zsq zi_207 = true := by decide +kernel
theorem zd_208 : zdf cX11_fail zi_208 = true := (by decide +kernel)
theorem zq_208 : zsq zi_208 = true := by decide +kernel
theorem zd_209 : zdf cX11_recover zi_209 = true := (by decide +kernel)
theorem zq_209 : zsq zi_209 = true := by decide +kernel
theorem zd_210 : zdf cX11_journal zi_210 = true := (by decide +kernel)
theorem zq_210 : zsq zi_210 = true := by decide +kernel
theorem zd_211 : zdf cX11_octet zi_211 = true := (by decide +kernel)
theorem zq_211 : zsq zi_211 = true := by decide +kernel
theorem zd_212 : zdf cX11_transaction zi_212 = true := (zdf_cut 40 (by decide +kernel) (by decide +kernel))
theorem zq_212 : zsq zi_212 = true := by decide +kernel
theorem zd_213 : zdf cX11_queue zi_213 = true := (by decide +kernel)
theorem zq_213 : zsq zi_213 = true := by decide +kernel
theorem zd_214 : zdf cX11_account zi_214 = true := (by decide +kernel)
theorem zq_214 : zsq zi_214 = true := by decide +kernel
theorem zd_215 : zdf cX11_entry zi_215 = true := (by decide +kernel)
theorem zq_215 : zsq zi_215 = true := by decide +kernel
theorem zd_216 : zdf cX11_report zi_216 = true := (by decide +kernel)
theorem zq_216 : zsq zi_216 = true := by decide +kernel
theorem zd_217 : zdf cX11_copies zi_217 = true := (by decide +kernel)
theorem zq_217 : zsq zi_217 = true := by decide +kernel
theorem zd_218 : zdf cL_cell zi_218 = true := (by decide +kernel)
theorem zq_218 : zsq zi_218 = true := by decide +kernel
theorem zd_219 : zdf cL_law zi_219 = true := (zdf_cut 40 (by decide +kernel) (zdf_cut 40 (by decide +kernel) (zdf_cut 40 (by decide +kernel) (zdf_cut 40 (by decide +kernel) (zdf_cut 40 (by decide +kernel) (zdf_cut 40 (by decide +kernel) (zdf_cut 40 (by decide +kernel) (zdf_cut 40 (by decide +kernel) (by decide +kernel)))))))))
theorem zq_219 : zsq zi_219 = true := by decide +kernel
theorem zd_220 : zdf cJ0_length_8abf5 zi_220 = true := (by decide +kernel)
theorem zq_220 : zsq zi_220 = true := by decide +kernel
theorem zd_221 : zdf cJ0_isEmpty_aae02 zi_221 = true := (by decide +kernel)
theorem zq_221 : zsq zi_221 = true := by decide +kernel
theorem zd_222 : zdf cJ0_charAt_5068e zi_222 = true := (by decide +kernel)
theorem zq_222 : zsq zi_222 = true := by decide +kernel
theorem zd_223 : zdf cJ0_coder_7d493 zi_223 = true := (by decide +kernel)
theorem zq_223 : zsq zi_223 = true := by decide +kernel
theorem zd_224 : zdf cJ0_isLatin1_aae02 zi_224 = true := (by decide +kernel)
theorem zq_224 : zsq zi_224 = true := by decide +kernel
theorem zd_225 : zdf cJ0_checkIndex_df160 zi_225 = true := (by decide +kernel)
theorem zq_225 : zsq zi_225 = true := by decide +kernel
theorem zd_226 : zdf cJ1_charAt_3b067 zi_226 = true := (by decide +kernel)
theorem zq_226 : zsq zi_226 = true := by decide +kernel
theorem zd_227 : zdf cJ2_getChar_3b067 zi_227 = true := (by decide +kernel)
theorem zq_227 : zsq zi_227 = true := by decide +kernel
theorem zd_228 : zdf cJ2_length_9d52b zi_228 = true := (by decide +kernel)
theorem zq_228 : zsq zi_228 = true := by decide +kernel
theorem zd_229 : zdf cJ2_charAt_3b067 zi_229 = true := (by decide +kernel)
theorem zq_229 : zsq zi_229 = true := by decide +kernel
theorem zd_230 : zdf cJ2_checkIndex_2214a zi_230 = true := (by decide +kernel)
theorem zq_230 : zsq zi_230 = true := by decide +kernel
theorem zd_231 : zdf cJ3_checkIndex_8e157 zi_231 = true := (by decide +kernel)
theorem zq_231 : zsq zi_231 = true := by decide +kernel
theorem zd_232 : zdf cJ9_max_7cf53 zi_232 = true := (by decide +kernel)
theorem zq_232 : zsq zi_232 = true := by decide +kernel
theorem zd_233 : zdf cJ9_min_7cf53 zi_233 = true := (by decide +kernel)
theorem zq_233 : zsq zi_233 = true := by decide +kernel
def zDp (k : Nat) : Prop := zdf (zC k) (zI k) = true ∧ zsq (zI k) = true
theorem zdg_0 : ∀ j, j < 16 → zDp (0 + j)
  | 0, _ => ⟨zd_0, zq_0⟩
  | 1, _ => ⟨zd_1, zq_1⟩
  | 2, _ => ⟨zd_2, zq_2⟩
  | 3, _ => ⟨zd_3, zq_3⟩
  | 4, _ => ⟨zd_4, zq_4⟩
  | 5, _ => ⟨zd_5, zq_5⟩
  | 6, _ => ⟨zd_6, zq_6⟩
  | 7, _ => ⟨zd_7, zq_7⟩
  | 8, _ => ⟨zd_8, zq_8⟩
  | 9, _ => ⟨zd_9, zq_9⟩
  | 10, _ => ⟨zd_10, zq_10⟩
  | 11, _ => ⟨zd_11, zq_11⟩
  | 12, _ => ⟨zd_12, zq_12⟩
  | 13, _ => ⟨zd_13, zq_13⟩
  | 14, _ => ⟨zd_14, zq_14⟩
  | 15, _ => ⟨zd_15, zq_15⟩
  | j + 16, h => absurd h (by omega)
theorem zdg_1 : ∀ j, j < 16 → zDp (16 + j)
  | 0, _ => ⟨zd_16, zq_16⟩
  | 1, _ => ⟨zd_17, zq_17⟩
  | 2, _ => ⟨zd_18, zq_18⟩
  | 3, _ => ⟨zd_19, zq_19⟩
  | 4, _ => ⟨zd_20, zq_20⟩
  | 5, _ => ⟨zd_21, zq_21⟩
  | 6, _ => ⟨zd_22, zq_22⟩
  | 7, _ => ⟨zd_23, zq_23⟩
  | 8, _ => ⟨zd_24, zq_24⟩
  | 9, _ => ⟨zd_25, zq_25⟩
  | 10, _ => ⟨zd_26, zq_26⟩
  | 11, _ => ⟨zd_27, zq_27⟩
  | 12, _ => ⟨zd_28, zq_28⟩
  | 13, _ => ⟨zd_29, zq_29⟩
  | 14, _ => ⟨zd_30, zq_30⟩
  | 15, _ => ⟨zd_31, zq_31⟩
  | j + 16, h => absurd h (by omega)
theorem zdg_2 : ∀ j, j < 16 → zDp (32 + j)
  | 0, _ => ⟨zd_32, zq_32⟩
  | 1, _ => ⟨zd_33, zq_33⟩
  | 2, _ => ⟨zd_34, zq_34⟩
  | 3, _ => ⟨zd_35, zq_35⟩
  | 4, _ => ⟨zd_36, zq_36⟩
  | 5, _ => ⟨zd_37, zq_37⟩
  | 6, _ => ⟨zd_38, zq_38⟩
  | 7, _ => ⟨zd_39, zq_39⟩
  | 8, _ => ⟨zd_40, zq_40⟩
  | 9, _ => ⟨zd_41, zq_41⟩
  | 10, _ => ⟨zd_42, zq_42⟩
  | 11, _ => ⟨zd_43, zq_43⟩
  | 12, _ => ⟨zd_44, zq_44⟩
  | 13, _ => ⟨zd_45, zq_45⟩
  | 14, _ => ⟨zd_46, zq_46⟩
  | 15, _ => ⟨zd_47, zq_47⟩
  | j + 16, h => absurd h (by omega)
theorem zdg_3 : ∀ j, j < 16 → zDp (48 + j)
  | 0, _ => ⟨zd_48, zq_48⟩
  | 1, _ => ⟨zd_49, zq_49⟩
  | 2, _ => ⟨zd_50, zq_50⟩
  | 3, _ => ⟨zd_51, zq_51⟩
  | 4, _ => ⟨zd_52, zq_52⟩
  | 5, _ => ⟨zd_53, zq_53⟩
  | 6, _ => ⟨zd_54, zq_54⟩
  | 7, _ => ⟨zd_55, zq_55⟩
  | 8, _ => ⟨zd_56, zq_56⟩
  | 9, _ => ⟨zd_57, zq_57⟩
  | 10, _ => ⟨zd_58, zq_58⟩
  | 11, _ => ⟨zd_59, zq_59⟩
  | 12, _ => ⟨zd_60, zq_60⟩
  | 13, _ => ⟨zd_61, zq_61⟩
  | 14, _ => ⟨zd_62, zq_62⟩
  | 15, _ => ⟨zd_63, zq_63⟩
  | j + 16, h => absurd h (by omega)
theorem zdg_4 : ∀ j, j < 16 → zDp (64 + j)
  | 0, _ => ⟨zd_64, zq_64⟩
  | 1, _ => ⟨zd_65, zq_65⟩
  | 2, _ => ⟨zd_66, zq_66⟩
  | 3, _ => ⟨zd_67, zq_67⟩
  | 4, _ => ⟨zd_68, zq_68⟩
  | 5, _ => ⟨zd_69, zq_69⟩
  | 6, _ => ⟨zd_70, zq_70⟩
  | 7, _ => ⟨zd_71, zq_71⟩
  | 8, _ => ⟨zd_72, zq_72⟩
  | 9, _ => ⟨zd_73, zq_73⟩
  | 10, _ => ⟨zd_74, zq_74⟩
  | 11, _ => ⟨zd_75, zq_75⟩
  | 12, _ => ⟨zd_76, zq_76⟩
  | 13, _ => ⟨zd_77, zq_77⟩
  | 14, _ => ⟨zd_78, zq_78⟩
  | 15, _ => ⟨zd_79, zq_79⟩
  | j + 16, h => absurd h (by omega)
theorem zdg_5 : ∀ j, j < 16 → zDp (80 + j)
  | 0, _ => ⟨zd_80, zq_80⟩
  | 1, _ => ⟨zd_81, zq_81⟩
  | 2, _ => ⟨zd_82, zq_82⟩
  | 3, _ => ⟨zd_83, zq_83⟩
  | 4, _ => ⟨zd_84, zq_84⟩
  | 5, _ => ⟨zd_85, zq_85⟩
  | 6, _ => ⟨zd_86, zq_86⟩
  | 7, _ => ⟨zd_87, zq_87⟩
  | 8, _ => ⟨zd_88, zq_88⟩
  | 9, _ => ⟨zd_89, zq_89⟩
  | 10, _ => ⟨zd_90, zq_90⟩
  | 11, _ => ⟨zd_91, zq_91⟩
  | 12, _ => ⟨zd_92, zq_92⟩
  | 13, _ => ⟨zd_93, zq_93⟩
  | 14, _ => ⟨zd_94, zq_94⟩
  | 15, _ => ⟨zd_95, zq_95⟩
  | j + 16, h => absurd h (by omega)
theorem zdg_6 : ∀ j, j < 16 → zDp (96 + j)
  | 0, _ => ⟨zd_96, zq_96⟩
  | 1, _ => ⟨zd_97, zq_97⟩
  | 2, _ => ⟨zd_98, zq_98⟩
  | 3, _ => ⟨zd_99, zq_99⟩
  | 4, _ => ⟨zd_100, zq_100⟩
  | 5, _ => ⟨zd_101, zq_101⟩
  | 6, _ => ⟨zd_102, zq_102⟩
  | 7, _ => ⟨zd_103, zq_103⟩
  | 8, _ => ⟨zd_104, zq_104⟩
  | 9, _ => ⟨zd_105, zq_105⟩
  | 10, _ => ⟨zd_106, zq_106⟩
  | 11, _ => ⟨zd_107, zq_107⟩
  | 12, _ => ⟨zd_108, zq_108⟩
  | 13, _ => ⟨zd_109, zq_109⟩
  | 14, _ => ⟨zd_110, zq_110⟩
  | 15, _ => ⟨zd_111, zq_111⟩
  | j + 16, h => absurd h (by omega)
theorem zdg_7 : ∀ j, j < 16 → zDp (112 + j)
  | 0, _ => ⟨zd_112, zq_112⟩
  | 1, _ => ⟨zd_113, zq_113⟩
  | 2, _ => ⟨zd_114, zq_114⟩
  | 3, _ => ⟨zd_115, zq_115⟩
  | 4, _ => ⟨zd_116, zq_116⟩
  | 5, _ => ⟨zd_117, zq_117⟩
  | 6, _ => ⟨zd_118, zq_118⟩
  | 7, _ => ⟨zd_119, zq_119⟩
  | 8, _ => ⟨zd_120, zq_120⟩
  | 9, _ => ⟨zd_121, zq_121⟩
  | 10, _ => ⟨zd_122, zq_122⟩
  | 11, _ => ⟨zd_123, zq_123⟩
  | 12, _ => ⟨zd_124, zq_124⟩
  | 13, _ => ⟨zd_125, zq_125⟩
  | 14, _ => ⟨zd_126, zq_126⟩
  | 15, _ => ⟨zd_127, zq_127⟩
  | j + 16, h => absurd h (by omega)
theorem zdg_8 : ∀ j, j < 16 → zDp (128 + j)
  | 0, _ => ⟨zd_128, zq_128⟩
  | 1, _ => ⟨zd_129, zq_129⟩
  | 2, _ => ⟨zd_130, zq_130⟩
  | 3, _ => ⟨zd_131, zq_131⟩
  | 4, _ => ⟨zd_132, zq_132⟩
  | 5, _ => ⟨zd_133, zq_133⟩
  | 6, _ => ⟨zd_134, zq_134⟩
  | 7, _ => ⟨zd_135, zq_135⟩
  | 8, _ => ⟨zd_136, zq_136⟩
  | 9, _ => ⟨zd_137, zq_137⟩
  | 10, _ => ⟨zd_138, zq_138⟩
  | 11, _ => ⟨zd_139, zq_139⟩
  | 12, _ => ⟨zd_140, zq_140⟩
  | 13, _ => ⟨zd_141, zq_141⟩
  | 14, _ => ⟨zd_142, zq_142⟩
  | 15, _ => ⟨zd_143, zq_143⟩
  | j + 16, h => absurd h (by omega)
theorem zdg_9 : ∀ j, j < 16 → zDp (144 + j)
  | 0, _ => ⟨zd_144, zq_144⟩
  | 1, _ => ⟨zd_145, zq_145⟩
  | 2, _ => ⟨zd_146, zq_146⟩
  | 3, _ => ⟨zd_147, zq_147⟩
  | 4, _ => ⟨zd_148, zq_148⟩
  | 5, _ => ⟨zd_149, zq_149⟩
  | 6, _ => ⟨zd_150, zq_150⟩
  | 7, _ => ⟨zd_151, zq_151⟩
  | 8, _ => ⟨zd_152, zq_152⟩
  | 9, _ => ⟨zd_153, zq_153⟩
  | 10, _ => ⟨zd_154, zq_154⟩
  | 11, _ => ⟨zd_155, zq_155⟩
  | 12, _ => ⟨zd_156, zq_156⟩
  | 13, _ => ⟨zd_157, zq_157⟩
  | 14, _ => ⟨zd_158, zq_158⟩
  | 15, _ => ⟨zd_159, zq_159⟩
  | j + 16, h => absurd h (by omega)
theorem zdg_10 : ∀ j, j < 16 → zDp (160 + j)
  | 0, _ => ⟨zd_160, zq_160⟩
  | 1, _ => ⟨zd_161, zq_161⟩
  | 2, _ => ⟨zd_162, zq_162⟩
  | 3, _ => ⟨zd_163, zq_163⟩
  | 4, _ => ⟨zd_164, zq_164⟩
  | 5, _ => ⟨zd_165, zq_165⟩
  | 6, _ => ⟨zd_166, zq_166⟩
  | 7, _ => ⟨zd_167, zq_167⟩
  | 8, _ => ⟨zd_168, zq_168⟩
  | 9, _ => ⟨zd_169, zq_169⟩
  | 10, _ => ⟨zd_170, zq_170⟩
  | 11, _ => ⟨zd_171, zq_171⟩
  | 12, _ => ⟨zd_172, zq_172⟩
  | 13, _ => ⟨zd_173, zq_173⟩
  | 14, _ => ⟨zd_174, zq_174⟩
  | 15, _ => ⟨zd_175, zq_175⟩
  | j + 16, h => absurd h (by omega)
theorem zdg_11 : ∀ j, j < 16 → zDp (176 + j)
  | 0, _ => ⟨zd_176, zq_176⟩
  | 1, _ => ⟨zd_177, zq_177⟩
  | 2, _ => ⟨zd_178, zq_178⟩
  | 3, _ => ⟨zd_179, zq_179⟩
  | 4, _ => ⟨zd_180, zq_180⟩
  | 5, _ => ⟨zd_181, zq_181⟩
  | 6, _ => ⟨zd_182, zq_182⟩
  | 7, _ => ⟨zd_183, zq_183⟩
  | 8, _ => ⟨zd_184, zq_184⟩
  | 9, _ => ⟨zd_185, zq_185⟩
  | 10, _ => ⟨zd_186, zq_186⟩
  | 11, _ => ⟨zd_187, zq_187⟩
  | 12, _ => ⟨zd_188, zq_188⟩
  | 13, _ => ⟨zd_189, zq_189⟩
  | 14, _ => ⟨zd_190, zq_190⟩
  | 15, _ => ⟨zd_191, zq_191⟩
  | j + 16, h => absurd h (by omega)
theorem zdg_12 : ∀ j, j < 16 → zDp (192 + j)
  | 0, _ => ⟨zd_192, zq_192⟩
  | 1, _ => ⟨zd_193, zq_193⟩
  | 2, _ => ⟨zd_194, zq_194⟩
  | 3, _ => ⟨zd_195, zq_195⟩
  | 4, _ => ⟨zd_196, zq_196⟩
  | 5, _ => ⟨zd_197, zq_197⟩
  | 6, _ => ⟨zd_198, zq_198⟩
  | 7, _ => ⟨zd_199, zq_199⟩
  | 8, _ => ⟨zd_200, zq_200⟩
  | 9, _ => ⟨zd_201, zq_201⟩
  | 10, _ => ⟨zd_202, zq_202⟩
  | 11, _ => ⟨zd_203, zq_203⟩
  | 12, _ => ⟨zd_204, zq_204⟩
  | 13, _ => ⟨zd_205, zq_205⟩
  | 14, _ => ⟨zd_206, zq_206⟩
  | 15, _ => ⟨zd_207, zq_207⟩
  | j + 16, h => absurd h (by omega)
theorem zdg_13 : ∀ j, j < 16 → zDp (208 + j)
  | 0, _ => ⟨zd_208, zq_208⟩
  | 1, _ => ⟨zd_209, zq_209⟩
  | 2, _ => ⟨zd_210, zq_210⟩
  | 3, _ => ⟨zd_211, zq_211⟩
  | 4, _ => ⟨zd_212, zq_212⟩
  | 5, _ => ⟨zd_213, zq_213⟩
  | 6, _ => ⟨zd_214, zq_214⟩
  | 7, _ => ⟨zd_215, zq_215⟩
  | 8, _ => ⟨zd_216, zq_216⟩
  | 9, _ => ⟨zd_217, zq_217⟩
  | 10, _ => ⟨zd_218, zq_218⟩
  | 11, _ => ⟨zd_219, zq_219⟩
  | 12, _ => ⟨zd_220, zq_220⟩
  | 13, _ => ⟨zd_221, zq_221⟩
  | 14, _ => ⟨zd_222, zq_222⟩
  | 15, _ => ⟨zd_223, zq_223⟩
  | j + 16, h => absurd h (by omega)
theorem zdg_14 : ∀ j, j < 10 → zDp (224 + j)
  | 0, _ => ⟨zd_224, zq_224⟩
  | 1, _ => ⟨zd_225, zq_225⟩
  | 2, _ => ⟨zd_226, zq_226⟩
  | 3, _ => ⟨zd_227, zq_227⟩
  | 4, _ => ⟨zd_228, zq_228⟩
  | 5, _ => ⟨zd_229, zq_229⟩
  | 6, _ => ⟨zd_230, zq_230⟩
  | 7, _ => ⟨zd_231, zq_231⟩
  | 8, _ => ⟨zd_232, zq_232⟩
  | 9, _ => ⟨zd_233, zq_233⟩
  | j + 10, h => absurd h (by omega)
theorem zD_all (k : Nat) (hk : k < 234) : zDp k := by
  by_cases h0 : k < 16
  · have h := zdg_0 (k - 0) (by omega)
    rwa [show 0 + (k - 0) = k by omega] at h
  by_cases h1 : k < 32
  · have h := zdg_1 (k - 16) (by omega)
    rwa [show 16 + (k - 16) = k by omega] at h
  by_cases h2 : k < 48
  · have h := zdg_2 (k - 32) (by omega)
    rwa [show 32 + (k - 32) = k by omega] at h
  by_cases h3 : k < 64
  · have h := zdg_3 (k - 48) (by omega)
    rwa [show 48 + (k - 48) = k by omega] at h
  by_cases h4 : k < 80
  · have h := zdg_4 (k - 64) (by omega)
    rwa [show 64 + (k - 64) = k by omega] at h
  by_cases h5 : k < 96
  · have h := zdg_5 (k - 80) (by omega)
    rwa [show 80 + (k - 80) = k by omega] at h
  by_cases h6 : k < 112
  · have h := zdg_6 (k - 96) (by omega)
    rwa [show 96 + (k - 96) = k by omega] at h
  by_cases h7 : k < 128
  · have h := zdg_7 (k - 112) (by omega)
    rwa [show 112 + (k - 112) = k by omega] at h
  by_cases h8 : k < 144
  · have h := zdg_8 (k - 128) (by omega)
    rwa [show 128 + (k - 128) = k by omega] at h
  by_cases h9 : k < 160
  · have h := zdg_9 (k - 144) (by omega)
    rwa [show 144 + (k - 144) = k by omega] at h
  by_cases h10 : k < 176
  · have h := zdg_10 (k - 160) (by omega)
    rwa [show 160 + (k - 160) = k by omega] at h
  by_cases h11 : k < 192
  · have h := zdg_11 (k - 176) (by omega)
    rwa [show 176 + (k - 176) = k by omega] at h
  by_cases h12 : k < 208
  · have h := zdg_12 (k - 192) (by omega)
    rwa [show 192 + (k - 192) = k by omega] at h
  by_cases h13 : k < 224
  · have h := zdg_13 (k - 208) (by omega)
    rwa [show 208 + (k - 208) = k by omega] at h
  by_cases h14 : k < 234
  · have h := zdg_14 (k - 224) (by omega)
    rwa [show 224 + (k - 224) = k by omega] at h
  omega
end
section
/-! lengths of instructions, written by wip/gen/emit3b.py -/
def zlen : Instr → Nat
  | .iconst _ | .iload_n _ | .lload_n _ | .aload_n _ | .istore_n _ | .astore_n _ => 1
  | .bipush _ | .ldc _ | .iload _ | .lload _ | .aload _ | .istore _ | .astore _ | .lstore _ | .newarray _ => 2
  | .sipush _ | .ldc_w _ | .ldc2_w _ | .iinc _ _ | .ifCond _ _ | .if_icmp _ _ | .goto _ | .getfield _ | .putfield _ | .new _ | .invokevirtual _ | .invokespecial _ | .invokestatic _ => 3
  | .iadd | .isub | .imul | .idiv | .irem | .ineg | .iand | .ior | .ishl | .ishr | .land | .lor | .lshl | .lshr | .lushr | .lcmp | .i2l | .l2i | .i2b | .i2c | .dup | .dup2 | .pop | .iaload | .baload | .caload | .aaload | .iastore | .bastore | .castore | .arraylength | .ireturn | .areturn | .return_ => 1
  | _ => 0
def zln (l : zIs) : Bool := l.all (fun e => zlen e.2.1 == 0 || zlen e.2.1 == e.2.2.1)
theorem zln_0 : [0, 1, 2, 3, 4, 5, 6, 7, 8, 9, 10, 11, 12, 13, 14, 15].all (fun k => zln (zI k)) = true := by decide +kernel
theorem zln_1 : [16, 17, 18, 19, 20, 21, 22, 23, 24, 25, 26, 27, 28, 29, 30, 31].all (fun k => zln (zI k)) = true := by decide +kernel
theorem zln_2 : [32, 33, 34, 35, 36, 37, 38, 39, 40, 41, 42, 43, 44, 45, 46, 47].all (fun k => zln (zI k)) = true := by decide +kernel
theorem zln_3 : [48, 49, 50, 51, 52, 53, 54, 55, 56, 57, 58, 59, 60, 61, 62, 63].all (fun k => zln (zI k)) = true := by decide +kernel
theorem zln_4 : [64, 65, 66, 67, 68, 69, 70, 71, 72, 73, 74, 75, 76, 77, 78, 79].all (fun k => zln (zI k)) = true := by decide +kernel
theorem zln_5 : [80, 81, 82, 83, 84, 85, 86, 87, 88, 89, 90, 91, 92, 93, 94, 95].all (fun k => zln (zI k)) = true := by decide +kernel
theorem zln_6 : [96, 97, 98, 99, 100, 101, 102, 103, 104, 105, 106, 107, 108, 109, 110, 111].all (fun k => zln (zI k)) = true := by decide +kernel
theorem zln_7 : [112, 113, 114, 115, 116, 117, 118, 119, 120, 121, 122, 123, 124, 125, 126, 127].all (fun k => zln (zI k)) = true := by decide +kernel
theorem zln_8 : [128, 129, 130, 131, 132, 133, 134, 135, 136, 137, 138, 139, 140, 141, 142, 143].all (fun k => zln (zI k)) = true := by decide +kernel
theorem zln_9 : [144, 145, 146, 147, 148, 149, 150, 151, 152, 153, 154, 155, 156, 157, 158, 159].all (fun k => zln (zI k)) = true := by decide +kernel
theorem zln_10 : [160, 161, 162, 163, 164, 165, 166, 167, 168, 169, 170, 171, 172, 173, 174, 175].all (fun k => zln (zI k)) = true := by decide +kernel
theorem zln_11 : [176, 177, 178, 179, 180, 181, 182, 183, 184, 185, 186, 187, 188, 189, 190, 191].all (fun k => zln (zI k)) = true := by decide +kernel
theorem zln_12 : [192, 193, 194, 195, 196, 197, 198, 199, 200, 201, 202, 203, 204, 205, 206, 207].all (fun k => zln (zI k)) = true := by decide +kernel
theorem zln_13 : [208, 209, 210, 211, 212, 213, 214, 215, 216, 217, 218, 219, 220, 221, 222, 223].all (fun k => zln (zI k)) = true := by decide +kernel
theorem zln_14 : [224, 225, 226, 227, 228, 229, 230, 231, 232, 233].all (fun k => zln (zI k)) = true := by decide +kernel
theorem zln_all (k : Nat) (hk : k < 234) : zln (zI k) = true := by
  by_cases h0 : k < 16
  · exact List.all_eq_true.mp zln_0 k (by simp only [List.mem_cons, List.not_mem_nil, or_false]; omega)
  by_cases h1 : k < 32
  · exact List.all_eq_true.mp zln_1 k (by simp only [List.mem_cons, List.not_mem_nil, or_false]; omega)
  by_cases h2 : k < 48
  · exact List.all_eq_true.mp zln_2 k (by simp only [List.mem_cons, List.not_mem_nil, or_false]; omega)
  by_cases h3 : k < 64
  · exact List.all_eq_true.mp zln_3 k (by simp only [List.mem_cons, List.not_mem_nil, or_false]; omega)
  by_cases h4 : k < 80
  · exact List.all_eq_true.mp zln_4 k (by simp only [List.mem_cons, List.not_mem_nil, or_false]; omega)
  by_cases h5 : k < 96
  · exact List.all_eq_true.mp zln_5 k (by simp only [List.mem_cons, List.not_mem_nil, or_false]; omega)
  by_cases h6 : k < 112
  · exact List.all_eq_true.mp zln_6 k (by simp only [List.mem_cons, List.not_mem_nil, or_false]; omega)
  by_cases h7 : k < 128
  · exact List.all_eq_true.mp zln_7 k (by simp only [List.mem_cons, List.not_mem_nil, or_false]; omega)
  by_cases h8 : k < 144
  · exact List.all_eq_true.mp zln_8 k (by simp only [List.mem_cons, List.not_mem_nil, or_false]; omega)
  by_cases h9 : k < 160
  · exact List.all_eq_true.mp zln_9 k (by simp only [List.mem_cons, List.not_mem_nil, or_false]; omega)
  by_cases h10 : k < 176
  · exact List.all_eq_true.mp zln_10 k (by simp only [List.mem_cons, List.not_mem_nil, or_false]; omega)
  by_cases h11 : k < 192
  · exact List.all_eq_true.mp zln_11 k (by simp only [List.mem_cons, List.not_mem_nil, or_false]; omega)
  by_cases h12 : k < 208
  · exact List.all_eq_true.mp zln_12 k (by simp only [List.mem_cons, List.not_mem_nil, or_false]; omega)
  by_cases h13 : k < 224
  · exact List.all_eq_true.mp zln_13 k (by simp only [List.mem_cons, List.not_mem_nil, or_false]; omega)
  by_cases h14 : k < 234
  · exact List.all_eq_true.mp zln_14 k (by simp only [List.mem_cons, List.not_mem_nil, or_false]; omega)
  omega
def zst (l : zIs) : Bool := match l with
  | [] => false
  | e :: _ => e.1 == 0
theorem zst_0 : [0, 1, 2, 3, 4, 5, 6, 7, 8, 9, 10, 11, 12, 13, 14, 15].all (fun k => zst (zI k)) = true := by decide +kernel
theorem zst_1 : [16, 17, 18, 19, 20, 21, 22, 23, 24, 25, 26, 27, 28, 29, 30, 31].all (fun k => zst (zI k)) = true := by decide +kernel
theorem zst_2 : [32, 33, 34, 35, 36, 37, 38, 39, 40, 41, 42, 43, 44, 45, 46, 47].all (fun k => zst (zI k)) = true := by decide +kernel
theorem zst_3 : [48, 49, 50, 51, 52, 53, 54, 55, 56, 57, 58, 59, 60, 61, 62, 63].all (fun k => zst (zI k)) = true := by decide +kernel
theorem zst_4 : [64, 65, 66, 67, 68, 69, 70, 71, 72, 73, 74, 75, 76, 77, 78, 79].all (fun k => zst (zI k)) = true := by decide +kernel
theorem zst_5 : [80, 81, 82, 83, 84, 85, 86, 87, 88, 89, 90, 91, 92, 93, 94, 95].all (fun k => zst (zI k)) = true := by decide +kernel
theorem zst_6 : [96, 97, 98, 99, 100, 101, 102, 103, 104, 105, 106, 107, 108, 109, 110, 111].all (fun k => zst (zI k)) = true := by decide +kernel
theorem zst_7 : [112, 113, 114, 115, 116, 117, 118, 119, 120, 121, 122, 123, 124, 125, 126, 127].all (fun k => zst (zI k)) = true := by decide +kernel
theorem zst_8 : [128, 129, 130, 131, 132, 133, 134, 135, 136, 137, 138, 139, 140, 141, 142, 143].all (fun k => zst (zI k)) = true := by decide +kernel
theorem zst_9 : [144, 145, 146, 147, 148, 149, 150, 151, 152, 153, 154, 155, 156, 157, 158, 159].all (fun k => zst (zI k)) = true := by decide +kernel
theorem zst_10 : [160, 161, 162, 163, 164, 165, 166, 167, 168, 169, 170, 171, 172, 173, 174, 175].all (fun k => zst (zI k)) = true := by decide +kernel
theorem zst_11 : [176, 177, 178, 179, 180, 181, 182, 183, 184, 185, 186, 187, 188, 189, 190, 191].all (fun k => zst (zI k)) = true := by decide +kernel
theorem zst_12 : [192, 193, 194, 195, 196, 197, 198, 199, 200, 201, 202, 203, 204, 205, 206, 207].all (fun k => zst (zI k)) = true := by decide +kernel
theorem zst_13 : [208, 209, 210, 211, 212, 213, 214, 215, 216, 217, 218, 219, 220, 221, 222, 223].all (fun k => zst (zI k)) = true := by decide +kernel
theorem zst_14 : [224, 225, 226, 227, 228, 229, 230, 231, 232, 233].all (fun k => zst (zI k)) = true := by decide +kernel
theorem zst_all (k : Nat) (hk : k < 234) : zst (zI k) = true := by
  by_cases h0 : k < 16
  · exact List.all_eq_true.mp zst_0 k (by simp only [List.mem_cons, List.not_mem_nil, or_false]; omega)
  by_cases h1 : k < 32
  · exact List.all_eq_true.mp zst_1 k (by simp only [List.mem_cons, List.not_mem_nil, or_false]; omega)
  by_cases h2 : k < 48
  · exact List.all_eq_true.mp zst_2 k (by simp only [List.mem_cons, List.not_mem_nil, or_false]; omega)
  by_cases h3 : k < 64
  · exact List.all_eq_true.mp zst_3 k (by simp only [List.mem_cons, List.not_mem_nil, or_false]; omega)
  by_cases h4 : k < 80
  · exact List.all_eq_true.mp zst_4 k (by simp only [List.mem_cons, List.not_mem_nil, or_false]; omega)
  by_cases h5 : k < 96
  · exact List.all_eq_true.mp zst_5 k (by simp only [List.mem_cons, List.not_mem_nil, or_false]; omega)
  by_cases h6 : k < 112
  · exact List.all_eq_true.mp zst_6 k (by simp only [List.mem_cons, List.not_mem_nil, or_false]; omega)
  by_cases h7 : k < 128
  · exact List.all_eq_true.mp zst_7 k (by simp only [List.mem_cons, List.not_mem_nil, or_false]; omega)
  by_cases h8 : k < 144
  · exact List.all_eq_true.mp zst_8 k (by simp only [List.mem_cons, List.not_mem_nil, or_false]; omega)
  by_cases h9 : k < 160
  · exact List.all_eq_true.mp zst_9 k (by simp only [List.mem_cons, List.not_mem_nil, or_false]; omega)
  by_cases h10 : k < 176
  · exact List.all_eq_true.mp zst_10 k (by simp only [List.mem_cons, List.not_mem_nil, or_false]; omega)
  by_cases h11 : k < 192
  · exact List.all_eq_true.mp zst_11 k (by simp only [List.mem_cons, List.not_mem_nil, or_false]; omega)
  by_cases h12 : k < 208
  · exact List.all_eq_true.mp zst_12 k (by simp only [List.mem_cons, List.not_mem_nil, or_false]; omega)
  by_cases h13 : k < 224
  · exact List.all_eq_true.mp zst_13 k (by simp only [List.mem_cons, List.not_mem_nil, or_false]; omega)
  by_cases h14 : k < 234
  · exact List.all_eq_true.mp zst_14 k (by simp only [List.mem_cons, List.not_mem_nil, or_false]; omega)
  omega
end
section
/-! THE WORDS BY THEIR PLACES, written by wip/gen/emit6.py -/
def zTt (c : Nat) : u_T := ([TX0, TX1, TX2, TX3, TX4, TX5, TX6, TX7, TX8, TX9, TX10, TX11] : List u_T).getD c TX0
def zTy (c : Nat) : Nat → FieldType := ([tyX0, tyX1, tyX2, tyX3, tyX4, tyX5, tyX6, tyX7, tyX8, tyX9, tyX10, tyX11] : List (Nat → FieldType)).getD c tyX0
theorem zin {w : Cond} (p : Nat) (h : lw_tbl[p]? = some w) (hg : goodWord w = true) : w ∈ zTB := List.mem_filter.mpr ⟨List.mem_of_getElem? h, hg⟩
def zuk (c : Nat) (ps : List Nat) : Bool := (List.range (zN c)).all (fun k => decide (lw_tbl[ps.getD k 0]? = some (u_lay (zRN c) (zTt c) k)) && goodWord (u_lay (zRN c) (zTt c) k))
theorem zuk_in {c : Nat} {ps : List Nat} (h : zuk c ps = true) : ∀ w ∈ u_ws (zRN c) (zTt c) (zN c), w ∈ zTB := by
  intro w hw
  obtain ⟨k, hk, rfl⟩ := List.mem_map.mp hw
  have h1 := List.all_eq_true.mp h k hk
  simp only [Bool.and_eq_true, decide_eq_true_eq] at h1
  exact zin _ h1.1 h1.2
def zfo (c : Nat) : Bool := (List.range (zN c)).all (fun k => decide ((zTt c k).1 = zRN c) && decide ((zTt c k).2.2.2 = !zFw c k) && (match zFk c k with | 0 => decide (zTy c k = .int) | 1 => decide (zTy c k = .boolean) | 2 => (zTy c k).isReference | _ => false))
theorem zu_0 : zuk 0 [275, 277, 279, 281, 283] = true := by decide +kernel
theorem zfo_0 : zfo 0 = true := by decide +kernel
theorem zu_1 : zuk 1 [243] = true := by decide +kernel
theorem zfo_1 : zfo 1 = true := by decide +kernel
theorem zu_2 : zuk 2 [350, 352, 354, 356, 358] = true := by decide +kernel
theorem zfo_2 : zfo 2 = true := by decide +kernel
theorem zu_3 : zuk 3 [190, 192, 194, 196, 198] = true := by decide +kernel
theorem zfo_3 : zfo 3 = true := by decide +kernel
theorem zu_4 : zuk 4 [216, 218, 220, 222, 224, 226, 228, 230, 232] = true := by decide +kernel
theorem zfo_4 : zfo 4 = true := by decide +kernel
theorem zu_5 : zuk 5 [331, 333, 335, 337, 339] = true := by decide +kernel
theorem zfo_5 : zfo 5 = true := by decide +kernel
theorem zu_6 : zuk 6 [154, 156, 158, 160] = true := by decide +kernel
theorem zfo_6 : zfo 6 = true := by decide +kernel
theorem zu_7 : zuk 7 [301, 303, 305, 307, 309, 311, 313, 315, 317] = true := by decide +kernel
theorem zfo_7 : zfo 7 = true := by decide +kernel
theorem zu_8 : zuk 8 [121, 123, 125, 127, 129, 131, 133, 135, 137, 139] = true := by decide +kernel
theorem zfo_8 : zfo 8 = true := by decide +kernel
theorem zu_9 : zuk 9 [178, 180, 182] = true := by decide +kernel
theorem zfo_9 : zfo 9 = true := by decide +kernel
theorem zu_10 : zuk 10 [367, 369, 371, 373, 375, 377] = true := by decide +kernel
theorem zfo_10 : zfo 10 = true := by decide +kernel
theorem zu_11 : zuk 11 [1182, 1184, 1186, 1188, 1190, 1192, 1194, 1196, 1198, 1200, 1202, 1204, 1206, 1208, 1210, 1212, 1214, 1216, 1218, 1220, 1222, 1224, 1226, 1228, 1230, 1232, 1234, 1236, 1238, 1240, 1242, 1244, 1246, 1248, 1250, 1252, 1254, 1256, 1258, 1260, 1262, 1264, 1266, 1268, 1270, 1272, 1274, 1276, 1278, 1280, 1282, 1284, 1286, 1288, 1290, 1292, 1294] = true := by decide +kernel
theorem zfo_11 : zfo 11 = true := by decide +kernel
def zip : List Nat := [89, 86, 87, 83, 85, 91, 82, 90, 81, 84, 80, 92, 79, 93, 94, 96, 95, 88]
def zio (c : Nat) : Bool := decide (lw_tbl[zip.getD c 0]? = some (.initialized (zRN c)))
theorem zio_all : (List.range 18).all zio = true := by decide +kernel
def znp : List Nat := [263, 237, 247, 164, 202, 321, 145, 287, 106, 170, 98, 1067]
theorem zno_all : (List.range 12).all (fun c => decide (lw_tbl[znp.getD c 0]? = some (.instantiable (zRN c) (zN c)))) = true := by decide +kernel
def zfk (o : Nat) (e : Nat × Nat × Nat × Nat) : Bool := decide (e.2.1 < 12) && decide (e.2.2.1 < zN e.2.1) && (if e.2.2.2 = 9999 then decide (Cond.fieldLinkNest (zRN o) e.1 (zTt e.2.1 e.2.2.1).1 (zTt e.2.1 e.2.2.1).2.1 (zTt e.2.1 e.2.2.1).2.2.1 "PaymentHub" ∈ zNW) && !zFw e.2.1 e.2.2.1 && decide (o = 10) && decide (e.2.1 = 2) else decide (lw_tbl[e.2.2.2]? = some (.fieldLink (zRN o) e.1 (zTt e.2.1 e.2.2.1).1 (zTt e.2.1 e.2.2.1).2.1 (zTt e.2.1 e.2.2.1).2.2.1)))
theorem zfk_0 : (zFT.getD 0 []).all (zfk 0) = true := by decide +kernel
theorem zfk_1 : (zFT.getD 1 []).all (zfk 1) = true := by decide +kernel
theorem zfk_2 : (zFT.getD 2 []).all (zfk 2) = true := by decide +kernel
theorem zfk_3 : (zFT.getD 3 []).all (zfk 3) = true := by decide +kernel
theorem zfk_4 : (zFT.getD 4 []).all (zfk 4) = true := by decide +kernel
theorem zfk_5 : (zFT.getD 5 []).all (zfk 5) = true := by decide +kernel
theorem zfk_6 : (zFT.getD 6 []).all (zfk 6) = true := by decide +kernel
theorem zfk_7 : (zFT.getD 7 []).all (zfk 7) = true := by decide +kernel
theorem zfk_8 : (zFT.getD 8 []).all (zfk 8) = true := by decide +kernel
theorem zfk_9 : (zFT.getD 9 []).all (zfk 9) = true := by decide +kernel
theorem zfk_10 : (zFT.getD 10 []).all (zfk 10) = true := by decide +kernel
theorem zfk_11 : (zFT.getD 11 []).all (zfk 11) = true := by decide +kernel
end
section
/-! the words by their places, on -/
/-- static?, the places of code, static or instanceMethod, selects -/
def zPT : List (List (Bool × Nat × Nat × Nat)) := [[(false, 266, 265, 9999), (false, 747, 745, 746), (false, 751, 749, 750), (false, 759, 757, 758), (false, 1029, 1027, 1028), (false, 1037, 1035, 1036), (false, 867, 865, 866), (false, 871, 869, 870), (false, 755, 754, 22), (false, 240, 239, 9999), (false, 763, 761, 762), (false, 777, 776, 23), (false, 783, 782, 24), (false, 807, 806, 29), (false, 789, 788, 25), (false, 803, 802, 28)], [(false, 793, 792, 26), (false, 799, 798, 27), (false, 260, 259, 9999), (false, 637, 635, 636), (false, 696, 694, 695), (false, 913, 911, 912), (false, 827, 825, 826), (false, 925, 923, 924), (false, 947, 945, 946), (false, 892, 890, 891), (false, 833, 832, 32), (false, 854, 853, 34), (false, 858, 857, 35), (false, 897, 896, 37), (false, 876, 875, 36), (false, 167, 166, 9999)], [(false, 495, 493, 494), (false, 514, 513, 11), (false, 641, 639, 640), (false, 653, 651, 652), (false, 620, 618, 619), (false, 633, 631, 632), (false, 629, 627, 628), (false, 649, 647, 648), (false, 657, 655, 656), (false, 718, 716, 717), (false, 850, 848, 849), (false, 735, 733, 734), (false, 692, 690, 691), (false, 673, 671, 672), (false, 677, 675, 676), (false, 665, 663, 664)], [(false, 661, 659, 660), (false, 669, 667, 668), (false, 681, 679, 680), (false, 688, 686, 687), (false, 205, 204, 9999), (false, 387, 385, 386), (false, 710, 708, 709), (false, 1004, 1002, 1003), (false, 984, 982, 983), (false, 992, 990, 991), (false, 767, 765, 766), (false, 771, 769, 770), (false, 941, 939, 940), (false, 814, 812, 813), (false, 818, 817, 30), (false, 823, 822, 31)], [(false, 324, 323, 9999), (false, 972, 970, 971), (false, 884, 882, 883), (false, 1046, 1044, 1045), (false, 1050, 1048, 1049), (false, 1054, 1052, 1053), (false, 1062, 1060, 1061), (false, 964, 962, 963), (false, 968, 966, 967), (false, 976, 974, 975), (false, 148, 147, 9999), (false, 405, 403, 404), (false, 391, 389, 390), (false, 401, 399, 400), (false, 491, 489, 490), (false, 413, 411, 412)], [(false, 421, 420, 0), (false, 429, 428, 2), (false, 433, 432, 3), (false, 461, 460, 9), (false, 437, 436, 4), (false, 457, 456, 8), (false, 472, 471, 10), (false, 453, 452, 7), (false, 425, 424, 1), (false, 290, 289, 9999), (false, 727, 725, 726), (false, 706, 704, 705), (false, 702, 700, 701), (false, 723, 721, 722), (false, 739, 737, 738), (false, 863, 861, 862)], [(false, 743, 741, 742), (false, 1014, 1012, 1013), (false, 955, 953, 954), (false, 905, 903, 904), (false, 909, 907, 908), (false, 841, 839, 840), (false, 880, 878, 879), (false, 933, 931, 932), (false, 929, 927, 928), (false, 888, 886, 887), (false, 845, 844, 33), (false, 109, 108, 9999), (false, 417, 415, 416), (false, 483, 481, 482), (false, 487, 485, 486), (false, 503, 501, 502)], [(false, 468, 466, 467), (false, 441, 439, 440), (false, 479, 477, 478), (false, 562, 560, 561), (false, 499, 497, 498), (false, 566, 564, 565), (false, 582, 580, 581), (false, 586, 584, 585), (false, 594, 592, 593), (false, 449, 448, 6), (false, 445, 444, 5), (false, 173, 172, 9999), (false, 578, 576, 577), (false, 590, 589, 12), (false, 599, 598, 13), (false, 608, 607, 15)], [(false, 612, 611, 16), (false, 616, 615, 17), (false, 604, 603, 14), (false, 101, 100, 9999), (false, 383, 381, 382), (false, 409, 407, 408), (false, 901, 899, 900), (false, 951, 949, 950), (false, 960, 958, 959), (false, 980, 978, 979), (false, 988, 986, 987), (false, 996, 994, 995), (false, 1000, 998, 999), (false, 1008, 1006, 1007), (false, 1018, 1016, 1017), (false, 1023, 1021, 1022)], [(false, 1033, 1031, 1032), (false, 1041, 1039, 1040), (false, 1058, 1056, 1057), (false, 918, 917, 38), (false, 937, 936, 39), (false, 625, 624, 18), (false, 645, 644, 19), (false, 714, 713, 20), (false, 731, 730, 21), (true, 250, 249, 9999), (true, 397, 396, 9999), (true, 394, 393, 9999), (true, 475, 474, 9999), (true, 464, 463, 9999), (true, 506, 505, 9999), (true, 684, 683, 9999)], [(false, 1070, 1069, 9999), (false, 1301, 1299, 1300), (false, 1320, 1319, 55), (true, 1339, 1338, 9999), (true, 1346, 1345, 9999), (false, 1332, 1331, 58), (false, 1324, 1323, 56), (false, 1328, 1327, 57), (false, 1336, 1335, 59), (false, 1350, 1349, 61), (false, 1343, 1342, 60), (false, 1316, 1315, 54), (false, 1362, 1361, 64), (false, 1358, 1357, 63), (false, 1366, 1365, 65), (false, 1370, 1369, 66)], [(false, 1382, 1381, 69), (false, 1374, 1373, 67), (false, 1378, 1377, 68), (false, 1354, 1353, 62), (true, 1389, 1388, 9999), (false, 1108, 1107, 48), (false, 1386, 1385, 70), (false, 1393, 1392, 71), (false, 1312, 1311, 53), (false, 1405, 1404, 74), (false, 1401, 1400, 73), (false, 1413, 1412, 76), (false, 1409, 1408, 75), (false, 1397, 1396, 72), (false, 1417, 1416, 77), (false, 1425, 1424, 78)], [(false, 1092, 1091, 44), (false, 1088, 1087, 43), (false, 1096, 1095, 45), (false, 1104, 1103, 47), (false, 1124, 1123, 52), (false, 1120, 1119, 51), (false, 1116, 1115, 50), (false, 1112, 1111, 49), (false, 1084, 1083, 42), (false, 1100, 1099, 46), (false, 1080, 1079, 41), (false, 1076, 1075, 40), (false, 1308, 1306, 1307), (false, 1421, 1419, 1420), (false, 1430, 1428, 1429), (false, 1434, 1432, 1433)], [(false, 1438, 1436, 1437), (false, 1442, 1440, 1441), (false, 1446, 1444, 1445), (false, 1450, 1448, 1449), (false, 1454, 1452, 1453), (false, 1458, 1456, 1457), (false, 1462, 1460, 1461), (false, 1466, 1464, 1465), (false, 1470, 1468, 1469), (false, 1474, 1472, 1473), (true, 1065, 1064, 9999), (true, 9999, 9999, 9999), (false, 570, 568, 569), (false, 518, 516, 517), (false, 522, 520, 521), (false, 574, 572, 573)], [(false, 526, 524, 525), (true, 534, 533, 9999), (true, 531, 530, 9999), (true, 552, 551, 9999), (true, 548, 547, 9999), (true, 542, 541, 9999), (true, 545, 544, 9999), (true, 539, 538, 9999), (true, 257, 256, 9999), (true, 254, 253, 9999)]]
def zPp (k : Nat) : Bool × Nat × Nat × Nat := (zPT.getD (k / 16) []).getD (k % 16) (false, 9999, 9999, 9999)
def zSt (k : Nat) : Bool := (zPp k).1
def zmk (o : Nat) (e : Nat × Nat × Nat) : Bool := if e.2.1 = 999 then decide (lw_tbl[e.2.2]? = some (.methodLink (zRN o) e.1 objectInit)) else decide (e.2.1 < 234) && (if e.2.2 = 9999 then decide (Cond.methodLinkNest (zRN o) e.1 (zY e.2.1) "PaymentHub" ∈ zNW) && zSt e.2.1 else decide (lw_tbl[e.2.2]? = some (.methodLink (zRN o) e.1 (zY e.2.1))))
theorem zmk_0 : (zLT.getD 0 []).all (zmk 0) = true := by decide +kernel
theorem zmk_1 : (zLT.getD 1 []).all (zmk 1) = true := by decide +kernel
theorem zmk_2 : (zLT.getD 2 []).all (zmk 2) = true := by decide +kernel
theorem zmk_3 : (zLT.getD 3 []).all (zmk 3) = true := by decide +kernel
theorem zmk_4 : (zLT.getD 4 []).all (zmk 4) = true := by decide +kernel
theorem zmk_5 : (zLT.getD 5 []).all (zmk 5) = true := by decide +kernel
theorem zmk_6 : (zLT.getD 6 []).all (zmk 6) = true := by decide +kernel
theorem zmk_7 : (zLT.getD 7 []).all (zmk 7) = true := by decide +kernel
theorem zmk_8 : (zLT.getD 8 []).all (zmk 8) = true := by decide +kernel
theorem zmk_9 : (zLT.getD 9 []).all (zmk 9) = true := by decide +kernel
theorem zmk_10 : (zLT.getD 10 []).all (zmk 10) = true := by decide +kernel
theorem zmk_11 : (zLT.getD 11 []).all (zmk 11) = true := by decide +kernel
theorem zmk_12 : (zLT.getD 12 []).all (zmk 12) = true := by decide +kernel
theorem zmk_13 : (zLT.getD 13 []).all (zmk 13) = true := by decide +kernel
theorem zmk_14 : (zLT.getD 14 []).all (zmk 14) = true := by decide +kernel
theorem zmk_15 : (zLT.getD 15 []).all (zmk 15) = true := by decide +kernel
theorem zmk_16 : (zLT.getD 16 []).all (zmk 16) = true := by decide +kernel
theorem zmk_17 : (zLT.getD 17 []).all (zmk 17) = true := by decide +kernel
def zmo (k : Nat) : Bool := decide (lw_tbl[(zPp k).2.1]? = some (.code (zY k) (zC k) (zL k) (zRt k))) && (if zSt k then decide (lw_tbl[(zPp k).2.2.1]? = some (.static (zY k))) else decide (lw_tbl[(zPp k).2.2.1]? = some (.instanceMethod (zY k))) && (decide ((zY k).name = "<init>") || decide (lw_tbl[(zPp k).2.2.2]? = some (.selects (zY k).cls (zY k) (zY k))))) && decide ((zY k).cls = zRN (zO k)) && decide (zO k < 18) && plainName (zY k).cls && decide ((zY k).cls ≠ "java/lang/invoke/MethodHandle") && decide ((zY k).cls ≠ "java/lang/invoke/VarHandle") && decide ((parseMethodDescriptor (zY k).desc).map (fun d => d.parameters.length) = some (if zSt k then zNa k else zNa k - 1)) && (zSt k || decide (0 < zNa k))
theorem zmo_0 : [0, 1, 2, 3, 4, 5, 6, 7].all zmo = true := by decide +kernel
theorem zmo_1 : [8, 9, 10, 11, 12, 13, 14, 15].all zmo = true := by decide +kernel
theorem zmo_2 : [16, 17, 18, 19, 20, 21, 22, 23].all zmo = true := by decide +kernel
theorem zmo_3 : [24, 25, 26, 27, 28, 29, 30, 31].all zmo = true := by decide +kernel
theorem zmo_4 : [32, 33, 34, 35, 36, 37, 38, 39].all zmo = true := by decide +kernel
theorem zmo_5 : [40, 41, 42, 43, 44, 45, 46, 47].all zmo = true := by decide +kernel
theorem zmo_6 : [48, 49, 50, 51, 52, 53, 54, 55].all zmo = true := by decide +kernel
theorem zmo_7 : [56, 57, 58, 59, 60, 61, 62, 63].all zmo = true := by decide +kernel
theorem zmo_8 : [64, 65, 66, 67, 68, 69, 70, 71].all zmo = true := by decide +kernel
theorem zmo_9 : [72, 73, 74, 75, 76, 77, 78, 79].all zmo = true := by decide +kernel
theorem zmo_10 : [80, 81, 82, 83, 84, 85, 86, 87].all zmo = true := by decide +kernel
theorem zmo_11 : [88, 89, 90, 91, 92, 93, 94, 95].all zmo = true := by decide +kernel
end
section
/-! the words by their places, the rest -/
theorem zmo_12 : [96, 97, 98, 99, 100, 101, 102, 103].all zmo = true := by decide +kernel
theorem zmo_13 : [104, 105, 106, 107, 108, 109, 110, 111].all zmo = true := by decide +kernel
theorem zmo_14 : [112, 113, 114, 115, 116, 117, 118, 119].all zmo = true := by decide +kernel
theorem zmo_15 : [120, 121, 122, 123, 124, 125, 126, 127].all zmo = true := by decide +kernel
theorem zmo_16 : [128, 129, 130, 131, 132, 133, 134, 135].all zmo = true := by decide +kernel
theorem zmo_17 : [136, 137, 138, 139, 140, 141, 142, 143].all zmo = true := by decide +kernel
theorem zmo_18 : [144, 145, 146, 147, 148, 149, 150, 151].all zmo = true := by decide +kernel
theorem zmo_19 : [152, 153, 154, 155, 156, 157, 158, 159].all zmo = true := by decide +kernel
theorem zmo_20 : [160, 161, 162, 163, 164, 165, 166, 167].all zmo = true := by decide +kernel
theorem zmo_21 : [168, 169, 170, 171, 172, 173, 174, 175].all zmo = true := by decide +kernel
theorem zmo_22 : [176, 177, 178, 179, 180, 181, 182, 183].all zmo = true := by decide +kernel
theorem zmo_23 : [184, 185, 186, 187, 188, 189, 190, 191].all zmo = true := by decide +kernel
theorem zmo_24 : [192, 193, 194, 195, 196, 197, 198, 199].all zmo = true := by decide +kernel
theorem zmo_25 : [200, 201, 202, 203, 204, 205, 206, 207].all zmo = true := by decide +kernel
theorem zmo_26 : [208, 209, 210, 211, 212, 213, 214, 215].all zmo = true := by decide +kernel
theorem zmo_27 : [216, 217, 218].all zmo = true := by decide +kernel
theorem zmo_28 : [220, 221, 222, 223, 224, 225, 226, 231].all zmo = true := by decide +kernel
theorem zmo_all (k : Nat) (hk : k < 219) : zmo k = true := by
  by_cases h0 : k < 8
  · exact List.all_eq_true.mp zmo_0 k (by simp only [List.mem_cons, List.not_mem_nil, or_false]; omega)
  by_cases h1 : k < 16
  · exact List.all_eq_true.mp zmo_1 k (by simp only [List.mem_cons, List.not_mem_nil, or_false]; omega)
  by_cases h2 : k < 24
  · exact List.all_eq_true.mp zmo_2 k (by simp only [List.mem_cons, List.not_mem_nil, or_false]; omega)
  by_cases h3 : k < 32
  · exact List.all_eq_true.mp zmo_3 k (by simp only [List.mem_cons, List.not_mem_nil, or_false]; omega)
  by_cases h4 : k < 40
  · exact List.all_eq_true.mp zmo_4 k (by simp only [List.mem_cons, List.not_mem_nil, or_false]; omega)
  by_cases h5 : k < 48
  · exact List.all_eq_true.mp zmo_5 k (by simp only [List.mem_cons, List.not_mem_nil, or_false]; omega)
  by_cases h6 : k < 56
  · exact List.all_eq_true.mp zmo_6 k (by simp only [List.mem_cons, List.not_mem_nil, or_false]; omega)
  by_cases h7 : k < 64
  · exact List.all_eq_true.mp zmo_7 k (by simp only [List.mem_cons, List.not_mem_nil, or_false]; omega)
  by_cases h8 : k < 72
  · exact List.all_eq_true.mp zmo_8 k (by simp only [List.mem_cons, List.not_mem_nil, or_false]; omega)
  by_cases h9 : k < 80
  · exact List.all_eq_true.mp zmo_9 k (by simp only [List.mem_cons, List.not_mem_nil, or_false]; omega)
  by_cases h10 : k < 88
  · exact List.all_eq_true.mp zmo_10 k (by simp only [List.mem_cons, List.not_mem_nil, or_false]; omega)
  by_cases h11 : k < 96
  · exact List.all_eq_true.mp zmo_11 k (by simp only [List.mem_cons, List.not_mem_nil, or_false]; omega)
  by_cases h12 : k < 104
  · exact List.all_eq_true.mp zmo_12 k (by simp only [List.mem_cons, List.not_mem_nil, or_false]; omega)
  by_cases h13 : k < 112
  · exact List.all_eq_true.mp zmo_13 k (by simp only [List.mem_cons, List.not_mem_nil, or_false]; omega)
  by_cases h14 : k < 120
  · exact List.all_eq_true.mp zmo_14 k (by simp only [List.mem_cons, List.not_mem_nil, or_false]; omega)
  by_cases h15 : k < 128
  · exact List.all_eq_true.mp zmo_15 k (by simp only [List.mem_cons, List.not_mem_nil, or_false]; omega)
  by_cases h16 : k < 136
  · exact List.all_eq_true.mp zmo_16 k (by simp only [List.mem_cons, List.not_mem_nil, or_false]; omega)
  by_cases h17 : k < 144
  · exact List.all_eq_true.mp zmo_17 k (by simp only [List.mem_cons, List.not_mem_nil, or_false]; omega)
  by_cases h18 : k < 152
  · exact List.all_eq_true.mp zmo_18 k (by simp only [List.mem_cons, List.not_mem_nil, or_false]; omega)
  by_cases h19 : k < 160
  · exact List.all_eq_true.mp zmo_19 k (by simp only [List.mem_cons, List.not_mem_nil, or_false]; omega)
  by_cases h20 : k < 168
  · exact List.all_eq_true.mp zmo_20 k (by simp only [List.mem_cons, List.not_mem_nil, or_false]; omega)
  by_cases h21 : k < 176
  · exact List.all_eq_true.mp zmo_21 k (by simp only [List.mem_cons, List.not_mem_nil, or_false]; omega)
  by_cases h22 : k < 184
  · exact List.all_eq_true.mp zmo_22 k (by simp only [List.mem_cons, List.not_mem_nil, or_false]; omega)
  by_cases h23 : k < 192
  · exact List.all_eq_true.mp zmo_23 k (by simp only [List.mem_cons, List.not_mem_nil, or_false]; omega)
  by_cases h24 : k < 200
  · exact List.all_eq_true.mp zmo_24 k (by simp only [List.mem_cons, List.not_mem_nil, or_false]; omega)
  by_cases h25 : k < 208
  · exact List.all_eq_true.mp zmo_25 k (by simp only [List.mem_cons, List.not_mem_nil, or_false]; omega)
  by_cases h26 : k < 216
  · exact List.all_eq_true.mp zmo_26 k (by simp only [List.mem_cons, List.not_mem_nil, or_false]; omega)
  by_cases h27 : k < 219
  · exact List.all_eq_true.mp zmo_27 k (by simp only [List.mem_cons, List.not_mem_nil, or_false]; omega)
  omega
theorem zcl_ok : zCT.all (fun e => decide (e.2.2.1 < 12) && decide (lw_tbl[e.2.2.2]? = some (.classLink (zRN e.1) e.2.1 (zRN e.2.2.1)))) = true := by decide +kernel
theorem zki_ok : zKT.all (fun e => decide (lw_tbl[e.2.2.2]? = some (.constant (zRN e.1) e.2.1 (Int32.ofNat e.2.2.1)))) = true := by decide +kernel
theorem zkl_ok : zKLT.all (fun e => decide (lw_tbl[e.2.2.2]? = some (.constantLong (zRN e.1) e.2.1 (Int64.ofNat e.2.2.1)))) = true := by decide +kernel
theorem zob_code : Cond.code objectInit ⟨#[0xb1]⟩ 1 none ∈ zTB := zin 104 (by decide +kernel) rfl
theorem zob_inst : Cond.instanceMethod objectInit ∈ zTB := zin 103 (by decide +kernel) rfl
theorem zarr_0 : Cond.arrayClass .int ∈ zTB := zin 142 (by decide +kernel) rfl
theorem zarr_1 : Cond.arrayClass .byte ∈ zTB := zin 235 (by decide +kernel) rfl
theorem zarr_2 : Cond.arrayClass .boolean ∈ zTB := zin 143 (by decide +kernel) rfl
theorem zarr_3 : Cond.arrayClass .char ∈ zTB := zin 1297 (by decide +kernel) rfl
theorem zcls (c : Nat) (hc : c < 12) : vwCl[c]? = some (zRN c, zTt c, zN c) ∧ (∀ w ∈ u_ws (zRN c) (zTt c) (zN c), w ∈ zTB) ∧ (∀ k, k < zN c → parseFieldDescriptor (zTt c k).2.2.1 = some (zTy c k)) ∧ (∀ a, a < zN c → ∀ b, b < zN c → a ≠ b → (zTt c a).2.1 ≠ (zTt c b).2.1) ∧ zfo c = true := by
  match c, hc with
  | 0, _ => exact ⟨rfl, zuk_in zu_0, tyX0_ok, nmX0, zfo_0⟩
  | 1, _ => exact ⟨rfl, zuk_in zu_1, tyX1_ok, nmX1, zfo_1⟩
  | 2, _ => exact ⟨rfl, zuk_in zu_2, tyX2_ok, nmX2, zfo_2⟩
  | 3, _ => exact ⟨rfl, zuk_in zu_3, tyX3_ok, nmX3, zfo_3⟩
  | 4, _ => exact ⟨rfl, zuk_in zu_4, tyX4_ok, nmX4, zfo_4⟩
  | 5, _ => exact ⟨rfl, zuk_in zu_5, tyX5_ok, nmX5, zfo_5⟩
  | 6, _ => exact ⟨rfl, zuk_in zu_6, tyX6_ok, nmX6, zfo_6⟩
  | 7, _ => exact ⟨rfl, zuk_in zu_7, tyX7_ok, nmX7, zfo_7⟩
  | 8, _ => exact ⟨rfl, zuk_in zu_8, tyX8_ok, nmX8, zfo_8⟩
  | 9, _ => exact ⟨rfl, zuk_in zu_9, tyX9_ok, nmX9, zfo_9⟩
  | 10, _ => exact ⟨rfl, zuk_in zu_10, tyX10_ok, nmX10, zfo_10⟩
  | 11, _ => exact ⟨rfl, zuk_in zu_11, tyX11_ok, nmX11, zfo_11⟩
theorem zfks (o : Nat) (ho : o < 12) : (zFT.getD o []).all (zfk o) = true := by
  match o, ho with
  | 0, _ => exact zfk_0
  | 1, _ => exact zfk_1
  | 2, _ => exact zfk_2
  | 3, _ => exact zfk_3
  | 4, _ => exact zfk_4
  | 5, _ => exact zfk_5
  | 6, _ => exact zfk_6
  | 7, _ => exact zfk_7
  | 8, _ => exact zfk_8
  | 9, _ => exact zfk_9
  | 10, _ => exact zfk_10
  | 11, _ => exact zfk_11
theorem zmks (o : Nat) (ho : o < 18) : (zLT.getD o []).all (zmk o) = true := by
  match o, ho with
  | 0, _ => exact zmk_0
  | 1, _ => exact zmk_1
  | 2, _ => exact zmk_2
  | 3, _ => exact zmk_3
  | 4, _ => exact zmk_4
  | 5, _ => exact zmk_5
  | 6, _ => exact zmk_6
  | 7, _ => exact zmk_7
  | 8, _ => exact zmk_8
  | 9, _ => exact zmk_9
  | 10, _ => exact zmk_10
  | 11, _ => exact zmk_11
  | 12, _ => exact zmk_12
  | 13, _ => exact zmk_13
  | 14, _ => exact zmk_14
  | 15, _ => exact zmk_15
  | 16, _ => exact zmk_16
  | 17, _ => exact zmk_17
  | o + 18, h => omega
end
section
/-! THE ABSTRACT HEAP: cells by numbers 0, 1, .. in the order of their making; a cell's kind, length and references (the shape), and its ints. The script is cell 1000000, its length is the int 0 of cell 1000001; String constants are 1000010 + j, their bytes 1000020 + j. -/
abbrev zK : Type := Nat ⊕ Nat
abbrev zS : Type := List (zK × Nat × List (Option Nat))
abbrev zM : Type := Nat → Nat → Int32
abbrev zH : Type := zS × zM
abbrev zQ : Type := Option Value → zH → Prop
abbrev zLs : Type := List (Nat × Value)
/-- base, tables, array classes, the script's cell, String constants and their bytes -/
abbrev zE : Type := Nat × va_G × (Nat → ClassId) × Nat × (Nat → Nat) × (Nat → Nat)
def zad (E : zE) (i : Nat) : Nat := if i < 1000000 then E.1 + i else if i = 1000000 then E.2.2.2.1 else if i < 1000020 then E.2.2.2.2.1 (i - 1000010) else E.2.2.2.2.2 (i - 1000020)
def zv (E : zE) : Value → Value
  | .ref a => .ref (zad E a)
  | v => v
def zrf (E : zE) : Option Nat → Value
  | none => .null
  | some a => .ref (zad E a)
def zfl (E : zE) (ci : Nat) (rs : List (Option Nat)) (m : Nat → Int32) (k : Nat) : Value := if zFk ci k = 2 then zrf E (rs.getD k none) else .int (m k)
def zce (E : zE) (e : zK × Nat × List (Option Nat)) (m : Nat → Int32) : va_E :=
  match e.1 with
  | .inl t => .inl (E.2.2.1 t, e.2.1, if t = 4 then .inr (.inr (.inr (.inr (fun j => (e.2.2.getD j none).map (zad E))))) else .inl m)
  | .inr ci => .inr (ci, (List.range (zN ci)).map (zfl E ci e.2.2 m))
def zws (E : zE) (h : zH) : va_W := (List.range h.1.length).map (fun i => (E.1 + i, zce E (h.1.getD i (.inl 0, 0, [])) (h.2 i)))
def ztys (E : zE) : List (ClassId × FieldType) := [(E.2.2.1 0, .int), (E.2.2.1 1, .byte), (E.2.2.1 2, .boolean), (E.2.2.1 3, .char), (E.2.2.1 4, .array .int)]
def zAr (E : zE) : Nat → Prop := fun q => E.1 ≤ q
/-- the String constants: rows of a message -/
def zSS : List (List Nat) := [[80, 73, 78, 83], [84, 69, 68, 67, 65], [81, 73, 79, 86], [82, 73, 79, 65], []]
def zSn (a : Nat) : Option Nat := if 1000010 ≤ a ∧ a < 1000015 then some (zSS.getD (a - 1000010) []).length else none
def zSc (a i : Nat) : Int32 := Int32.ofNat ((zSS.getD (a - 1000010) []).getD i 0)
def zST : List (Nat × Nat × Nat) := [(10, 284, 0), (3, 55, 1), (1, 42, 1), (10, 286, 2), (10, 288, 3), (10, 290, 4)]
def zSk (o i : Nat) : Option Nat := (zST.find? (fun e => e.1 == o && e.2.1 == i)).map (fun e => e.2.2)
/-- the String constants' lengths, bytes and texts -/
def zLn : List Nat := [4, 5, 4, 4, 0]
def zBy : List (List Int32) := [[80, 73, 78, 83], [84, 69, 68, 67, 65], [81, 73, 79, 86], [82, 73, 79, 65], []]
def zTx (j : Nat) : String := (["PINS", "TEDCA", "QIOV", "RIOA", ""] : List String).getD j ""
/-- what the machine knows of them, of two static fields (the second one's object, if any, stands at place 9), and of arrays of arrays -/
def zStr (E : zE) (s : State) : Prop :=
  vk_S 5 zLn zBy E.2.2.2.2.1 E.2.2.2.2.2 (zAr E) s s.heap ∧ (∀ e ∈ zST, vk_R (zRN e.1) e.2.1 (zTx e.2.2) (E.2.2.2.2.1 e.2.2) s) ∧
  va_Z "java/lang/String" "COMPACT_STRINGS" "Z" (.int 1) (zAr E) s s.heap ∧ (va_Z "jdk/internal/util/Preconditions" "SIOOBE_FORMATTER" "Ljava/util/function/BiFunction;" .null (zAr E) s s.heap ∨ va_Z "jdk/internal/util/Preconditions" "SIOOBE_FORMATTER" "Ljava/util/function/BiFunction;" (.ref (E.2.2.2.2.1 9)) (zAr E) s s.heap) ∧
  (Jvm.Cond.arrayOver (.array .int)).before #[] s = true
/-- what never changes: at the start of a method -/
def zT (E : zE) (L : Nat) (xs : Nat → Int32) (s : State) : Prop :=
  va_K E.2.1 vwCl (ztys E) s ∧ E.1 ≤ s.heap.size ∧ va_X E.2.2.2.1 L xs s s.heap ∧ E.2.2.2.1 < E.1 ∧ L ≤ 100000 ∧ (∀ w ∈ zNW, va_Nw w s) ∧ zStr E s
/-- the heap holds h -/
def zP (E : zE) (h : zH) (H : Heap) : Prop := H.size = E.1 + h.1.length ∧ h.1.length ≤ 1000000 ∧ va_P E.2.1 vwCl (zws E h) H
/-- the method's own -/
def zCx (k : Nat) (p : Program) (s : State) (m : MethodId) (args : Array Value) (meth : Method) (c : Code) : Prop :=
  p.tables.exec = Jvm.exec ∧ c.code = zC k ∧ c.maxLocals = zL k ∧ meth.sig.returnType = zRt k ∧ meth.locks = false ∧ s.vm.findClass (zRN (zO k)) = some m.cls ∧ (∀ w ∈ zTB, w.before args s = true) ∧ meth.name = (zY k).name
def zRm (k : Nat) (g : Nat × Nat × Nat × Nat) : Room := { frames := zFr k, cells := g.1, slots := g.2.1, locals := zLo k }
/-- a method's end -/
def zQc (E : zE) (L : Nat) (xs : Nat → Int32) (Q : zQ) : Array Value → State → Outcome → State → Prop := fun _ st oc t =>
  ∃ (r : Option Value) (h : zH), Q r h ∧ oc = .returned (r.map (zv E)) ∧ zP E h t.heap ∧ h.2 1000000 = xs ∧ h.2 1000001 0 = Int32.ofNat L ∧ va_F (zAr E) st t
/-- from pc on, with these locals, this stack and this heap, method k comes to its end with Q; g: cells and slots that it may make, those made -/
def ZW (k : Nat) (g : Nat × Nat × Nat × Nat) (pc : Nat) (ls : zLs) (st : List Value) (h : zH) (Q : zQ) : Prop :=
  ∀ (p : Program) (l : Launch) (e : Env) (s : State) (m : MethodId) (args : Array Value) (below : List Frame) (meth : Method) (c : Code) (E : zE) (L : Nat) (xs : Nat → Int32) (H : Heap) (locs : List Loc) (lsA : Array Slot),
    zCx k p s m args meth c → zT E L xs s → h.2 1000000 = xs → h.2 1000001 0 = Int32.ofNat L → zP E h H → va_S (zAr E) s.heap H locs → lv_has lsA (zL k) (ls.map (fun q => (q.1, zv E q.2))) →
    W p l e (zRm k g) s m args below meth c H locs g.2.2.1 g.2.2.2 (MQ below (zQc E L xs Q) args s g.1 g.2.1 (zAr E)) (F0 m pc lsA (st.map (zv E)))
/-- a call of method k -/
def ZM (k mc ms : Nat) (as : List Value) (h : zH) (Q : zQ) : Prop := ZW k (mc, ms, 0, 0) 0 (lv_args 0 as) [] h Q
def zup (m : zM) (a k : Nat) (v : Int32) : zM := fun b => if b = a then upd (m a) k v else m b
def zz (m : zM) (a : Nat) : zM := fun b => if b = a then (fun _ => 0) else m b
/-! THE EVALUATOR -/
def zi1 (st : List Value) (f : Int32 → List Value → Prop) : Prop := match st with | .int x :: r => f x r | _ => False
def zi2 (st : List Value) (f : Int32 → Int32 → List Value → Prop) : Prop := match st with | .int y :: .int x :: r => f x y r | _ => False
def zl1 (st : List Value) (f : Int64 → List Value → Prop) : Prop := match st with | .long x :: r => f x r | _ => False
def zl2 (st : List Value) (f : Int64 → Int64 → List Value → Prop) : Prop := match st with | .long y :: .long x :: r => f x y r | _ => False
def zli (st : List Value) (f : Int64 → Int32 → List Value → Prop) : Prop := match st with | .int y :: .long x :: r => f x y r | _ => False
def za1 (st : List Value) (f : Nat → List Value → Prop) : Prop := match st with | .ref a :: r => f a r | _ => False
def zai (st : List Value) (f : Nat → Int32 → List Value → Prop) : Prop := match st with | .int i :: .ref a :: r => f a i r | _ => False
def zaii (st : List Value) (f : Nat → Int32 → Int32 → List Value → Prop) : Prop := match st with | .int x :: .int i :: .ref a :: r => f a i x r | _ => False
def zav (st : List Value) (f : Nat → Value → List Value → Prop) : Prop := match st with | v :: .ref a :: r => f a v r | _ => False
def zld (ls : zLs) (i : Nat) (f : Value → Prop) : Prop := match ls.find? (fun q => q.1 == i) with | some q => f q.2 | none => False
def zIv (v : Value) (f : Int32 → Prop) : Prop := match v with | .int x => f x | _ => False
def zLv (v : Value) (f : Int64 → Prop) : Prop := match v with | .long x => f x | _ => False
def zRv (v : Value) (f : Nat → Prop) : Prop := match v with | .ref x => f x | _ => False
def zs1 (ls : zLs) (i : Nat) (v : Value) : zLs := (i, v) :: ls.filter (fun q => !(q.1 == i) && !(q.1 + 1 == i && q.2.category == 2))
def zs2 (ls : zLs) (i : Nat) (v : Value) : zLs := (i, v) :: ls.filter (fun q => !(q.1 == i) && (!(q.1 == i + 1) && !(q.1 + 1 == i && q.2.category == 2)))
def zbr (c : Prop) (a b : Prop) : Prop := (c → a) ∧ (¬ c → b)
def zcn (o : ClassFile.Cond) (x y : Int32) : Prop := match o with
  | .eq => x = y
  | .ne => ¬ x = y
  | .lt => x < y
  | .ge => y ≤ x
  | .gt => y < x
  | .le => x ≤ y
def zsw (x : Int32) (ps : List (Int × Nat)) (d : Nat) (f : Nat → Prop) : Prop := match ps with
  | [] => f d
  | (c, t) :: r => (x = Int32.ofInt c → f t) ∧ (¬ x = Int32.ofInt c → zsw x r d f)
def ztg (pc : Nat) (off : Int) : Nat := ((pc : Int) + off).toNat
def zdr (l : zIs) (t : Nat) : zIs := match l with
  | [] => []
  | e :: r => if e.1 == t then e :: r else zdr r t
def zat (k t : Nat) : zIs := zdr (zI k) t
def zpc (l : zIs) : Nat := match l with | [] => 0 | e :: _ => e.1
def zhd (l : zIs) : Bool := match l with | [] => false | e :: _ => e.2.2.2
def zob (h : zH) (a c : Nat) (f : List (Option Nat) → Prop) : Prop := match h.1[a]? with | some (.inr d, _, rs) => if d = c then f rs else False | _ => False
def zar (h : zH) (a t : Nat) (f : Nat → Prop) : Prop := match h.1[a]? with | some (.inl d, n, _) => if d = t then f n else False | _ => False
def zob2 (o : Option (Nat × Nat)) (f : Nat → Nat → Prop) : Prop := match o with | some (a, b) => f a b | none => False
def zo1 (o : Option Nat) (f : Nat → Prop) : Prop := match o with | some a => f a | none => False
def zrv (o : Option Nat) : Value := match o with | some a => .ref a | none => .null
def zret (ty : Option FieldType) (v : Int32) (f : Prop) : Prop := match ty with
  | some .int => f
  | some .boolean => (v = 0 ∨ v = 1) ∧ f
  | _ => False
def zcs (st : List Value) : Nat := (st.map fun v => v.category).sum
/-- a call's room -/
def zcr (k j : Nat) (rest : List Value) : Bool := decide (zFr j + 1 ≤ zFr k) && decide (8 + (zL j + 11) + zLo j ≤ zLo k) && decide (zcs rest ≤ 8)
def zsl (as : List Value) : Nat := (lg_sl as).length
def zif (c : Prop) [Decidable c] (a : Prop) : Prop := if c then a else False
def zif2 (c : Prop) [Decidable c] (a b : Prop) : Prop := if c then a else b
def zbz (h : zH) (a : Nat) (f f2 : Nat → Prop) : Prop := match h.1[a]? with
  | some (.inl 1, n, _) => f n
  | some (.inl 2, n, _) => f2 n
  | _ => False
def zra (h : zH) (a : Nat) (f : Nat → List (Option Nat) → Prop) : Prop := match h.1[a]? with
  | some (.inl 4, n, rs) => f n rs
  | _ => False
def zal (h : zH) (a : Nat) (f : Nat → Prop) : Prop := match h.1[a]? with
  | some (.inl t, n, _) => if t < 5 then f n else False
  | _ => False
def zrc (st : List Value) (na : Nat) (f : Nat → Prop) : Prop := match st.drop (na - 1) with
  | .ref a :: _ => f a
  | _ => False
def zor (o : Option Nat) (f : Nat → Prop) (b : Prop) : Prop := match o with
  | some v => f v
  | none => b
def zc1 (st : List Value) (f : Value → List Value → Prop) : Prop := match st with
  | v :: r => if v.category = 1 then f v r else False
  | [] => False
def zr1 (st : List Value) (f : Int32 → Prop) : Prop := match st with
  | [.int v] => f v
  | _ => False
def zrA (st : List Value) (ty : Option FieldType) (f : Nat → Prop) : Prop := match st, ty with
  | [.ref v], some (.object _) => f v
  | _, _ => False
def zr0 (st : List Value) (ty : Option FieldType) (f : Prop) : Prop := match st, ty with
  | [], none => f
  | _, _ => False
def zat0 (t : ArrayType) : Option Nat := match t with
  | .int => some 0
  | .byte => some 1
  | .boolean => some 2
  | .char => some 3
  | _ => none
noncomputable def zw (N : List Nat) : Nat → Nat → (Nat × Nat × Nat × Nat) → zIs → zLs → List Value → zH → zQ → Prop
  | 0, k, g, is, ls, st, h, Q => match is with
    | [] => False
    | e :: _ => ZW k g e.1 ls st h Q
  | n + 1, k, g, is, ls, st, h, Q =>
    match is with
    | [] => False
    | (pc, i, _, _) :: is =>
      let nx (is : zIs) (ls : zLs) (st : List Value) (h : zH) : Prop := zif2 (zhd is = true) (ZW k g (zpc is) ls st h Q) (zw N n k g is ls st h Q)
      let jm (off : Int) (ls : zLs) (st : List Value) (h : zH) : Prop := zif2 (off ≤ 0) (ZW k g (ztg pc off) ls st h Q) (nx (zat k (ztg pc off)) ls st h)
      let cl (j : Nat) (st : List Value) : Prop :=
        zif (j < 219 ∧ zcr k j (st.drop (zNa j)) = true ∧ zsl (st.take (zNa j)).reverse ≤ zL j ∧ (st.take (zNa j)).length = zNa j ∧ g.2.2.1 ≤ g.1 ∧ g.2.2.2 ≤ g.2.1)
          (zif2 (N.contains j = true) (zw N n j (0, 0, 0, 0) (zI j) (lv_args 0 (st.take (zNa j)).reverse) [] h (fun r h => nx is ls (r.toList ++ st.drop (zNa j)) h))
          (ZM j 0 0 (st.take (zNa j)).reverse h (fun r h => ZW k g (pc + 3) ls (r.toList ++ st.drop (zNa j)) h Q)))
      match i with
      | .iconst c => nx is ls (.int (Int32.ofInt c) :: st) h
      | .bipush c => nx is ls (.int (Int8.ofInt c).toInt32 :: st) h
      | .sipush c => nx is ls (.int (Int16.ofInt c).toInt32 :: st) h
      | .ldc x => zor (zKi (zO k) x) (fun v => nx is ls (.int (Int32.ofNat v) :: st) h) (zo1 (zSk (zO k) x) fun j => nx is ls (.ref (1000010 + j) :: st) h)
      | .ldc_w x => zo1 (zKi (zO k) x) fun v => nx is ls (.int (Int32.ofNat v) :: st) h
      | .ldc2_w x => zo1 (zKl (zO k) x) fun v => nx is ls (.long (Int64.ofNat v) :: st) h
      | .iload x => zld ls x fun v => zIv v fun y => nx is ls (.int y :: st) h
      | .iload_n x => zld ls x.val fun v => zIv v fun y => nx is ls (.int y :: st) h
      | .lload x => zld ls x fun v => zLv v fun y => nx is ls (.long y :: st) h
      | .lload_n x => zld ls x.val fun v => zLv v fun y => nx is ls (.long y :: st) h
      | .aload x => zld ls x fun v => zRv v fun y => nx is ls (.ref y :: st) h
      | .aload_n x => zld ls x.val fun v => zRv v fun y => nx is ls (.ref y :: st) h
      | .istore x => zi1 st fun v r => zif (x < zL k) (nx is (zs1 ls x (.int v)) r h)
      | .istore_n x => zi1 st fun v r => zif (x.val < zL k) (nx is (zs1 ls x.val (.int v)) r h)
      | .astore x => za1 st fun v r => zif (x < zL k) (nx is (zs1 ls x (.ref v)) r h)
      | .astore_n x => za1 st fun v r => zif (x.val < zL k) (nx is (zs1 ls x.val (.ref v)) r h)
      | .lstore x => zl1 st fun v r => zif (x + 1 < zL k) (nx is (zs2 ls x (.long v)) r h)
      | .iinc x c => zld ls x fun v => zIv v fun y => zif (x < zL k) (nx is (zs1 ls x (.int (y + Int32.ofInt c))) st h)
      | .iadd => zi2 st fun x y r => nx is ls (.int (x + y) :: r) h
      | .isub => zi2 st fun x y r => nx is ls (.int (x - y) :: r) h
      | .imul => zi2 st fun x y r => nx is ls (.int (x * y) :: r) h
      | .idiv => zi2 st fun x y r => ¬ y = 0 ∧ nx is ls (.int (x / y) :: r) h
      | .irem => zi2 st fun x y r => ¬ y = 0 ∧ nx is ls (.int (x - x / y * y) :: r) h
      | .ineg => zi1 st fun x r => nx is ls (.int (-x) :: r) h
      | .iand => zi2 st fun x y r => nx is ls (.int (x &&& y) :: r) h
      | .ior => zi2 st fun x y r => nx is ls (.int (x ||| y) :: r) h
      | .ishl => zi2 st fun x y r => nx is ls (.int (x <<< (y &&& 31)) :: r) h
      | .ishr => zi2 st fun x y r => nx is ls (.int (x >>> (y &&& 31)) :: r) h
      | .land => zl2 st fun x y r => nx is ls (.long (x &&& y) :: r) h
      | .lor => zl2 st fun x y r => nx is ls (.long (x ||| y) :: r) h
      | .lshl => zli st fun x y r => nx is ls (.long (x <<< (y.toInt64 &&& 63)) :: r) h
      | .lshr => zli st fun x y r => nx is ls (.long (x >>> (y.toInt64 &&& 63)) :: r) h
      | .lushr => zli st fun x y r => nx is ls (.long (x.toUInt64 >>> (y.toInt64.toUInt64 &&& Int64.toUInt64 63)).toInt64 :: r) h
      | .lcmp => zl2 st fun x y r => nx is ls (.int (lg_cmp x y) :: r) h
      | .i2l => zi1 st fun x r => nx is ls (.long x.toInt64 :: r) h
      | .l2i => zl1 st fun x r => nx is ls (.int x.toInt32 :: r) h
      | .i2b => zi1 st fun x r => nx is ls (.int x.toInt8.toInt32 :: r) h
      | .i2c => zi1 st fun x r => nx is ls (.int (x.toUInt32 % 65536).toInt32 :: r) h
      | .dup => zc1 st fun v r => nx is ls (v :: v :: r) h
      | .dup2 => zai st fun a x r => nx is ls (.int x :: .ref a :: .int x :: .ref a :: r) h
      | .pop => zc1 st fun _ r => nx is ls r h
      | .ifCond o off => zi1 st fun x r => zif (0 ≤ (pc : Int) + off) (zbr (zcn o x 0) (jm off ls r h) (nx is ls r h))
      | .if_icmp o off => zi2 st fun x y r => zif (0 ≤ (pc : Int) + off) (zbr (zcn o x y) (jm off ls r h) (nx is ls r h))
      | .goto off => zif (0 ≤ (pc : Int) + off) (jm off ls st h)
      | .tableswitch d lo hi offs => zi1 st fun x r => zif (hi = lo + (offs.size : Int) - 1 ∧ -2147483648 ≤ lo ∧ hi < 2147483648 ∧ 0 < d ∧ offs.toList.all (fun o => decide (0 < o)) = true) (zsw x (offs.toList.zipIdx.map (fun q => (lo + (q.2 : Int), ztg pc q.1))) (ztg pc d) fun t => nx (zat k t) ls r h)
      | .lookupswitch d ps => zi1 st fun x r => zif ((ps.toList.zip (ps.toList.drop 1)).all (fun (a, next) => a.1 < next.1) = true ∧ 0 < d ∧ ps.toList.all (fun q => decide (-2147483648 ≤ q.1 ∧ q.1 < 2147483648 ∧ 0 < q.2)) = true) (zsw x (ps.toList.map (fun q => (q.1, ztg pc q.2))) (ztg pc d) fun t => nx (zat k t) ls r h)
      | .getfield x => za1 st fun a r => zob2 (zF (zO k) x) fun c f => zob h a c fun rs => zif2 (zFk c f = 2) (nx is ls (zrv (rs.getD f none) :: r) h) (nx is ls (.int (h.2 a f) :: r) h)
      | .putfield x => zav st fun a v r => zob2 (zF (zO k) x) fun c f => zob h a c fun rs =>
          zif (zFw c f = true ∨ ((zY k).name = "<init>" ∧ zO k = c))
            (zif2 (zFk c f = 2) (zRv v fun b => zif (b < h.1.length ∧ rs.length = zN c) (nx is ls r (h.1.set a (.inr c, 0, rs.set f (some b)), h.2)))
            (zIv v fun y => zif2 (zFk c f = 0) (nx is ls r (h.1, zup h.2 a f y)) ((y = 0 ∨ y = 1) ∧ nx is ls r (h.1, zup h.2 a f y))))
      | .iaload => zai st fun a j r => zif2 (a = 1000000) (vp_in j (h.2 1000001 0).toNatClampNeg ∧ nx is ls (.int (h.2 a j.toNatClampNeg) :: r) h) (zar h a 0 fun n => vp_in j n ∧ nx is ls (.int (h.2 a j.toNatClampNeg) :: r) h)
      | .baload => zai st fun a j r => zbz h a (fun n => vp_in j n ∧ nx is ls (.int (h.2 a j.toNatClampNeg) :: r) h) (fun n => vp_in j n ∧ nx is ls (.int (h.2 a j.toNatClampNeg) :: r) h)
      | .caload => zai st fun a j r => zar h a 3 fun n => vp_in j n ∧ nx is ls (.int (h.2 a j.toNatClampNeg) :: r) h
      | .aaload => zai st fun a j r => zra h a fun n rs => vp_in j n ∧ zo1 (rs.getD j.toNatClampNeg none) fun b => nx is ls (.ref b :: r) h
      | .iastore => zaii st fun a j x r => zar h a 0 fun n => vp_in j n ∧ nx is ls r (h.1, zup h.2 a j.toNatClampNeg x)
      | .bastore => zaii st fun a j x r => zbz h a (fun n => vp_in j n ∧ nx is ls r (h.1, zup h.2 a j.toNatClampNeg (vp_nar .byte x))) (fun n => vp_in j n ∧ nx is ls r (h.1, zup h.2 a j.toNatClampNeg (vp_nar .boolean x)))
      | .castore => zaii st fun a j x r => zar h a 3 fun n => vp_in j n ∧ nx is ls r (h.1, zup h.2 a j.toNatClampNeg (vp_nar .char x))
      | .arraylength => za1 st fun a r => zif2 (a = 1000000) (nx is ls (.int (h.2 1000001 0) :: r) h) (zal h a fun n => nx is ls (.int (Int32.ofNat n) :: r) h)
      | .new x => zo1 (zCl (zO k) x) fun c => zif (g.2.2.1 + 1 ≤ g.1 ∧ g.2.2.2 + zN c ≤ g.2.1 ∧ h.1.length < 900000) (zw N n k (g.1, g.2.1, g.2.2.1 + 1, g.2.2.2 + zN c) is ls (.ref h.1.length :: st) (h.1 ++ [(.inr c, 0, List.replicate (zN c) none)], zz h.2 h.1.length) Q)
      | .newarray t => zi1 st fun x r => zo1 (zat0 t) fun d =>
          zif (¬ x < 0 ∧ x.toNatClampNeg ≤ 100000 ∧ g.2.2.1 + 1 ≤ g.1 ∧ g.2.2.2 + x.toNatClampNeg ≤ g.2.1 ∧ h.1.length < 900000) (zw N n k (g.1, g.2.1, g.2.2.1 + 1, g.2.2.2 + x.toNatClampNeg) is ls (.ref h.1.length :: r) (h.1 ++ [(.inl d, x.toNatClampNeg, [])], zz h.2 h.1.length) Q)
      | .invokespecial x => zo1 (zLk (zO k) x) fun j =>
          zif2 (j = 999) (za1 st fun _ r => zif (1 ≤ zFr k ∧ zcs r + 12 ≤ zLo k) (nx is ls r h))
          (zrc st (zNa j) fun _ => zif (j < 219 ∧ zSt j = false ∧ (zY j).name = "<init>" ∧ zRt j = none ∧ zcr k j (st.drop (zNa j)) = true ∧ zsl (st.take (zNa j)).reverse ≤ zL j ∧ (st.take (zNa j)).length = zNa j ∧ g.2.2.1 + zMc j ≤ g.1 ∧ g.2.2.2 + zMs j ≤ g.2.1)
            (ZM j (zMc j) (zMs j) (st.take (zNa j)).reverse h (fun r h => ZW k (g.1, g.2.1, g.2.2.1 + zMc j, g.2.2.2 + zMs j) (pc + 3) ls (r.toList ++ st.drop (zNa j)) h Q)))
      | .invokevirtual x => zo1 (zLk (zO k) x) fun j =>
          zif2 (j = 220) (za1 st fun a r => zo1 (zSn a) fun n => zif (zcr k j r = true ∧ g.2.2.1 ≤ g.1 ∧ g.2.2.2 ≤ g.2.1) (nx is ls (.int (Int32.ofNat n) :: r) h))
          (zif2 (j = 221) (za1 st fun a r => zo1 (zSn a) fun n => zif (zcr k j r = true ∧ g.2.2.1 ≤ g.1 ∧ g.2.2.2 ≤ g.2.1) (nx is ls (.int (if n = 0 then 1 else 0) :: r) h))
          (zif2 (j = 222) (zai st fun a i r => zo1 (zSn a) fun n => zif (zcr k j r = true ∧ g.2.2.1 ≤ g.1 ∧ g.2.2.2 ≤ g.2.1) (vp_in i n ∧ nx is ls (.int (zSc a i.toNatClampNeg) :: r) h))
          (zrc st (zNa j) fun a => zif (zSt j = false ∧ (zY j).name ≠ "<init>") (zob h a (zO j) fun _ => cl j st))))
      | .invokestatic x => zo1 (zLk (zO k) x) fun j =>
          zif2 (j = 232) (zi2 st fun x y r => zif (1 ≤ zFr k ∧ zcs r + 13 ≤ zLo k ∧ g.2.2.1 ≤ g.1 ∧ g.2.2.2 ≤ g.2.1) (nx is ls (.int (if x < y then y else x) :: r) h))
          (zif2 (j = 233) (zi2 st fun x y r => zif (1 ≤ zFr k ∧ zcs r + 13 ≤ zLo k ∧ g.2.2.1 ≤ g.1 ∧ g.2.2.2 ≤ g.2.1) (nx is ls (.int (if y < x then y else x) :: r) h))
          (zif (zSt j = true) (cl j st)))
      | .ireturn => zr1 st fun v => zret (zRt k) v (zif (g.2.2.1 ≤ g.1 ∧ g.2.2.2 ≤ g.2.1) (Q (some (.int v)) h))
      | .areturn => zrA st (zRt k) fun v => zif (g.2.2.1 ≤ g.1 ∧ g.2.2.2 ≤ g.2.1) (Q (some (.ref v)) h)
      | .return_ => zr0 st (zRt k) (zif (g.2.2.1 ≤ g.1 ∧ g.2.2.2 ≤ g.2.1) (Q none h))
      | _ => False
end
section
/-! the shape behind the two constructors, written by wip/gen/shape.py -/
-- 0: PaymentHub hub 0=text 1=message 2=records 3=form 4=ledger 5=clock
-- 1: PaymentHub$Tree Text.tree 0=letters 1=depths 2=begins 3=ends 4=written 5=size 6=path 7=open 8=characters 9=length
-- 2: int[75] Tree.letters 
-- 3: int[75] Tree.depths 
-- 4: int[75] Tree.begins 
-- 5: int[75] Tree.ends 
-- 6: boolean[75] Tree.written 
-- 7: int[4] Tree.path 
-- 8: int[300] Tree.characters 
-- 9: PaymentHub$Text PaymentHub.text 0=tree 1=characters 2=length 3=at
-- 10: int[300] Text.characters 
-- 11: PaymentHub$Message PaymentHub.message 0=tree 1=value 2=values 3=kind 4=size
-- 12: PaymentHub$Value Message.value 0=tree 1=from 2=length
-- 13: int[19] Message.values 
-- 14: PaymentHub$Records PaymentHub.records 0=bytes 1=length 2=whole 3=draft 4=drafted 5=failing 6=left 7=cut 8=down
-- 15: byte[5247] Records.bytes 
-- 16: int[258] Records.draft 
-- 17: PaymentHub$Form PaymentHub.form 0=records
-- 18: PaymentHub$Ledger PaymentHub.ledger 0=accounts 1=transactions 2=reports 3=messageNames 4=messages
-- 19: PaymentHub$Accounts Ledger.accounts 0=limit 1=balances 2=reserved 3=counts 4=entries
-- 20: int[4] Accounts.balances 
-- 21: int[4] Accounts.reserved 
-- 22: int[4] Accounts.counts 
-- 23: int[][4] Accounts.entries 
-- 24: int[40] row 0 
-- 25: int[40] row 1 
-- 26: int[40] row 2 
-- 27: int[40] row 3 
-- 28: PaymentHub$Transactions Ledger.transactions 0=names 1=amounts 2=debtors 3=creditors 4=statuses 5=deadlines 6=size 7=queued 8=queueLength
-- 29: int[20] Transactions.names 
-- 30: int[20] Transactions.amounts 
-- 31: int[20] Transactions.debtors 
-- 32: int[20] Transactions.creditors 
-- 33: int[20] Transactions.statuses 
-- 34: int[20] Transactions.deadlines 
-- 35: int[20] Transactions.queued 
-- 36: PaymentHub$Reports Ledger.reports 0=ended 1=statuses 2=marked 3=copied 4=size
-- 37: int[40] Reports.ended 
-- 38: int[40] Reports.statuses 
-- 39: boolean[40] Reports.marked 
-- 40: int[40] Reports.copied 
-- 41: int[60] Ledger.messageNames 
-- 42: PaymentHubModel model 0=open 1=limit 2=clock 3=down 4=armed 5=armedBytes 6=text 7=length 8=letter 9=parent 10=kids 11=solid 12=begins 13=ends 14=elements 15=chars 16=written 17=stack 18=depth 19=rooted 20=at 21=fine 22=message 23=number 24=sum 25=names 26=debtors 27=creditors 28=digits 29=amounts 30=parts 31=answered 32=agrees 33=record 34=size 35=journal 36=bytes 37=messages 38=accepted 39=nameOf 40=amountOf 41=debtorOf 42=creditorOf 43=statusOf 44=deadlineOf 45=transactions 46=row 47=queued 48=balance 49=reserved 50=entries 51=entryCount 52=reportOf 53=reportStatus 54=marked 55=reports 56=copiesOf
-- 43: char[300] PaymentHubModel.text 
-- 44: char[100] PaymentHubModel.letter 
-- 45: int[100] PaymentHubModel.parent 
-- 46: int[100] PaymentHubModel.kids 
-- 47: boolean[100] PaymentHubModel.solid 
-- 48: int[100] PaymentHubModel.begins 
-- 49: int[100] PaymentHubModel.ends 
-- 50: char[300] PaymentHubModel.chars 
-- 51: int[4] PaymentHubModel.stack 
-- 52: int[3] PaymentHubModel.names 
-- 53: int[3] PaymentHubModel.debtors 
-- 54: int[3] PaymentHubModel.creditors 
-- 55: int[6] PaymentHubModel.digits 
-- 56: int[3] PaymentHubModel.amounts 
-- 57: int[400] PaymentHubModel.record 
-- 58: int[7000] PaymentHubModel.journal 
-- 59: int[300] PaymentHubModel.messages 
-- 60: int[24] PaymentHubModel.nameOf 
-- 61: int[24] PaymentHubModel.amountOf 
-- 62: int[24] PaymentHubModel.debtorOf 
-- 63: int[24] PaymentHubModel.creditorOf 
-- 64: int[24] PaymentHubModel.statusOf 
-- 65: int[24] PaymentHubModel.deadlineOf 
-- 66: int[24] PaymentHubModel.row 
-- 67: int[4] PaymentHubModel.balance 
-- 68: int[4] PaymentHubModel.reserved 
-- 69: int[256] PaymentHubModel.entries 
-- 70: int[4] PaymentHubModel.entryCount 
-- 71: int[64] PaymentHubModel.reportOf 
-- 72: int[64] PaymentHubModel.reportStatus 
-- 73: boolean[64] PaymentHubModel.marked 
-- 74: int[64] PaymentHubModel.copiesOf 
def SHh : zS := [(.inr 10, 0, [some 9, some 11, some 14, some 17, some 18, none]), (.inr 8, 0, [some 2, some 3, some 4, some 5, some 6, none, some 7, none, some 8, none]), (.inl 0, 75, []), (.inl 0, 75, []), (.inl 0, 75, []), (.inl 0, 75, []), (.inl 2, 75, []), (.inl 0, 4, []), (.inl 0, 300, []), (.inr 6, 0, [some 1, some 10, none, none]), (.inl 0, 300, []), (.inr 3, 0, [some 1, some 12, some 13, none, none]), (.inr 9, 0, [some 1, none, none]), (.inl 0, 19, []), (.inr 4, 0, [some 15, none, none, some 16, none, none, none, none, none]), (.inl 1, 5247, []), (.inl 0, 258, []), (.inr 1, 0, [some 14]), (.inr 2, 0, [some 19, some 28, some 36, some 41, none]), (.inr 0, 0, [none, some 20, some 21, some 22, some 23]), (.inl 0, 4, []), (.inl 0, 4, []), (.inl 0, 4, []), (.inl 4, 4, [some 24, some 25, some 26, some 27]), (.inl 0, 40, []), (.inl 0, 40, []), (.inl 0, 40, []), (.inl 0, 40, []), (.inr 7, 0, [some 29, some 30, some 31, some 32, some 33, some 34, none, some 35, none]), (.inl 0, 20, []), (.inl 0, 20, []), (.inl 0, 20, []), (.inl 0, 20, []), (.inl 0, 20, []), (.inl 0, 20, []), (.inl 0, 20, []), (.inr 5, 0, [some 37, some 38, some 39, some 40, none]), (.inl 0, 40, []), (.inl 0, 40, []), (.inl 2, 40, []), (.inl 0, 40, []), (.inl 0, 60, [])]
def SHm : zS := [(.inr 11, 0, [none, none, none, none, none, none, some 43, none, some 44, some 45, some 46, some 47, some 48, some 49, none, some 50, none, some 51, none, none, none, none, none, none, none, some 52, some 53, some 54, some 55, some 56, none, none, none, some 57, none, some 58, none, some 59, none, some 60, some 61, some 62, some 63, some 64, some 65, none, some 66, none, some 67, some 68, some 69, some 70, some 71, some 72, some 73, none, some 74]), (.inl 3, 300, []), (.inl 3, 100, []), (.inl 0, 100, []), (.inl 0, 100, []), (.inl 2, 100, []), (.inl 0, 100, []), (.inl 0, 100, []), (.inl 3, 300, []), (.inl 0, 4, []), (.inl 0, 3, []), (.inl 0, 3, []), (.inl 0, 3, []), (.inl 0, 6, []), (.inl 0, 3, []), (.inl 0, 400, []), (.inl 0, 7000, []), (.inl 0, 300, []), (.inl 0, 24, []), (.inl 0, 24, []), (.inl 0, 24, []), (.inl 0, 24, []), (.inl 0, 24, []), (.inl 0, 24, []), (.inl 0, 24, []), (.inl 0, 4, []), (.inl 0, 4, []), (.inl 0, 256, []), (.inl 0, 4, []), (.inl 0, 64, []), (.inl 0, 64, []), (.inl 2, 64, []), (.inl 0, 64, [])]
def SH : zS := [(.inr 10, 0, [some 9, some 11, some 14, some 17, some 18, none]), (.inr 8, 0, [some 2, some 3, some 4, some 5, some 6, none, some 7, none, some 8, none]), (.inl 0, 75, []), (.inl 0, 75, []), (.inl 0, 75, []), (.inl 0, 75, []), (.inl 2, 75, []), (.inl 0, 4, []), (.inl 0, 300, []), (.inr 6, 0, [some 1, some 10, none, none]), (.inl 0, 300, []), (.inr 3, 0, [some 1, some 12, some 13, none, none]), (.inr 9, 0, [some 1, none, none]), (.inl 0, 19, []), (.inr 4, 0, [some 15, none, none, some 16, none, none, none, none, none]), (.inl 1, 5247, []), (.inl 0, 258, []), (.inr 1, 0, [some 14]), (.inr 2, 0, [some 19, some 28, some 36, some 41, none]), (.inr 0, 0, [none, some 20, some 21, some 22, some 23]), (.inl 0, 4, []), (.inl 0, 4, []), (.inl 0, 4, []), (.inl 4, 4, [some 24, some 25, some 26, some 27]), (.inl 0, 40, []), (.inl 0, 40, []), (.inl 0, 40, []), (.inl 0, 40, []), (.inr 7, 0, [some 29, some 30, some 31, some 32, some 33, some 34, none, some 35, none]), (.inl 0, 20, []), (.inl 0, 20, []), (.inl 0, 20, []), (.inl 0, 20, []), (.inl 0, 20, []), (.inl 0, 20, []), (.inl 0, 20, []), (.inr 5, 0, [some 37, some 38, some 39, some 40, none]), (.inl 0, 40, []), (.inl 0, 40, []), (.inl 2, 40, []), (.inl 0, 40, []), (.inl 0, 60, []), (.inr 11, 0, [none, none, none, none, none, none, some 43, none, some 44, some 45, some 46, some 47, some 48, some 49, none, some 50, none, some 51, none, none, none, none, none, none, none, some 52, some 53, some 54, some 55, some 56, none, none, none, some 57, none, some 58, none, some 59, none, some 60, some 61, some 62, some 63, some 64, some 65, none, some 66, none, some 67, some 68, some 69, some 70, some 71, some 72, some 73, none, some 74]), (.inl 3, 300, []), (.inl 3, 100, []), (.inl 0, 100, []), (.inl 0, 100, []), (.inl 2, 100, []), (.inl 0, 100, []), (.inl 0, 100, []), (.inl 3, 300, []), (.inl 0, 4, []), (.inl 0, 3, []), (.inl 0, 3, []), (.inl 0, 3, []), (.inl 0, 6, []), (.inl 0, 3, []), (.inl 0, 400, []), (.inl 0, 7000, []), (.inl 0, 300, []), (.inl 0, 24, []), (.inl 0, 24, []), (.inl 0, 24, []), (.inl 0, 24, []), (.inl 0, 24, []), (.inl 0, 24, []), (.inl 0, 24, []), (.inl 0, 4, []), (.inl 0, 4, []), (.inl 0, 256, []), (.inl 0, 4, []), (.inl 0, 64, []), (.inl 0, 64, []), (.inl 2, 64, []), (.inl 0, 64, [])]
end
section
/-! THE EVALUATOR IS SOUND -/
theorem zgD {α : Type} {l : List α} {n : Nat} {d : α} (h : l.length ≤ n) : l.getD n d = d := by
  rw [List.getD_eq_getElem?_getD, List.getElem?_eq_none h]
  rfl
theorem W.mono {p : Program} {l : Launch} {e : Env} {R : Room} {s : State} {m : MethodId} {args : Array Value} {below : List Frame} {meth : Method} {c : Code} {H : Heap} {locs : List Loc} {cells slots : Nat} {Q Q' : State → Prop} {g : JFrame} (hq : ∀ t, Q t → Q' t) (k : W p l e R s m args below meth c H locs cells slots Q g) : W p l e R s m args below meth c H locs cells slots Q' g := fun T hT X => by
  obtain ⟨t, a, b⟩ := k T hT X
  exact ⟨t, a, hq t b⟩
theorem ZW.mono {k : Nat} {g : Nat × Nat × Nat × Nat} {pc : Nat} {ls : zLs} {st : List Value} {h : zH} {Q Q' : zQ} (hq : ∀ r h, Q r h → Q' r h) (w : ZW k g pc ls st h Q) : ZW k g pc ls st h Q' := by
  intro p l e s m args below meth cc E L xs H locs lsA hC hT h1 h2 hP hS hl
  refine W.mono (fun t ht => ?_) (w p l e s m args below meth cc E L xs H locs lsA hC hT h1 h2 hP hS hl)
  obtain ⟨o, a1, a2, ⟨r, h', b1, b2⟩, a4⟩ := ht
  exact ⟨o, a1, a2, ⟨r, h', hq _ _ b1, b2⟩, a4⟩
/-! inversions -/
theorem zi1_inv {st : List Value} {f : Int32 → List Value → Prop} (h : zi1 st f) : ∃ x r, st = .int x :: r ∧ f x r := by
  unfold zi1 at h
  split at h
  · exact ⟨_, _, rfl, h⟩
  · exact h.elim
theorem zi2_inv {st : List Value} {f : Int32 → Int32 → List Value → Prop} (h : zi2 st f) : ∃ x y r, st = .int y :: .int x :: r ∧ f x y r := by
  unfold zi2 at h
  split at h
  · exact ⟨_, _, _, rfl, h⟩
  · exact h.elim
theorem zl1_inv {st : List Value} {f : Int64 → List Value → Prop} (h : zl1 st f) : ∃ x r, st = .long x :: r ∧ f x r := by
  unfold zl1 at h
  split at h
  · exact ⟨_, _, rfl, h⟩
  · exact h.elim
theorem zl2_inv {st : List Value} {f : Int64 → Int64 → List Value → Prop} (h : zl2 st f) : ∃ x y r, st = .long y :: .long x :: r ∧ f x y r := by
  unfold zl2 at h
  split at h
  · exact ⟨_, _, _, rfl, h⟩
  · exact h.elim
theorem zli_inv {st : List Value} {f : Int64 → Int32 → List Value → Prop} (h : zli st f) : ∃ x y r, st = .int y :: .long x :: r ∧ f x y r := by
  unfold zli at h
  split at h
  · exact ⟨_, _, _, rfl, h⟩
  · exact h.elim
theorem za1_inv {st : List Value} {f : Nat → List Value → Prop} (h : za1 st f) : ∃ x r, st = .ref x :: r ∧ f x r := by
  unfold za1 at h
  split at h
  · exact ⟨_, _, rfl, h⟩
  · exact h.elim
theorem zai_inv {st : List Value} {f : Nat → Int32 → List Value → Prop} (h : zai st f) : ∃ a i r, st = .int i :: .ref a :: r ∧ f a i r := by
  unfold zai at h
  split at h
  · exact ⟨_, _, _, rfl, h⟩
  · exact h.elim
theorem zaii_inv {st : List Value} {f : Nat → Int32 → Int32 → List Value → Prop} (h : zaii st f) : ∃ a i x r, st = .int x :: .int i :: .ref a :: r ∧ f a i x r := by
  unfold zaii at h
  split at h
  · exact ⟨_, _, _, _, rfl, h⟩
  · exact h.elim
theorem zav_inv {st : List Value} {f : Nat → Value → List Value → Prop} (h : zav st f) : ∃ a v r, st = v :: .ref a :: r ∧ f a v r := by
  unfold zav at h
  split at h
  · exact ⟨_, _, _, rfl, h⟩
  · exact h.elim
theorem zld_inv {ls : zLs} {i : Nat} {f : Value → Prop} (h : zld ls i f) : ∃ v, (i, v) ∈ ls ∧ f v := by
  unfold zld at h
  split at h
  · rename_i q hq
    have h1 := List.mem_of_find?_eq_some hq
    have h2 := List.find?_some hq
    simp only [beq_iff_eq] at h2
    subst h2
    exact ⟨_, h1, h⟩
  · exact h.elim
theorem zIv_inv {v : Value} {f : Int32 → Prop} (h : zIv v f) : ∃ x, v = .int x ∧ f x := by
  unfold zIv at h
  split at h
  · exact ⟨_, rfl, h⟩
  · exact h.elim
theorem zLv_inv {v : Value} {f : Int64 → Prop} (h : zLv v f) : ∃ x, v = .long x ∧ f x := by
  unfold zLv at h
  split at h
  · exact ⟨_, rfl, h⟩
  · exact h.elim
theorem zRv_inv {v : Value} {f : Nat → Prop} (h : zRv v f) : ∃ x, v = .ref x ∧ f x := by
  unfold zRv at h
  split at h
  · exact ⟨_, rfl, h⟩
  · exact h.elim
theorem zo1_inv {o : Option Nat} {f : Nat → Prop} (h : zo1 o f) : ∃ x, o = some x ∧ f x := by
  unfold zo1 at h
  split at h
  · exact ⟨_, rfl, h⟩
  · exact h.elim
theorem zob2_inv {o : Option (Nat × Nat)} {f : Nat → Nat → Prop} (h : zob2 o f) : ∃ x y, o = some (x, y) ∧ f x y := by
  unfold zob2 at h
  split at h
  · exact ⟨_, _, rfl, h⟩
  · exact h.elim
theorem zob_inv {h : zH} {a c : Nat} {f : List (Option Nat) → Prop} (w : zob h a c f) : ∃ n rs, h.1[a]? = some (.inr c, n, rs) ∧ f rs := by
  unfold zob at w
  split at w
  · rename_i d n rs hd
    by_cases e : d = c
    · subst e
      rw [if_pos rfl] at w
      exact ⟨_, _, hd, w⟩
    · rw [if_neg e] at w
      exact w.elim
  · exact w.elim
theorem zar_inv {h : zH} {a t : Nat} {f : Nat → Prop} (w : zar h a t f) : ∃ n rs, h.1[a]? = some (.inl t, n, rs) ∧ f n := by
  unfold zar at w
  split at w
  · rename_i d n rs hd
    by_cases e : d = t
    · subst e
      rw [if_pos rfl] at w
      exact ⟨_, _, hd, w⟩
    · rw [if_neg e] at w
      exact w.elim
  · exact w.elim
/-! the instructions -/
theorem zgetL {E : zE} {k : Nat} {ls : zLs} {lsA : Array Slot} (hl : lv_has lsA (zL k) (ls.map (fun q => (q.1, zv E q.2)))) {i : Nat} {v : Value} (h : (i, v) ∈ ls) : lsA[i]? = some (.val (zv E v)) :=
  hl.2.2 (i, zv E v) (List.mem_map.mpr ⟨(i, v), h, rfl⟩)
theorem zvcat (E : zE) (v : Value) : (zv E v).category = v.category := by cases v <;> rfl
theorem zs1_map (E : zE) (ls : zLs) (i : Nat) (v : Value) : (zs1 ls i v).map (fun q => (q.1, zv E q.2)) = (i, zv E v) :: (ls.map (fun q => (q.1, zv E q.2))).filter (fun q => !(q.1 == i) && !(q.1 + 1 == i && q.2.category == 2)) := by
  unfold zs1
  rw [List.map_cons, List.filter_map]
  congr 2
  apply List.filter_congr
  intro q _
  simp only [Function.comp, zvcat]
theorem zs2_map (E : zE) (ls : zLs) (i : Nat) (v : Value) : (zs2 ls i v).map (fun q => (q.1, zv E q.2)) = (i, zv E v) :: (ls.map (fun q => (q.1, zv E q.2))).filter (fun q => !(q.1 == i) && (!(q.1 == i + 1) && !(q.1 + 1 == i && q.2.category == 2))) := by
  unfold zs2
  rw [List.map_cons, List.filter_map]
  congr 2
  apply List.filter_congr
  intro q _
  simp only [Function.comp, zvcat]
theorem ZW.iconst {k : Nat} {g : Nat × Nat × Nat × Nat} {pc : Nat} {ls : zLs} {r : List Value} {h : zH} {Q : zQ} {c : Int} (hd : decode (zC k) pc = .ok (.iconst c, 1)) (w : ZW k g (pc + 1) ls (.int (Int32.ofInt c) :: r) h Q) : ZW k g pc ls (r) h Q := by
  intro p l e s m args below meth cc E L xs H locs lsA hC hT h1 h2 hP hS hl
  exact lv_iconst hC.1 hC.2.1 hd rfl (w p l e s m args below meth cc E L xs H locs lsA hC hT h1 h2 hP hS hl)
theorem ZW.bipush {k : Nat} {g : Nat × Nat × Nat × Nat} {pc : Nat} {ls : zLs} {r : List Value} {h : zH} {Q : zQ} {c : Int} (hd : decode (zC k) pc = .ok (.bipush c, 2)) (w : ZW k g (pc + 2) ls (.int (Int8.ofInt c).toInt32 :: r) h Q) : ZW k g pc ls (r) h Q := by
  intro p l e s m args below meth cc E L xs H locs lsA hC hT h1 h2 hP hS hl
  exact lv_bipush hC.1 hC.2.1 hd rfl (w p l e s m args below meth cc E L xs H locs lsA hC hT h1 h2 hP hS hl)
theorem ZW.sipush {k : Nat} {g : Nat × Nat × Nat × Nat} {pc : Nat} {ls : zLs} {r : List Value} {h : zH} {Q : zQ} {c : Int} (hd : decode (zC k) pc = .ok (.sipush c, 3)) (w : ZW k g (pc + 3) ls (.int (Int16.ofInt c).toInt32 :: r) h Q) : ZW k g pc ls (r) h Q := by
  intro p l e s m args below meth cc E L xs H locs lsA hC hT h1 h2 hP hS hl
  exact lv_sipush hC.1 hC.2.1 hd rfl (w p l e s m args below meth cc E L xs H locs lsA hC hT h1 h2 hP hS hl)
theorem ZW.iadd {k : Nat} {g : Nat × Nat × Nat × Nat} {pc : Nat} {ls : zLs} {r : List Value} {h : zH} {Q : zQ} {x y : Int32} (hd : decode (zC k) pc = .ok (.iadd, 1)) (w : ZW k g (pc + 1) ls (.int (x + y) :: r) h Q) : ZW k g pc ls (.int y :: .int x :: r) h Q := by
  intro p l e s m args below meth cc E L xs H locs lsA hC hT h1 h2 hP hS hl
  exact lv_iadd hC.1 hC.2.1 hd (w p l e s m args below meth cc E L xs H locs lsA hC hT h1 h2 hP hS hl)
theorem ZW.isub {k : Nat} {g : Nat × Nat × Nat × Nat} {pc : Nat} {ls : zLs} {r : List Value} {h : zH} {Q : zQ} {x y : Int32} (hd : decode (zC k) pc = .ok (.isub, 1)) (w : ZW k g (pc + 1) ls (.int (x - y) :: r) h Q) : ZW k g pc ls (.int y :: .int x :: r) h Q := by
  intro p l e s m args below meth cc E L xs H locs lsA hC hT h1 h2 hP hS hl
  exact lv_isub hC.1 hC.2.1 hd (w p l e s m args below meth cc E L xs H locs lsA hC hT h1 h2 hP hS hl)
theorem ZW.imul {k : Nat} {g : Nat × Nat × Nat × Nat} {pc : Nat} {ls : zLs} {r : List Value} {h : zH} {Q : zQ} {x y : Int32} (hd : decode (zC k) pc = .ok (.imul, 1)) (w : ZW k g (pc + 1) ls (.int (x * y) :: r) h Q) : ZW k g pc ls (.int y :: .int x :: r) h Q := by
  intro p l e s m args below meth cc E L xs H locs lsA hC hT h1 h2 hP hS hl
  exact lv_imul hC.1 hC.2.1 hd (w p l e s m args below meth cc E L xs H locs lsA hC hT h1 h2 hP hS hl)
theorem ZW.iand {k : Nat} {g : Nat × Nat × Nat × Nat} {pc : Nat} {ls : zLs} {r : List Value} {h : zH} {Q : zQ} {x y : Int32} (hd : decode (zC k) pc = .ok (.iand, 1)) (w : ZW k g (pc + 1) ls (.int (x &&& y) :: r) h Q) : ZW k g pc ls (.int y :: .int x :: r) h Q := by
  intro p l e s m args below meth cc E L xs H locs lsA hC hT h1 h2 hP hS hl
  exact lv_iand hC.1 hC.2.1 hd (w p l e s m args below meth cc E L xs H locs lsA hC hT h1 h2 hP hS hl)
theorem ZW.ior {k : Nat} {g : Nat × Nat × Nat × Nat} {pc : Nat} {ls : zLs} {r : List Value} {h : zH} {Q : zQ} {x y : Int32} (hd : decode (zC k) pc = .ok (.ior, 1)) (w : ZW k g (pc + 1) ls (.int (x ||| y) :: r) h Q) : ZW k g pc ls (.int y :: .int x :: r) h Q := by
  intro p l e s m args below meth cc E L xs H locs lsA hC hT h1 h2 hP hS hl
  exact lv_ior hC.1 hC.2.1 hd (w p l e s m args below meth cc E L xs H locs lsA hC hT h1 h2 hP hS hl)
theorem ZW.ishl {k : Nat} {g : Nat × Nat × Nat × Nat} {pc : Nat} {ls : zLs} {r : List Value} {h : zH} {Q : zQ} {x y : Int32} (hd : decode (zC k) pc = .ok (.ishl, 1)) (w : ZW k g (pc + 1) ls (.int (x <<< (y &&& 31)) :: r) h Q) : ZW k g pc ls (.int y :: .int x :: r) h Q := by
  intro p l e s m args below meth cc E L xs H locs lsA hC hT h1 h2 hP hS hl
  exact lv_ishl hC.1 hC.2.1 hd (w p l e s m args below meth cc E L xs H locs lsA hC hT h1 h2 hP hS hl)
theorem ZW.ishr {k : Nat} {g : Nat × Nat × Nat × Nat} {pc : Nat} {ls : zLs} {r : List Value} {h : zH} {Q : zQ} {x y : Int32} (hd : decode (zC k) pc = .ok (.ishr, 1)) (w : ZW k g (pc + 1) ls (.int (x >>> (y &&& 31)) :: r) h Q) : ZW k g pc ls (.int y :: .int x :: r) h Q := by
  intro p l e s m args below meth cc E L xs H locs lsA hC hT h1 h2 hP hS hl
  exact lv_ishr hC.1 hC.2.1 hd (w p l e s m args below meth cc E L xs H locs lsA hC hT h1 h2 hP hS hl)
theorem ZW.idiv {k : Nat} {g : Nat × Nat × Nat × Nat} {pc : Nat} {ls : zLs} {r : List Value} {h : zH} {Q : zQ} {x y : Int32} (hne : ¬ y = 0) (hd : decode (zC k) pc = .ok (.idiv, 1)) (w : ZW k g (pc + 1) ls (.int (x / y) :: r) h Q) : ZW k g pc ls (.int y :: .int x :: r) h Q := by
  intro p l e s m args below meth cc E L xs H locs lsA hC hT h1 h2 hP hS hl
  exact lv_idiv hC.1 hC.2.1 hd hne (w p l e s m args below meth cc E L xs H locs lsA hC hT h1 h2 hP hS hl)
theorem ZW.irem {k : Nat} {g : Nat × Nat × Nat × Nat} {pc : Nat} {ls : zLs} {r : List Value} {h : zH} {Q : zQ} {x y : Int32} (hne : ¬ y = 0) (hd : decode (zC k) pc = .ok (.irem, 1)) (w : ZW k g (pc + 1) ls (.int (x - x / y * y) :: r) h Q) : ZW k g pc ls (.int y :: .int x :: r) h Q := by
  intro p l e s m args below meth cc E L xs H locs lsA hC hT h1 h2 hP hS hl
  exact lv_irem hC.1 hC.2.1 hd hne (w p l e s m args below meth cc E L xs H locs lsA hC hT h1 h2 hP hS hl)
theorem ZW.ineg {k : Nat} {g : Nat × Nat × Nat × Nat} {pc : Nat} {ls : zLs} {r : List Value} {h : zH} {Q : zQ} {x : Int32} (hd : decode (zC k) pc = .ok (.ineg, 1)) (w : ZW k g (pc + 1) ls (.int (-x) :: r) h Q) : ZW k g pc ls (.int x :: r) h Q := by
  intro p l e s m args below meth cc E L xs H locs lsA hC hT h1 h2 hP hS hl
  exact lv_ineg hC.1 hC.2.1 hd (w p l e s m args below meth cc E L xs H locs lsA hC hT h1 h2 hP hS hl)
theorem ZW.land {k : Nat} {g : Nat × Nat × Nat × Nat} {pc : Nat} {ls : zLs} {r : List Value} {h : zH} {Q : zQ} {x y : Int64} (hd : decode (zC k) pc = .ok (.land, 1)) (w : ZW k g (pc + 1) ls (.long (x &&& y) :: r) h Q) : ZW k g pc ls (.long y :: .long x :: r) h Q := by
  intro p l e s m args below meth cc E L xs H locs lsA hC hT h1 h2 hP hS hl
  exact lv_land hC.1 hC.2.1 hd (w p l e s m args below meth cc E L xs H locs lsA hC hT h1 h2 hP hS hl)
theorem ZW.lor {k : Nat} {g : Nat × Nat × Nat × Nat} {pc : Nat} {ls : zLs} {r : List Value} {h : zH} {Q : zQ} {x y : Int64} (hd : decode (zC k) pc = .ok (.lor, 1)) (w : ZW k g (pc + 1) ls (.long (x ||| y) :: r) h Q) : ZW k g pc ls (.long y :: .long x :: r) h Q := by
  intro p l e s m args below meth cc E L xs H locs lsA hC hT h1 h2 hP hS hl
  exact lv_lor hC.1 hC.2.1 hd (w p l e s m args below meth cc E L xs H locs lsA hC hT h1 h2 hP hS hl)
theorem ZW.lshl {k : Nat} {g : Nat × Nat × Nat × Nat} {pc : Nat} {ls : zLs} {r : List Value} {h : zH} {Q : zQ} {x : Int64} {y : Int32} (hd : decode (zC k) pc = .ok (.lshl, 1)) (w : ZW k g (pc + 1) ls (.long (x <<< (y.toInt64 &&& 63)) :: r) h Q) : ZW k g pc ls (.int y :: .long x :: r) h Q := by
  intro p l e s m args below meth cc E L xs H locs lsA hC hT h1 h2 hP hS hl
  exact lv_lshl hC.1 hC.2.1 hd rfl (w p l e s m args below meth cc E L xs H locs lsA hC hT h1 h2 hP hS hl)
theorem ZW.lshr {k : Nat} {g : Nat × Nat × Nat × Nat} {pc : Nat} {ls : zLs} {r : List Value} {h : zH} {Q : zQ} {x : Int64} {y : Int32} (hd : decode (zC k) pc = .ok (.lshr, 1)) (w : ZW k g (pc + 1) ls (.long (x >>> (y.toInt64 &&& 63)) :: r) h Q) : ZW k g pc ls (.int y :: .long x :: r) h Q := by
  intro p l e s m args below meth cc E L xs H locs lsA hC hT h1 h2 hP hS hl
  exact lv_lshr hC.1 hC.2.1 hd rfl (w p l e s m args below meth cc E L xs H locs lsA hC hT h1 h2 hP hS hl)
theorem ZW.lushr {k : Nat} {g : Nat × Nat × Nat × Nat} {pc : Nat} {ls : zLs} {r : List Value} {h : zH} {Q : zQ} {x : Int64} {y : Int32} (hd : decode (zC k) pc = .ok (.lushr, 1)) (w : ZW k g (pc + 1) ls (.long ((x.toUInt64 >>> (y.toInt64.toUInt64 &&& Int64.toUInt64 63)).toInt64) :: r) h Q) : ZW k g pc ls (.int y :: .long x :: r) h Q := by
  intro p l e s m args below meth cc E L xs H locs lsA hC hT h1 h2 hP hS hl
  exact lv_lushr hC.1 hC.2.1 hd rfl (w p l e s m args below meth cc E L xs H locs lsA hC hT h1 h2 hP hS hl)
theorem ZW.lcmp {k : Nat} {g : Nat × Nat × Nat × Nat} {pc : Nat} {ls : zLs} {r : List Value} {h : zH} {Q : zQ} {x y : Int64} (hd : decode (zC k) pc = .ok (.lcmp, 1)) (w : ZW k g (pc + 1) ls (.int (lg_cmp x y) :: r) h Q) : ZW k g pc ls (.long y :: .long x :: r) h Q := by
  intro p l e s m args below meth cc E L xs H locs lsA hC hT h1 h2 hP hS hl
  exact W.lcmp hC.1 hC.2.1 hd (w p l e s m args below meth cc E L xs H locs lsA hC hT h1 h2 hP hS hl)
theorem ZW.i2l {k : Nat} {g : Nat × Nat × Nat × Nat} {pc : Nat} {ls : zLs} {r : List Value} {h : zH} {Q : zQ} {x : Int32} (hd : decode (zC k) pc = .ok (.i2l, 1)) (w : ZW k g (pc + 1) ls (.long x.toInt64 :: r) h Q) : ZW k g pc ls (.int x :: r) h Q := by
  intro p l e s m args below meth cc E L xs H locs lsA hC hT h1 h2 hP hS hl
  exact lv_i2l hC.1 hC.2.1 hd rfl (w p l e s m args below meth cc E L xs H locs lsA hC hT h1 h2 hP hS hl)
theorem ZW.l2i {k : Nat} {g : Nat × Nat × Nat × Nat} {pc : Nat} {ls : zLs} {r : List Value} {h : zH} {Q : zQ} {x : Int64} (hd : decode (zC k) pc = .ok (.l2i, 1)) (w : ZW k g (pc + 1) ls (.int x.toInt32 :: r) h Q) : ZW k g pc ls (.long x :: r) h Q := by
  intro p l e s m args below meth cc E L xs H locs lsA hC hT h1 h2 hP hS hl
  exact lv_l2i hC.1 hC.2.1 hd rfl (w p l e s m args below meth cc E L xs H locs lsA hC hT h1 h2 hP hS hl)
theorem ZW.i2b {k : Nat} {g : Nat × Nat × Nat × Nat} {pc : Nat} {ls : zLs} {r : List Value} {h : zH} {Q : zQ} {x : Int32} (hd : decode (zC k) pc = .ok (.i2b, 1)) (w : ZW k g (pc + 1) ls (.int x.toInt8.toInt32 :: r) h Q) : ZW k g pc ls (.int x :: r) h Q := by
  intro p l e s m args below meth cc E L xs H locs lsA hC hT h1 h2 hP hS hl
  exact lv_i2b hC.1 hC.2.1 hd rfl (w p l e s m args below meth cc E L xs H locs lsA hC hT h1 h2 hP hS hl)
theorem ZW.i2c {k : Nat} {g : Nat × Nat × Nat × Nat} {pc : Nat} {ls : zLs} {r : List Value} {h : zH} {Q : zQ} {x : Int32} (hd : decode (zC k) pc = .ok (.i2c, 1)) (w : ZW k g (pc + 1) ls (.int (x.toUInt32 % 65536).toInt32 :: r) h Q) : ZW k g pc ls (.int x :: r) h Q := by
  intro p l e s m args below meth cc E L xs H locs lsA hC hT h1 h2 hP hS hl
  exact lv_i2c hC.1 hC.2.1 hd rfl (w p l e s m args below meth cc E L xs H locs lsA hC hT h1 h2 hP hS hl)
theorem ZW.dup {k : Nat} {g : Nat × Nat × Nat × Nat} {pc : Nat} {ls : zLs} {r : List Value} {h : zH} {Q : zQ} {v : Value} (hv : v.category = 1) (hd : decode (zC k) pc = .ok (.dup, 1)) (w : ZW k g (pc + 1) ls (v :: v :: r) h Q) : ZW k g pc ls (v :: r) h Q := by
  intro p l e s m args below meth cc E L xs H locs lsA hC hT h1 h2 hP hS hl
  exact lv_dup hC.1 hC.2.1 hd ((zvcat E v).trans hv) (w p l e s m args below meth cc E L xs H locs lsA hC hT h1 h2 hP hS hl)
theorem ZW.dup2 {k : Nat} {g : Nat × Nat × Nat × Nat} {pc : Nat} {ls : zLs} {r : List Value} {h : zH} {Q : zQ} {v u : Value} (hv : v.category = 1) (hu : u.category = 1) (hd : decode (zC k) pc = .ok (.dup2, 1)) (w : ZW k g (pc + 1) ls (v :: u :: v :: u :: r) h Q) : ZW k g pc ls (v :: u :: r) h Q := by
  intro p l e s m args below meth cc E L xs H locs lsA hC hT h1 h2 hP hS hl
  exact lv_dup2_11 hC.1 hC.2.1 hd ((zvcat E v).trans hv) ((zvcat E u).trans hu) (w p l e s m args below meth cc E L xs H locs lsA hC hT h1 h2 hP hS hl)
theorem ZW.pop {k : Nat} {g : Nat × Nat × Nat × Nat} {pc : Nat} {ls : zLs} {r : List Value} {h : zH} {Q : zQ} {v : Value} (hv : v.category = 1) (hd : decode (zC k) pc = .ok (.pop, 1)) (w : ZW k g (pc + 1) ls (r) h Q) : ZW k g pc ls (v :: r) h Q := by
  intro p l e s m args below meth cc E L xs H locs lsA hC hT h1 h2 hP hS hl
  exact lv_pop hC.1 hC.2.1 hd ((zvcat E v).trans hv) (w p l e s m args below meth cc E L xs H locs lsA hC hT h1 h2 hP hS hl)
theorem ZW.iload {k : Nat} {g : Nat × Nat × Nat × Nat} {pc : Nat} {ls : zLs} {r : List Value} {h : zH} {Q : zQ} {i : Nat} {x : Int32} (hm : (i, Value.int x) ∈ ls) (hd : decode (zC k) pc = .ok (.iload i, 2)) (w : ZW k g (pc + 2) ls (.int x :: r) h Q) : ZW k g pc ls (r) h Q := by
  intro p l e s m args below meth cc E L xs H locs lsA hC hT h1 h2 hP hS hl
  exact lv_iload hC.1 hC.2.1 hd (zgetL hl hm) (w p l e s m args below meth cc E L xs H locs lsA hC hT h1 h2 hP hS hl)
theorem ZW.iload_n {k : Nat} {g : Nat × Nat × Nat × Nat} {pc : Nat} {ls : zLs} {r : List Value} {h : zH} {Q : zQ} {i : Fin 4} {x : Int32} (hm : (i.val, Value.int x) ∈ ls) (hd : decode (zC k) pc = .ok (.iload_n i, 1)) (w : ZW k g (pc + 1) ls (.int x :: r) h Q) : ZW k g pc ls (r) h Q := by
  intro p l e s m args below meth cc E L xs H locs lsA hC hT h1 h2 hP hS hl
  exact lv_iload_n hC.1 hC.2.1 hd rfl (zgetL hl hm) (w p l e s m args below meth cc E L xs H locs lsA hC hT h1 h2 hP hS hl)
theorem ZW.lload {k : Nat} {g : Nat × Nat × Nat × Nat} {pc : Nat} {ls : zLs} {r : List Value} {h : zH} {Q : zQ} {i : Nat} {x : Int64} (hm : (i, Value.long x) ∈ ls) (hd : decode (zC k) pc = .ok (.lload i, 2)) (w : ZW k g (pc + 2) ls (.long x :: r) h Q) : ZW k g pc ls (r) h Q := by
  intro p l e s m args below meth cc E L xs H locs lsA hC hT h1 h2 hP hS hl
  exact lv_lload hC.1 hC.2.1 hd (zgetL hl hm) (w p l e s m args below meth cc E L xs H locs lsA hC hT h1 h2 hP hS hl)
theorem ZW.lload_n {k : Nat} {g : Nat × Nat × Nat × Nat} {pc : Nat} {ls : zLs} {r : List Value} {h : zH} {Q : zQ} {i : Fin 4} {x : Int64} (hm : (i.val, Value.long x) ∈ ls) (hd : decode (zC k) pc = .ok (.lload_n i, 1)) (w : ZW k g (pc + 1) ls (.long x :: r) h Q) : ZW k g pc ls (r) h Q := by
  intro p l e s m args below meth cc E L xs H locs lsA hC hT h1 h2 hP hS hl
  exact lv_lload_n hC.1 hC.2.1 hd rfl (zgetL hl hm) (w p l e s m args below meth cc E L xs H locs lsA hC hT h1 h2 hP hS hl)
theorem ZW.aload {k : Nat} {g : Nat × Nat × Nat × Nat} {pc : Nat} {ls : zLs} {r : List Value} {h : zH} {Q : zQ} {i : Nat} {x : Nat} (hm : (i, Value.ref x) ∈ ls) (hd : decode (zC k) pc = .ok (.aload i, 2)) (w : ZW k g (pc + 2) ls (.ref x :: r) h Q) : ZW k g pc ls (r) h Q := by
  intro p l e s m args below meth cc E L xs H locs lsA hC hT h1 h2 hP hS hl
  exact lv_aload hC.1 hC.2.1 hd (zgetL hl hm) (w p l e s m args below meth cc E L xs H locs lsA hC hT h1 h2 hP hS hl)
theorem ZW.aload_n {k : Nat} {g : Nat × Nat × Nat × Nat} {pc : Nat} {ls : zLs} {r : List Value} {h : zH} {Q : zQ} {i : Fin 4} {x : Nat} (hm : (i.val, Value.ref x) ∈ ls) (hd : decode (zC k) pc = .ok (.aload_n i, 1)) (w : ZW k g (pc + 1) ls (.ref x :: r) h Q) : ZW k g pc ls (r) h Q := by
  intro p l e s m args below meth cc E L xs H locs lsA hC hT h1 h2 hP hS hl
  exact lv_aload_n hC.1 hC.2.1 hd rfl (zgetL hl hm) (w p l e s m args below meth cc E L xs H locs lsA hC hT h1 h2 hP hS hl)
theorem ZW.istore {k : Nat} {g : Nat × Nat × Nat × Nat} {pc : Nat} {ls : zLs} {r : List Value} {h : zH} {Q : zQ} {i : Nat} {x : Int32} (hi : i < zL k) (hd : decode (zC k) pc = .ok (.istore i, 2)) (w : ZW k g (pc + 2) (zs1 ls i (.int x)) r h Q) : ZW k g pc ls (.int x :: r) h Q := by
  intro p l e s m args below meth cc E L xs H locs lsA hC hT h1 h2 hP hS hl
  exact lv_istore hC.1 hC.2.1 hd hl hi (zs1_map E ls i (.int x)).symm (fun lsB hlB => w p l e s m args below meth cc E L xs H locs lsB hC hT h1 h2 hP hS hlB)
theorem ZW.istore_n {k : Nat} {g : Nat × Nat × Nat × Nat} {pc : Nat} {ls : zLs} {r : List Value} {h : zH} {Q : zQ} {i : Fin 4} {x : Int32} (hi : i.val < zL k) (hd : decode (zC k) pc = .ok (.istore_n i, 1)) (w : ZW k g (pc + 1) (zs1 ls i.val (.int x)) r h Q) : ZW k g pc ls (.int x :: r) h Q := by
  intro p l e s m args below meth cc E L xs H locs lsA hC hT h1 h2 hP hS hl
  exact lv_istore_n hC.1 hC.2.1 hd rfl hl hi (zs1_map E ls i.val (.int x)).symm (fun lsB hlB => w p l e s m args below meth cc E L xs H locs lsB hC hT h1 h2 hP hS hlB)
theorem ZW.astore {k : Nat} {g : Nat × Nat × Nat × Nat} {pc : Nat} {ls : zLs} {r : List Value} {h : zH} {Q : zQ} {i : Nat} {x : Nat} (hi : i < zL k) (hd : decode (zC k) pc = .ok (.astore i, 2)) (w : ZW k g (pc + 2) (zs1 ls i (.ref x)) r h Q) : ZW k g pc ls (.ref x :: r) h Q := by
  intro p l e s m args below meth cc E L xs H locs lsA hC hT h1 h2 hP hS hl
  exact lv_astore hC.1 hC.2.1 hd hl hi (zs1_map E ls i (.ref x)).symm (fun lsB hlB => w p l e s m args below meth cc E L xs H locs lsB hC hT h1 h2 hP hS hlB)
theorem ZW.astore_n {k : Nat} {g : Nat × Nat × Nat × Nat} {pc : Nat} {ls : zLs} {r : List Value} {h : zH} {Q : zQ} {i : Fin 4} {x : Nat} (hi : i.val < zL k) (hd : decode (zC k) pc = .ok (.astore_n i, 1)) (w : ZW k g (pc + 1) (zs1 ls i.val (.ref x)) r h Q) : ZW k g pc ls (.ref x :: r) h Q := by
  intro p l e s m args below meth cc E L xs H locs lsA hC hT h1 h2 hP hS hl
  exact lv_astore_n hC.1 hC.2.1 hd rfl hl hi (zs1_map E ls i.val (.ref x)).symm (fun lsB hlB => w p l e s m args below meth cc E L xs H locs lsB hC hT h1 h2 hP hS hlB)
theorem ZW.lstore {k : Nat} {g : Nat × Nat × Nat × Nat} {pc : Nat} {ls : zLs} {r : List Value} {h : zH} {Q : zQ} {i : Nat} {x : Int64} (hi : i + 1 < zL k) (hd : decode (zC k) pc = .ok (.lstore i, 2)) (w : ZW k g (pc + 2) (zs2 ls i (.long x)) r h Q) : ZW k g pc ls (.long x :: r) h Q := by
  intro p l e s m args below meth cc E L xs H locs lsA hC hT h1 h2 hP hS hl
  exact lv_lstore hC.1 hC.2.1 hd hl hi (zs2_map E ls i (.long x)).symm (fun lsB hlB => w p l e s m args below meth cc E L xs H locs lsB hC hT h1 h2 hP hS hlB)
theorem ZW.iinc {k : Nat} {g : Nat × Nat × Nat × Nat} {pc : Nat} {ls : zLs} {r : List Value} {h : zH} {Q : zQ} {i : Nat} {c : Int} {x : Int32} (hm : (i, Value.int x) ∈ ls) (hi : i < zL k) (hd : decode (zC k) pc = .ok (.iinc i c, 3)) (w : ZW k g (pc + 3) (zs1 ls i (.int (x + Int32.ofInt c))) r h Q) : ZW k g pc ls r h Q := by
  intro p l e s m args below meth cc E L xs H locs lsA hC hT h1 h2 hP hS hl
  obtain ⟨j, hj⟩ := List.getElem?_of_mem (List.mem_map.mpr ⟨(i, Value.int x), hm, rfl⟩ : (i, Value.int x) ∈ ls.map (fun q => (q.1, zv E q.2)))
  exact lv_iinc hC.1 hC.2.1 hd hl hj rfl hi (zs1_map E ls i (.int (x + Int32.ofInt c))).symm (fun lsB hlB => w p l e s m args below meth cc E L xs H locs lsB hC hT h1 h2 hP hS hlB)
theorem ztg_eq {pc : Nat} {off : Int} (h : 0 ≤ (pc : Int) + off) : (pc : Int) + off = ((ztg pc off : Nat) : Int) := by
  unfold ztg
  omega
theorem ZW.goto {k : Nat} {g : Nat × Nat × Nat × Nat} {pc : Nat} {ls : zLs} {r : List Value} {h : zH} {Q : zQ} {off : Int} (h0 : 0 ≤ (pc : Int) + off) (hd : decode (zC k) pc = .ok (.goto off, 3)) (w : ZW k g (ztg pc off) ls r h Q) : ZW k g pc ls r h Q := by
  intro p l e s m args below meth cc E L xs H locs lsA hC hT h1 h2 hP hS hl
  exact lv_goto hC.1 hC.2.1 hd (ztg_eq h0) (w p l e s m args below meth cc E L xs H locs lsA hC hT h1 h2 hP hS hl)
theorem ZW.ifc {k : Nat} {g : Nat × Nat × Nat × Nat} {pc : Nat} {ls : zLs} {r : List Value} {h : zH} {Q : zQ} {x : Int32} {o : ClassFile.Cond} {off : Int} (h0 : 0 ≤ (pc : Int) + off) (hd : decode (zC k) pc = .ok (.ifCond o off, 3)) (wt : zcn o x 0 → ZW k g (ztg pc off) ls r h Q) (wf : ¬ zcn o x 0 → ZW k g (pc + 3) ls r h Q) : ZW k g pc ls (.int x :: r) h Q := by
  intro p l e s m args below meth cc E L xs H locs lsA hC hT h1 h2 hP hS hl
  cases o with
  | eq => exact lv_if_eq hC.1 hC.2.1 hd (ztg_eq h0) (fun hc => wt hc p l e s m args below meth cc E L xs H locs lsA hC hT h1 h2 hP hS hl) (fun hc => wf hc p l e s m args below meth cc E L xs H locs lsA hC hT h1 h2 hP hS hl)
  | ne => exact lv_if_ne hC.1 hC.2.1 hd (ztg_eq h0) (fun hc => wt hc p l e s m args below meth cc E L xs H locs lsA hC hT h1 h2 hP hS hl) (fun hc => wf (fun hn => hn hc) p l e s m args below meth cc E L xs H locs lsA hC hT h1 h2 hP hS hl)
  | lt => exact lv_if_lt hC.1 hC.2.1 hd (ztg_eq h0) (fun hc => wt hc p l e s m args below meth cc E L xs H locs lsA hC hT h1 h2 hP hS hl) (fun hc => wf hc p l e s m args below meth cc E L xs H locs lsA hC hT h1 h2 hP hS hl)
  | ge => exact lv_if_ge hC.1 hC.2.1 hd (ztg_eq h0) (fun hc => wt hc p l e s m args below meth cc E L xs H locs lsA hC hT h1 h2 hP hS hl) (fun hc => wf hc p l e s m args below meth cc E L xs H locs lsA hC hT h1 h2 hP hS hl)
  | gt => exact lv_if_gt hC.1 hC.2.1 hd (ztg_eq h0) (fun hc => wt hc p l e s m args below meth cc E L xs H locs lsA hC hT h1 h2 hP hS hl) (fun hc => wf hc p l e s m args below meth cc E L xs H locs lsA hC hT h1 h2 hP hS hl)
  | le => exact lv_if_le hC.1 hC.2.1 hd (ztg_eq h0) (fun hc => wt hc p l e s m args below meth cc E L xs H locs lsA hC hT h1 h2 hP hS hl) (fun hc => wf hc p l e s m args below meth cc E L xs H locs lsA hC hT h1 h2 hP hS hl)
theorem ZW.icmp {k : Nat} {g : Nat × Nat × Nat × Nat} {pc : Nat} {ls : zLs} {r : List Value} {h : zH} {Q : zQ} {x y : Int32} {o : ClassFile.Cond} {off : Int} (h0 : 0 ≤ (pc : Int) + off) (hd : decode (zC k) pc = .ok (.if_icmp o off, 3)) (wt : zcn o x y → ZW k g (ztg pc off) ls r h Q) (wf : ¬ zcn o x y → ZW k g (pc + 3) ls r h Q) : ZW k g pc ls (.int y :: .int x :: r) h Q := by
  intro p l e s m args below meth cc E L xs H locs lsA hC hT h1 h2 hP hS hl
  cases o with
  | eq => exact lv_icmp_eq hC.1 hC.2.1 hd (ztg_eq h0) (fun hc => wt hc p l e s m args below meth cc E L xs H locs lsA hC hT h1 h2 hP hS hl) (fun hc => wf hc p l e s m args below meth cc E L xs H locs lsA hC hT h1 h2 hP hS hl)
  | ne => exact lv_icmp_ne hC.1 hC.2.1 hd (ztg_eq h0) (fun hc => wt hc p l e s m args below meth cc E L xs H locs lsA hC hT h1 h2 hP hS hl) (fun hc => wf (fun hn => hn hc) p l e s m args below meth cc E L xs H locs lsA hC hT h1 h2 hP hS hl)
  | lt => exact lv_icmp_lt hC.1 hC.2.1 hd (ztg_eq h0) (fun hc => wt hc p l e s m args below meth cc E L xs H locs lsA hC hT h1 h2 hP hS hl) (fun hc => wf hc p l e s m args below meth cc E L xs H locs lsA hC hT h1 h2 hP hS hl)
  | ge => exact lv_icmp_ge hC.1 hC.2.1 hd (ztg_eq h0) (fun hc => wt hc p l e s m args below meth cc E L xs H locs lsA hC hT h1 h2 hP hS hl) (fun hc => wf hc p l e s m args below meth cc E L xs H locs lsA hC hT h1 h2 hP hS hl)
  | gt => exact lv_icmp_gt hC.1 hC.2.1 hd (ztg_eq h0) (fun hc => wt hc p l e s m args below meth cc E L xs H locs lsA hC hT h1 h2 hP hS hl) (fun hc => wf hc p l e s m args below meth cc E L xs H locs lsA hC hT h1 h2 hP hS hl)
  | le => exact lv_icmp_le hC.1 hC.2.1 hd (ztg_eq h0) (fun hc => wt hc p l e s m args below meth cc E L xs H locs lsA hC hT h1 h2 hP hS hl) (fun hc => wf hc p l e s m args below meth cc E L xs H locs lsA hC hT h1 h2 hP hS hl)
/-! the heap's picture under reads and writes -/
theorem zF_ok {o i c f : Nat} (h : zF o i = some (c, f)) : c < 12 ∧ f < zN c ∧ ((.fieldLink (zRN o) i (zTt c f).1 (zTt c f).2.1 (zTt c f).2.2.1 : Cond) ∈ zTB ∨ ((.fieldLinkNest (zRN o) i (zTt c f).1 (zTt c f).2.1 (zTt c f).2.2.1 "PaymentHub" : Cond) ∈ zNW ∧ zFw c f = false ∧ o = 10 ∧ c = 2)) := by
  unfold zF at h
  rw [Option.map_eq_some_iff] at h
  obtain ⟨e, he, h2⟩ := h
  have hm := List.mem_of_find?_eq_some he
  have hi := List.find?_some he
  simp only [beq_iff_eq] at hi
  cases h2
  have ho : o < 12 := by
    apply Decidable.byContradiction
    intro hn
    have : zFT.getD o [] = [] := zgD (by show 12 ≤ o; omega)
    rw [this] at hm
    cases hm
  have h1 := List.all_eq_true.mp (zfks o ho) e hm
  simp only [zfk, Bool.and_eq_true, decide_eq_true_eq] at h1
  obtain ⟨⟨a1, a2⟩, a3⟩ := h1
  refine ⟨a1, a2, ?_⟩
  by_cases hp : e.2.2.2 = 9999
  · rw [if_pos hp] at a3
    simp only [Bool.and_eq_true, decide_eq_true_eq, Bool.not_eq_true'] at a3
    rw [← hi]
    exact Or.inr ⟨a3.1.1.1, a3.1.1.2, a3.1.2, a3.2⟩
  · rw [if_neg hp] at a3
    simp only [decide_eq_true_eq] at a3
    rw [← hi]
    exact Or.inl (zin _ a3 rfl)
theorem zad_lt {E : zE} {h : zH} {H : Heap} (hP : zP E h H) {a : Nat} {e : zK × Nat × List (Option Nat)} (ha : h.1[a]? = some e) : zad E a = E.1 + a := by
  have h1 := (List.getElem?_eq_some_iff.mp ha).1
  have h2 := hP.2.1
  unfold zad
  rw [if_pos (by omega)]
theorem zws_get {E : zE} {h : zH} {a : Nat} {e : zK × Nat × List (Option Nat)} (ha : h.1[a]? = some e) : (zws E h)[a]? = some (E.1 + a, zce E e (h.2 a)) := by
  have h1 := (List.getElem?_eq_some_iff.mp ha).1
  unfold zws
  rw [List.getElem?_map, List.getElem?_range h1]
  show some (E.1 + a, zce E (h.1.getD a (.inl 0, 0, [])) (h.2 a)) = _
  rw [List.getD_eq_getElem?_getD, ha]
  rfl
theorem zfl_get {E : zE} {c f : Nat} {rs : List (Option Nat)} {m : Nat → Int32} (hf : f < zN c) : ((List.range (zN c)).map (zfl E c rs m))[f]? = some (zfl E c rs m f) := by
  rw [List.getElem?_map, List.getElem?_range hf]
  rfl
theorem zrv_v (E : zE) (x : Option Nat) : zrf E x = zv E (zrv x) := by cases x <;> rfl
theorem ZW.getfield {k : Nat} {g : Nat × Nat × Nat × Nat} {pc : Nat} {ls : zLs} {r : List Value} {h : zH} {Q : zQ} {x a c f n : Nat} {rs : List (Option Nat)} (hF : zF (zO k) x = some (c, f)) (ho : h.1[a]? = some (.inr c, n, rs)) (hd : decode (zC k) pc = .ok (.getfield x, 3))
    (w : ZW k g (pc + 3) ls ((if zFk c f = 2 then zrv (rs.getD f none) else .int (h.2 a f)) :: r) h Q) : ZW k g pc ls (.ref a :: r) h Q := by
  intro p l e s m args below meth cc E L xs H locs lsA hC hT h1 h2 hP hS hl
  obtain ⟨c12, fN, hw⟩ := zF_ok hF
  obtain ⟨hc, hin, -, -, hfo⟩ := zcls c c12
  have hfo1 := List.all_eq_true.mp hfo f (List.mem_range.mpr fN)
  simp only [Bool.and_eq_true, decide_eq_true_eq] at hfo1
  have hv := w p l e s m args below meth cc E L xs H locs lsA hC hT h1 h2 hP hS hl
  show W p l e _ s m args below meth cc H locs _ _ _ (F0 m pc lsA (.ref (zad E a) :: r.map (zv E)))
  rw [zad_lt hP ho]
  have e1 : zfl E c rs (h.2 a) f = zv E (if zFk c f = 2 then zrv (rs.getD f none) else .int (h.2 a f)) := by
    unfold zfl
    split
    · exact zrv_v E _
    · rfl
  have hv2 : W p l e (zRm k g) s m args below meth cc H locs g.2.2.1 g.2.2.2 (MQ below (zQc E L xs Q) args s g.1 g.2.1 (zAr E)) (F0 m (pc + 3) lsA (zfl E c rs (h.2 a) f :: r.map (zv E))) := by
    rw [e1]
    exact hv
  rcases hw with hw | ⟨hw, -⟩
  · exact va_get hC.1 hC.2.1 hC.2.2.2.2.2.2.1 hin hC.2.2.2.2.2.1 hT.1 hP.2.2 a (zws_get ho) hc f fN (hC.2.2.2.2.2.2.1 _ hw) (fun _ h9 => h9) (zfl_get fN) hd hv2
  · exact va_getN hC.1 hC.2.1 hC.2.2.2.2.2.2.1 hin hC.2.2.2.2.2.1 hT.1 hP.2.2 a (zws_get ho) hc f fN ((hT.2.2.2.2.2.1 _ hw).use rfl) (fun _ h9 => h9) (zfl_get fN) hd hv2
theorem zws_len (E : zE) (h : zH) : (zws E h).length = h.1.length := by
  unfold zws
  rw [List.length_map, List.length_range]
/-- a cell's ints change -/
theorem zws_up {E : zE} {S : zS} {m : zM} {a k : Nat} {v : Int32} {e : zK × Nat × List (Option Nat)} (ha : S[a]? = some e) : zws E (S, zup m a k v) = (zws E (S, m)).set a (E.1 + a, zce E e (upd (m a) k v)) := by
  apply List.ext_getElem?
  intro i
  have h1 := (List.getElem?_eq_some_iff.mp ha).1
  by_cases hi : i = a
  · subst hi
    rw [List.getElem?_set_self (by rw [zws_len]; exact h1), zws_get (h := (S, zup m i k v)) ha]
    simp [zup]
  · rw [List.getElem?_set_ne (Ne.symm hi)]
    cases hc : S[i]? with
    | none =>
      have : S.length ≤ i := by simpa using hc
      rw [List.getElem?_eq_none (by rw [zws_len]; exact this), List.getElem?_eq_none (by rw [zws_len]; exact this)]
    | some x =>
      rw [zws_get (h := (S, zup m a k v)) hc, zws_get (h := (S, m)) hc]
      simp [zup, hi]
/-- a cell's shape changes -/
theorem zws_sh {E : zE} {S : zS} {m : zM} {a : Nat} {e e' : zK × Nat × List (Option Nat)} (ha : S[a]? = some e) : zws E (S.set a e', m) = (zws E (S, m)).set a (E.1 + a, zce E e' (m a)) := by
  apply List.ext_getElem?
  intro i
  have h1 := (List.getElem?_eq_some_iff.mp ha).1
  by_cases hi : i = a
  · subst hi
    rw [List.getElem?_set_self (by rw [zws_len]; exact h1), zws_get (h := (S.set i e', m)) (e := e') (by simp [h1])]
  · rw [List.getElem?_set_ne (Ne.symm hi)]
    cases hc : S[i]? with
    | none =>
      have : S.length ≤ i := by simpa using hc
      rw [List.getElem?_eq_none (by rw [zws_len]; simpa using this), List.getElem?_eq_none (by rw [zws_len]; exact this)]
    | some x =>
      rw [zws_get (h := (S.set a e', m)) (e := x) (by simp [Ne.symm hi, hc]), zws_get (h := (S, m)) hc]
theorem zce_up {E : zE} {c f n : Nat} {rs : List (Option Nat)} {m : Nat → Int32} {y : Int32} (hk : ¬ zFk c f = 2) : zce E (.inr c, n, rs) (upd m f y) = .inr (c, ((List.range (zN c)).map (zfl E c rs m)).set f (.int y)) := by
  show Sum.inr (c, _) = Sum.inr (c, _)
  congr 2
  apply List.ext_getElem?
  intro i
  by_cases hi : i < zN c
  · rw [zfl_get hi]
    by_cases e : i = f
    · subst e
      rw [List.getElem?_set_self (by simpa using hi)]
      simp [zfl, hk, upd]
    · rw [List.getElem?_set_ne (Ne.symm e), zfl_get hi]
      simp [zfl, upd, e]
  · rw [List.getElem?_eq_none (by simpa using Nat.not_lt.mp hi), List.getElem?_eq_none (by simpa using Nat.not_lt.mp hi)]
theorem zce_ref {E : zE} {c f n b : Nat} {rs : List (Option Nat)} {m : Nat → Int32} (hk : zFk c f = 2) (hl : rs.length = zN c) (hf : f < zN c) : zce E (.inr c, n, rs.set f (some b)) m = .inr (c, ((List.range (zN c)).map (zfl E c rs m)).set f (.ref (zad E b))) := by
  show Sum.inr (c, _) = Sum.inr (c, _)
  congr 2
  apply List.ext_getElem?
  intro i
  by_cases hi : i < zN c
  · rw [zfl_get hi]
    by_cases e : i = f
    · subst e
      rw [List.getElem?_set_self (by simpa using hi)]
      have : (rs.set i (some b)).getD i none = some b := by
        rw [List.getD_eq_getElem?_getD, List.getElem?_set_self (by omega)]
        rfl
      simp only [zfl, hk, if_true, this]
      rfl
    · rw [List.getElem?_set_ne (Ne.symm e), zfl_get hi]
      have : (rs.set f (some b)).getD i none = rs.getD i none := by
        rw [List.getD_eq_getElem?_getD, List.getD_eq_getElem?_getD, List.getElem?_set_ne (Ne.symm e)]
      simp only [zfl, this]
  · rw [List.getElem?_eq_none (by simpa using Nat.not_lt.mp hi), List.getElem?_eq_none (by simpa using Nat.not_lt.mp hi)]
theorem zD_ws (E : zE) (h : zH) : va_D (zAr E) (zws E h) := by
  have key : ∀ (i : Nat) (q : Nat × va_E), (zws E h)[i]? = some q → q.1 = E.1 + i := by
    intro i q hq
    have hi : i < h.1.length := by
      have := (List.getElem?_eq_some_iff.mp hq).1
      rwa [zws_len] at this
    have hg : h.1[i]? = some h.1[i] := List.getElem?_eq_getElem hi
    rw [zws_get hg] at hq
    cases hq
    rfl
  refine ⟨fun i j x y hi hj hxy => ?_, fun i q hq => ?_⟩
  · have a1 := key i x hi
    have a2 := key j y hj
    omega
  · show E.1 ≤ q.1
    rw [key i q hq]
    omega
theorem zup_far {m : zM} {a k b : Nat} {v : Int32} (h : b ≠ a) : zup m a k v b = m b := if_neg h
theorem zP_set {E : zE} {h : zH} {H H' : Heap} {a k : Nat} {v : Int32} {e : zK × Nat × List (Option Nat)} (hP : zP E h H) (ha : h.1[a]? = some e) (hz : H'.size = H.size) (oq : ∀ q, q ≠ E.1 + a → H'[q]? = H[q]?) (hat : va_at E.2.1 vwCl (E.1 + a, zce E e (upd (h.2 a) k v)) H') : zP E (h.1, zup h.2 a k v) H' := by
  refine ⟨by rw [hz]; exact hP.1, hP.2.1, ?_⟩
  rw [zws_up ha]
  exact hP.2.2.set (zD_ws E h) (zws_get ha) hat oq
theorem zP_sh {E : zE} {h : zH} {H H' : Heap} {a : Nat} {e e' : zK × Nat × List (Option Nat)} (hP : zP E h H) (ha : h.1[a]? = some e) (hz : H'.size = H.size) (oq : ∀ q, q ≠ E.1 + a → H'[q]? = H[q]?) (hat : va_at E.2.1 vwCl (E.1 + a, zce E e' (h.2 a)) H') : zP E (h.1.set a e', h.2) H' := by
  refine ⟨by rw [hz, List.length_set]; exact hP.1, by rw [List.length_set]; exact hP.2.1, ?_⟩
  rw [zws_sh ha]
  exact hP.2.2.set (zD_ws E h) (zws_get ha) hat oq
theorem zS_put {E : zE} {s : State} {h : zH} {H H' : Heap} {locs : List Loc} {a j : Nat} (hS : va_S (zAr E) s.heap H locs) (hz : H'.size = H.size) (oq : ∀ q, q ≠ E.1 + a → H'[q]? = H[q]?) : va_S (zAr E) s.heap H' (locs ++ [⟨E.1 + a, j⟩]) := hS.put hz oq (Nat.le_add_right _ _)
/-- a field is written: final or not -/
theorem zputV {k : Nat} {g : Nat × Nat × Nat × Nat} {pc : Nat} {r : List Value} {h : zH} {x a c f n : Nat} {v : Value} {rs : List (Option Nat)} (hF : zF (zO k) x = some (c, f)) (ho : h.1[a]? = some (.inr c, n, rs)) (hw : zFw c f = true ∨ ((zY k).name = "<init>" ∧ zO k = c)) (hd : decode (zC k) pc = .ok (.putfield x, 3))
    {p : Program} {l : Launch} {e : Env} {s : State} {m : MethodId} {args : Array Value} {below : List Frame} {meth : Method} {cc : Code} {E : zE} {L : Nat} {xs : Nat → Int32} {H : Heap} {locs : List Loc} {lsA : Array Slot} {R : Room} {cells slots : Nat} {Z : State → Prop} {rest : List Value} (hC : zCx k p s m args meth cc) (hT : zT E L xs s) (hP : zP E h H) (hnar : narrow (zTy c f) v = v ∧ fits (zTy c f) v = true)
    (kk : ∀ (H' : Heap) (j : Nat), H'.size = H.size → (∀ q, q ≠ E.1 + a → H'[q]? = H[q]?) → va_at E.2.1 vwCl (E.1 + a, .inr (c, ((List.range (zN c)).map (zfl E c rs (h.2 a))).set f v)) H' → W p l e R s m args below meth cc H' (locs ++ [⟨E.1 + a, j⟩]) cells slots Z (F0 m (pc + 3) lsA rest)) :
    W p l e R s m args below meth cc H locs cells slots Z (F0 m pc lsA (v :: .ref (E.1 + a) :: rest)) := by
  obtain ⟨c12, fN, hwd⟩ := zF_ok hF
  obtain ⟨hc, hin, hty, hnm, hfo⟩ := zcls c c12
  have hfo1 := List.all_eq_true.mp hfo f (List.mem_range.mpr fN)
  simp only [Bool.and_eq_true, decide_eq_true_eq] at hfo1
  obtain ⟨⟨hf1, hf2⟩, -⟩ := hfo1
  have hts := hC.2.2.2.2.2.2.1
  have hown := hC.2.2.2.2.2.1
  have hlink : (Cond.fieldLink (zRN (zO k)) x (zTt c f).1 (zTt c f).2.1 (zTt c f).2.2.1).before args s = true := by
    rcases hwd with hwd | ⟨-, b1, b2, b3⟩
    · exact hts _ hwd
    · rcases hw with hw | ⟨-, hw⟩
      · rw [hw] at b1; cases b1
      · omega
  have hap := va_apart (own := zRN (zO k)) hts hin (zTy c) hty hnm hT.1 hc
  obtain ⟨rr, g1, cell, q1, q2, q3, q4⟩ := hP.2.2 a _ (zws_get ho)
  have hr : rr = (zRN c, zTt c, zN c) := Option.some.inj (g1.symm.trans hc)
  subst hr
  obtain ⟨hS0, hfc, kC, hkC, hkind⟩ := hT.1.1 c _ hc
  obtain ⟨cf, kf, fi, fd, hi, hsl⟩ := hS0 f fN
  have hlay := hts _ (hin _ (u_in_lay fN))
  have hst := (u_facts hfc hkC (u_lays hts hin fN) hi).1
  have hl : f < ((List.range (zN c)).map (zfl E c rs (h.2 a))).length := by simpa using fN
  have fin : ∀ H' : Heap, H'[E.1 + a]? = some (cell.setSlot fd.slot v) → H'.size = H.size → (∀ q, q ≠ E.1 + a → H'[q]? = H[q]?) → W p l e R s m args below meth cc H' (locs ++ [⟨E.1 + a, fd.slot⟩]) cells slots Z (F0 m (pc + 3) lsA rest) := by
    intro H' e1 e2 e3
    rw [hsl] at e1 ⊢
    exact kk H' _ e2 e3 ⟨_, hc, t_OB.to (V := updV (vp_V ((List.range (zN c)).map (zfl E c rs (h.2 a)))) f v) ⟨_, e1, q2, q3, t_set q4 hap fN v⟩ (fun j _ => vp_updV_set hl v j)⟩
  by_cases hz : zFw c f = true
  · unfold u_lay at hlay
    rw [if_neg (by rw [hf2, hz]; decide)] at hlay
    exact W.putK hC.1 hC.2.1 (f := fd) ⟨hown, hlink, ⟨_, _, _, hi⟩, hst⟩ (by rw [q2]; exact u_store hfc hkC hkind hlay hi (hty f fN) hnar.1 hnar.2) q1 q3 (by rw [hsl]; exact k2_hasslot (q4 f fN)) rfl rfl hd fin
  · have hz2 : zFw c f = false := by simpa using hz
    have hini : (zY k).name = "<init>" ∧ zO k = c := by
      rcases hw with hw | hw
      · exact absurd hw hz
      · exact hw
    unfold u_lay at hlay
    rw [if_pos (by rw [hf2, hz2]; rfl)] at hlay
    have hcf : m.cls = cf := by
      obtain ⟨_, _, c', _, _, _, -, -, hf', -, -, -, hown2, -⟩ := Cond.laysFinal_spec hlay
      have e1 : c' = cf := by have := hi.symm.trans hf'; simp at this; exact this.1.symm
      rw [hf1, ← hini.2] at hown2
      rw [← e1]
      exact Option.some.inj (hown.symm.trans hown2)
    exact W.putFinK hC.1 hC.2.1 hown hlink hi hst hcf (hC.2.2.2.2.2.2.2.trans hini.1) (by rw [q2]; exact u_fits hfc hkC hkind (Or.inr hlay) hi (hty f fN) hnar.1 hnar.2) q1 q3 (by rw [hsl]; exact k2_hasslot (q4 f fN)) rfl rfl hd fin
theorem ZW.putI {k : Nat} {g : Nat × Nat × Nat × Nat} {pc : Nat} {ls : zLs} {r : List Value} {h : zH} {Q : zQ} {x a c f n : Nat} {y : Int32} {rs : List (Option Nat)} (hF : zF (zO k) x = some (c, f)) (ho : h.1[a]? = some (.inr c, n, rs)) (hw : zFw c f = true ∨ ((zY k).name = "<init>" ∧ zO k = c)) (hk : ¬ zFk c f = 2) (hy : zFk c f = 0 ∨ (y = 0 ∨ y = 1)) (hd : decode (zC k) pc = .ok (.putfield x, 3))
    (w : ZW k g (pc + 3) ls r (h.1, zup h.2 a f y) Q) : ZW k g pc ls (.int y :: .ref a :: r) h Q := by
  intro p l e s m args below meth cc E L xs H locs lsA hC hT h1 h2 hP hS hl
  obtain ⟨c12, fN, -⟩ := zF_ok hF
  obtain ⟨-, -, -, -, hfo⟩ := zcls c c12
  have hfo1 := List.all_eq_true.mp hfo f (List.mem_range.mpr fN)
  simp only [Bool.and_eq_true, decide_eq_true_eq] at hfo1
  obtain ⟨-, hf3⟩ := hfo1
  have halt : a < h.1.length := (List.getElem?_eq_some_iff.mp ho).1
  have hlen := hP.2.1
  have hnar : narrow (zTy c f) (.int y) = .int y ∧ fits (zTy c f) (.int y) = true := by
    generalize hz : zFk c f = z at hf3 hk hy
    match z, hf3, hk, hy with
    | 0, hf3, _, _ =>
      simp only [decide_eq_true_eq] at hf3
      rw [hf3]
      exact ⟨rfl, rfl⟩
    | 1, hf3, _, hy =>
      simp only [decide_eq_true_eq] at hf3
      rw [hf3]
      rcases hy with h9 | rfl | rfl
      · cases h9
      · exact ⟨rfl, rfl⟩
      · exact ⟨rfl, rfl⟩
    | 2, _, q, _ => exact absurd rfl q
    | n + 3, hf3, _, _ => simp at hf3
  show W p l e _ s m args below meth cc H locs _ _ _ (F0 m pc lsA (.int y :: .ref (zad E a) :: r.map (zv E)))
  rw [zad_lt hP ho]
  refine zputV (g := g) (r := r) hF ho hw hd hC hT hP hnar (fun H' j e2 e3 hat => ?_)
  refine w p l e s m args below meth cc E L xs H' _ lsA hC hT ?_ ?_ (zP_set hP ho e2 e3 (by rw [zce_up hk]; exact hat)) (zS_put (h := h) hS e2 e3) hl
  · show zup h.2 a f y 1000000 = xs
    rw [zup_far (by omega)]
    exact h1
  · show zup h.2 a f y 1000001 0 = _
    rw [zup_far (by omega)]
    exact h2
theorem ZW.putR {k : Nat} {g : Nat × Nat × Nat × Nat} {pc : Nat} {ls : zLs} {r : List Value} {h : zH} {Q : zQ} {x a c f n b : Nat} {rs : List (Option Nat)} (hF : zF (zO k) x = some (c, f)) (ho : h.1[a]? = some (.inr c, n, rs)) (hw : zFw c f = true ∨ ((zY k).name = "<init>" ∧ zO k = c)) (hk : zFk c f = 2) (hrs : rs.length = zN c) (hd : decode (zC k) pc = .ok (.putfield x, 3))
    (w : ZW k g (pc + 3) ls r (h.1.set a (.inr c, 0, rs.set f (some b)), h.2) Q) : ZW k g pc ls (.ref b :: .ref a :: r) h Q := by
  intro p l e s m args below meth cc E L xs H locs lsA hC hT h1 h2 hP hS hl
  obtain ⟨c12, fN, -⟩ := zF_ok hF
  obtain ⟨-, -, -, -, hfo⟩ := zcls c c12
  have hfo1 := List.all_eq_true.mp hfo f (List.mem_range.mpr fN)
  simp only [Bool.and_eq_true, decide_eq_true_eq, hk] at hfo1
  obtain ⟨-, hf3⟩ := hfo1
  have hnar : narrow (zTy c f) (.ref (zad E b)) = .ref (zad E b) ∧ fits (zTy c f) (.ref (zad E b)) = true := by
    cases hz : zTy c f <;> rw [hz] at hf3 <;> first | exact ⟨rfl, rfl⟩ | cases hf3
  show W p l e _ s m args below meth cc H locs _ _ _ (F0 m pc lsA (.ref (zad E b) :: .ref (zad E a) :: r.map (zv E)))
  rw [zad_lt hP ho]
  refine zputV (g := g) (r := r) hF ho hw hd hC hT hP hnar (fun H' j e2 e3 hat => ?_)
  exact w p l e s m args below meth cc E L xs H' _ lsA hC hT h1 h2 (zP_sh hP ho e2 e3 (by rw [zce_ref hk hrs fN]; exact hat)) (zS_put (h := h) hS e2 e3) hl
theorem zarr_set (cA : ClassId) (n j : Nat) (f : Nat → Int32) (x : Int32) : (vp_cell cA (n, .inl f)).setSlot j (.int x) = vp_cell cA (n, .inl (upd f j x)) := by
  rw [vp_cell_i, vp_cell_i, arrV_store]
  congr 2
  funext q
  by_cases hq : q = j
  · subst hq
    simp [updV, upd]
  · simp [updV, upd, hq]
theorem zin_arr {cA : ClassId} {n : Nat} {f : Nat → Int32} {i : Int32} (h : vp_in i n) : ¬ (i < 0 ∨ (vp_cell cA (n, .inl f)).slots.size ≤ i.toNatClampNeg) := by
  rw [vp_cell_i]
  show ¬ (i < 0 ∨ (arrV _ _ _).slots.size ≤ _)
  rw [arrV_size]
  exact h
theorem zna_all (ty : FieldType) (x : Int32) (h : ty = .byte ∨ ty = .boolean ∨ ty = .char) : narrow ty (.int x) = .int (vp_nar ty x) := by
  rcases h with rfl | rfl | rfl <;> rfl
theorem ZW.iald {k : Nat} {g : Nat × Nat × Nat × Nat} {pc : Nat} {ls : zLs} {r : List Value} {h : zH} {Q : zQ} {a n : Nat} {j : Int32} {rs : List (Option Nat)} (ha : h.1[a]? = some (.inl 0, n, rs)) (hj : vp_in j n) (hd : decode (zC k) pc = .ok (.iaload, 1)) (w : ZW k g (pc + 1) ls (.int (h.2 a j.toNatClampNeg) :: r) h Q) : ZW k g pc ls (.int j :: .ref a :: r) h Q := by
  intro p l e s m args below meth cc E L xs H locs lsA hC hT h1 h2 hP hS hl
  show W p l e _ s m args below meth cc H locs _ _ _ (F0 m pc lsA (.int j :: .ref (zad E a) :: r.map (zv E)))
  rw [zad_lt hP ha]
  exact va_iald hC.1 hC.2.1 hT.1 hP.2.2 a 0 (zws_get ha) rfl hj hd (w p l e s m args below meth cc E L xs H locs lsA hC hT h1 h2 hP hS hl)
theorem ZW.bald {k : Nat} {g : Nat × Nat × Nat × Nat} {pc : Nat} {ls : zLs} {r : List Value} {h : zH} {Q : zQ} {a n : Nat} {j : Int32} {rs : List (Option Nat)} (ha : h.1[a]? = some (.inl 1, n, rs)) (hj : vp_in j n) (hd : decode (zC k) pc = .ok (.baload, 1)) (w : ZW k g (pc + 1) ls (.int (h.2 a j.toNatClampNeg) :: r) h Q) : ZW k g pc ls (.int j :: .ref a :: r) h Q := by
  intro p l e s m args below meth cc E L xs H locs lsA hC hT h1 h2 hP hS hl
  show W p l e _ s m args below meth cc H locs _ _ _ (F0 m pc lsA (.int j :: .ref (zad E a) :: r.map (zv E)))
  rw [zad_lt hP ha]
  exact va_bald hC.1 hC.2.1 hT.1 hP.2.2 a 1 (zws_get ha) rfl hj hd (w p l e s m args below meth cc E L xs H locs lsA hC hT h1 h2 hP hS hl)
theorem ZW.zald {k : Nat} {g : Nat × Nat × Nat × Nat} {pc : Nat} {ls : zLs} {r : List Value} {h : zH} {Q : zQ} {a n : Nat} {j : Int32} {rs : List (Option Nat)} (ha : h.1[a]? = some (.inl 2, n, rs)) (hj : vp_in j n) (hd : decode (zC k) pc = .ok (.baload, 1)) (w : ZW k g (pc + 1) ls (.int (h.2 a j.toNatClampNeg) :: r) h Q) : ZW k g pc ls (.int j :: .ref a :: r) h Q := by
  intro p l e s m args below meth cc E L xs H locs lsA hC hT h1 h2 hP hS hl
  show W p l e _ s m args below meth cc H locs _ _ _ (F0 m pc lsA (.int j :: .ref (zad E a) :: r.map (zv E)))
  rw [zad_lt hP ha]
  exact va_zald hC.1 hC.2.1 hT.1 hP.2.2 a 2 (zws_get ha) rfl hj hd (w p l e s m args below meth cc E L xs H locs lsA hC hT h1 h2 hP hS hl)
theorem ZW.cald {k : Nat} {g : Nat × Nat × Nat × Nat} {pc : Nat} {ls : zLs} {r : List Value} {h : zH} {Q : zQ} {a n : Nat} {j : Int32} {rs : List (Option Nat)} (ha : h.1[a]? = some (.inl 3, n, rs)) (hj : vp_in j n) (hd : decode (zC k) pc = .ok (.caload, 1)) (w : ZW k g (pc + 1) ls (.int (h.2 a j.toNatClampNeg) :: r) h Q) : ZW k g pc ls (.int j :: .ref a :: r) h Q := by
  intro p l e s m args below meth cc E L xs H locs lsA hC hT h1 h2 hP hS hl
  show W p l e _ s m args below meth cc H locs _ _ _ (F0 m pc lsA (.int j :: .ref (zad E a) :: r.map (zv E)))
  rw [zad_lt hP ha]
  exact va_cald hC.1 hC.2.1 hT.1 hP.2.2 a 3 (zws_get ha) rfl hj hd (w p l e s m args below meth cc E L xs H locs lsA hC hT h1 h2 hP hS hl)
theorem ZW.iast {k : Nat} {g : Nat × Nat × Nat × Nat} {pc : Nat} {ls : zLs} {r : List Value} {h : zH} {Q : zQ} {a n : Nat} {j x : Int32} {rs : List (Option Nat)} (ha : h.1[a]? = some (.inl 0, n, rs)) (hj : vp_in j n) (hd : decode (zC k) pc = .ok (.iastore, 1)) (w : ZW k g (pc + 1) ls r (h.1, zup h.2 a j.toNatClampNeg x) Q) : ZW k g pc ls (.int x :: .int j :: .ref a :: r) h Q := by
  intro p l e s m args below meth cc E L xs H locs lsA hC hT h1 h2 hP hS hl
  show W p l e _ s m args below meth cc H locs _ _ _ (F0 m pc lsA (.int x :: .int j :: .ref (zad E a) :: r.map (zv E)))
  have halt : a < h.1.length := (List.getElem?_eq_some_iff.mp ha).1
  have hlen := hP.2.1
  rw [zad_lt hP ha]
  have hc : H[E.1 + a]? = some (vp_cell (E.2.2.1 0) (n, .inl (h.2 a))) := hP.2.2 a _ (zws_get ha)
  refine W.iast hC.1 hC.2.1 hc ((hT.1.2 0 _ rfl).1 n (fun j => .int (h.2 a j))) (fun q => by cases q) (zin_arr hj) rfl rfl hd (fun H' e1 e2 e3 => ?_)
  refine w p l e s m args below meth cc E L xs H' _ lsA hC hT ?_ ?_ (zP_set hP ha e2 e3 ?_) (zS_put (h := h) hS e2 e3) hl
  · show zup h.2 a _ _ 1000000 = xs
    rw [zup_far (by omega)]
    exact h1
  · show zup h.2 a _ _ 1000001 0 = _
    rw [zup_far (by omega)]
    exact h2
  · show H'[E.1 + a]? = some (vp_cell (E.2.2.1 0) (n, .inl (upd (h.2 a) j.toNatClampNeg x)))
    rw [e1, ← zarr_set]
theorem ZW.bast {k : Nat} {g : Nat × Nat × Nat × Nat} {pc : Nat} {ls : zLs} {r : List Value} {h : zH} {Q : zQ} {a n : Nat} {j x : Int32} {rs : List (Option Nat)} (ha : h.1[a]? = some (.inl 1, n, rs)) (hj : vp_in j n) (hd : decode (zC k) pc = .ok (.bastore, 1)) (w : ZW k g (pc + 1) ls r (h.1, zup h.2 a j.toNatClampNeg (vp_nar .byte x)) Q) : ZW k g pc ls (.int x :: .int j :: .ref a :: r) h Q := by
  intro p l e s m args below meth cc E L xs H locs lsA hC hT h1 h2 hP hS hl
  show W p l e _ s m args below meth cc H locs _ _ _ (F0 m pc lsA (.int x :: .int j :: .ref (zad E a) :: r.map (zv E)))
  have halt : a < h.1.length := (List.getElem?_eq_some_iff.mp ha).1
  have hlen := hP.2.1
  rw [zad_lt hP ha]
  have hc : H[E.1 + a]? = some (vp_cell (E.2.2.1 1) (n, .inl (h.2 a))) := hP.2.2 a _ (zws_get ha)
  refine W.bast hC.1 hC.2.1 hc ((hT.1.2 1 _ rfl).1 n (fun j => .int (h.2 a j))) (fun q => by cases q) (zin_arr hj) rfl rfl hd (fun H' e1 e2 e3 => ?_)
  refine w p l e s m args below meth cc E L xs H' _ lsA hC hT ?_ ?_ (zP_set hP ha e2 e3 ?_) (zS_put (h := h) hS e2 e3) hl
  · show zup h.2 a _ _ 1000000 = xs
    rw [zup_far (by omega)]
    exact h1
  · show zup h.2 a _ _ 1000001 0 = _
    rw [zup_far (by omega)]
    exact h2
  · show H'[E.1 + a]? = some (vp_cell (E.2.2.1 1) (n, .inl (upd (h.2 a) j.toNatClampNeg (vp_nar .byte x))))
    rw [e1, ← zarr_set]
    rfl
theorem ZW.zast {k : Nat} {g : Nat × Nat × Nat × Nat} {pc : Nat} {ls : zLs} {r : List Value} {h : zH} {Q : zQ} {a n : Nat} {j x : Int32} {rs : List (Option Nat)} (ha : h.1[a]? = some (.inl 2, n, rs)) (hj : vp_in j n) (hd : decode (zC k) pc = .ok (.bastore, 1)) (w : ZW k g (pc + 1) ls r (h.1, zup h.2 a j.toNatClampNeg (vp_nar .boolean x)) Q) : ZW k g pc ls (.int x :: .int j :: .ref a :: r) h Q := by
  intro p l e s m args below meth cc E L xs H locs lsA hC hT h1 h2 hP hS hl
  show W p l e _ s m args below meth cc H locs _ _ _ (F0 m pc lsA (.int x :: .int j :: .ref (zad E a) :: r.map (zv E)))
  have halt : a < h.1.length := (List.getElem?_eq_some_iff.mp ha).1
  have hlen := hP.2.1
  rw [zad_lt hP ha]
  have hc : H[E.1 + a]? = some (vp_cell (E.2.2.1 2) (n, .inl (h.2 a))) := hP.2.2 a _ (zws_get ha)
  refine W.zast hC.1 hC.2.1 hc ((hT.1.2 2 _ rfl).1 n (fun j => .int (h.2 a j))) (fun q => by cases q) (zin_arr hj) rfl rfl hd (fun H' e1 e2 e3 => ?_)
  refine w p l e s m args below meth cc E L xs H' _ lsA hC hT ?_ ?_ (zP_set hP ha e2 e3 ?_) (zS_put (h := h) hS e2 e3) hl
  · show zup h.2 a _ _ 1000000 = xs
    rw [zup_far (by omega)]
    exact h1
  · show zup h.2 a _ _ 1000001 0 = _
    rw [zup_far (by omega)]
    exact h2
  · show H'[E.1 + a]? = some (vp_cell (E.2.2.1 2) (n, .inl (upd (h.2 a) j.toNatClampNeg (vp_nar .boolean x))))
    rw [e1, ← zarr_set]
    rfl
theorem ZW.cast {k : Nat} {g : Nat × Nat × Nat × Nat} {pc : Nat} {ls : zLs} {r : List Value} {h : zH} {Q : zQ} {a n : Nat} {j x : Int32} {rs : List (Option Nat)} (ha : h.1[a]? = some (.inl 3, n, rs)) (hj : vp_in j n) (hd : decode (zC k) pc = .ok (.castore, 1)) (w : ZW k g (pc + 1) ls r (h.1, zup h.2 a j.toNatClampNeg (vp_nar .char x)) Q) : ZW k g pc ls (.int x :: .int j :: .ref a :: r) h Q := by
  intro p l e s m args below meth cc E L xs H locs lsA hC hT h1 h2 hP hS hl
  show W p l e _ s m args below meth cc H locs _ _ _ (F0 m pc lsA (.int x :: .int j :: .ref (zad E a) :: r.map (zv E)))
  have halt : a < h.1.length := (List.getElem?_eq_some_iff.mp ha).1
  have hlen := hP.2.1
  rw [zad_lt hP ha]
  have hc : H[E.1 + a]? = some (vp_cell (E.2.2.1 3) (n, .inl (h.2 a))) := hP.2.2 a _ (zws_get ha)
  refine W.cast hC.1 hC.2.1 hc ((hT.1.2 3 _ rfl).1 n (fun j => .int (h.2 a j))) (fun q => by cases q) (zin_arr hj) rfl rfl hd (fun H' e1 e2 e3 => ?_)
  refine w p l e s m args below meth cc E L xs H' _ lsA hC hT ?_ ?_ (zP_set hP ha e2 e3 ?_) (zS_put (h := h) hS e2 e3) hl
  · show zup h.2 a _ _ 1000000 = xs
    rw [zup_far (by omega)]
    exact h1
  · show zup h.2 a _ _ 1000001 0 = _
    rw [zup_far (by omega)]
    exact h2
  · show H'[E.1 + a]? = some (vp_cell (E.2.2.1 3) (n, .inl (upd (h.2 a) j.toNatClampNeg (vp_nar .char x))))
    rw [e1, ← zarr_set]
    rfl
theorem ZW.alen {k : Nat} {g : Nat × Nat × Nat × Nat} {pc : Nat} {ls : zLs} {r : List Value} {h : zH} {Q : zQ} {a n t : Nat} {rs : List (Option Nat)} (ha : h.1[a]? = some (.inl t, n, rs)) (ht : t < 5) (hd : decode (zC k) pc = .ok (.arraylength, 1)) (w : ZW k g (pc + 1) ls (.int (Int32.ofNat n) :: r) h Q) : ZW k g pc ls (.ref a :: r) h Q := by
  intro p l e s m args below meth cc E L xs H locs lsA hC hT h1 h2 hP hS hl
  show W p l e _ s m args below meth cc H locs _ _ _ (F0 m pc lsA (.ref (zad E a) :: r.map (zv E)))
  rw [zad_lt hP ha]
  have hw := w p l e s m args below meth cc E L xs H locs lsA hC hT h1 h2 hP hS hl
  match t, ht, ha with
  | 0, _, ha => exact va_alen hC.1 hC.2.1 hT.1 hP.2.2 a 0 (zws_get ha) rfl rfl hd hw
  | 1, _, ha => exact va_alen hC.1 hC.2.1 hT.1 hP.2.2 a 1 (zws_get ha) rfl rfl hd hw
  | 2, _, ha => exact va_alen hC.1 hC.2.1 hT.1 hP.2.2 a 2 (zws_get ha) rfl rfl hd hw
  | 3, _, ha => exact va_alen hC.1 hC.2.1 hT.1 hP.2.2 a 3 (zws_get ha) rfl rfl hd hw
  | 4, _, ha => exact va_alen hC.1 hC.2.1 hT.1 hP.2.2 a 4 (zws_get ha) rfl rfl hd hw
theorem ZW.sld {k : Nat} {g : Nat × Nat × Nat × Nat} {pc : Nat} {ls : zLs} {r : List Value} {h : zH} {Q : zQ} {j : Int32} (hj : vp_in j (h.2 1000001 0).toNatClampNeg) (hd : decode (zC k) pc = .ok (.iaload, 1)) (w : ZW k g (pc + 1) ls (.int (h.2 1000000 j.toNatClampNeg) :: r) h Q) : ZW k g pc ls (.int j :: .ref 1000000 :: r) h Q := by
  intro p l e s m args below meth cc E L xs H locs lsA hC hT h1 h2 hP hS hl
  have hw := w p l e s m args below meth cc E L xs H locs lsA hC hT h1 h2 hP hS hl
  rw [h2] at hj
  have hLL : (Int32.ofNat L).toNatClampNeg = L := nI_clamp (by have := hT.2.2.2.2.1; omega)
  rw [hLL] at hj
  rw [h1] at hw
  exact va_sld hC.1 hC.2.1 hT.2.2.1 (Nat.lt_of_lt_of_le hT.2.2.2.1 hT.2.1) (Nat.not_le.mpr hT.2.2.2.1) hS hj hd hw
theorem ZW.slen {k : Nat} {g : Nat × Nat × Nat × Nat} {pc : Nat} {ls : zLs} {r : List Value} {h : zH} {Q : zQ} (hd : decode (zC k) pc = .ok (.arraylength, 1)) (w : ZW k g (pc + 1) ls (.int (h.2 1000001 0) :: r) h Q) : ZW k g pc ls (.ref 1000000 :: r) h Q := by
  intro p l e s m args below meth cc E L xs H locs lsA hC hT h1 h2 hP hS hl
  have hw := w p l e s m args below meth cc E L xs H locs lsA hC hT h1 h2 hP hS hl
  rw [h2] at hw
  exact va_slen hC.1 hC.2.1 hT.2.2.1 (Nat.lt_of_lt_of_le hT.2.2.2.1 hT.2.1) (Nat.not_le.mpr hT.2.2.2.1) hS hd hw
theorem ZW.aald {k : Nat} {g : Nat × Nat × Nat × Nat} {pc : Nat} {ls : zLs} {r : List Value} {h : zH} {Q : zQ} {a n b : Nat} {j : Int32} {rs : List (Option Nat)} (ha : h.1[a]? = some (.inl 4, n, rs)) (hj : vp_in j n) (hb : rs.getD j.toNatClampNeg none = some b) (hd : decode (zC k) pc = .ok (.aaload, 1)) (w : ZW k g (pc + 1) ls (.ref b :: r) h Q) : ZW k g pc ls (.int j :: .ref a :: r) h Q := by
  intro p l e s m args below meth cc E L xs H locs lsA hC hT h1 h2 hP hS hl
  show W p l e _ s m args below meth cc H locs _ _ _ (F0 m pc lsA (.int j :: .ref (zad E a) :: r.map (zv E)))
  rw [zad_lt hP ha]
  have hc : H[E.1 + a]? = some (vp_cell (E.2.2.1 4) (n, .inr (.inr (.inr (.inr (fun j => (rs.getD j none).map (zad E))))))) := hP.2.2 a _ (zws_get ha)
  rw [vp_cell_q] at hc
  refine W.aald hC.1 hC.2.1 hc ((hT.1.2 4 _ rfl).1 n _) rfl (fun q => by cases q) ?_ (v := .ref (zad E b)) ?_ rfl rfl hd (w p l e s m args below meth cc E L xs H locs lsA hC hT h1 h2 hP hS hl)
  · rw [arrV_size]
    exact hj
  · have hlt : j.toNatClampNeg < n := by
      have := hj
      unfold vp_in at this
      omega
    simp only [arrV]
    rw [Array.getElem?_ofFn, dif_pos hlt]
    simp only [hb]
    rfl
end
section
/-! calls, returns, new cells -/
theorem zLk_ok {o i j : Nat} (h : zLk o i = some j) : (j = 999 ∧ (.methodLink (zRN o) i objectInit : Cond) ∈ zTB) ∨ (j ≠ 999 ∧ j < 234 ∧ ((.methodLink (zRN o) i (zY j) : Cond) ∈ zTB ∨ ((.methodLinkNest (zRN o) i (zY j) "PaymentHub" : Cond) ∈ zNW ∧ zSt j = true))) := by
  unfold zLk at h
  rw [Option.map_eq_some_iff] at h
  obtain ⟨e, he, h2⟩ := h
  have hm := List.mem_of_find?_eq_some he
  have hi := List.find?_some he
  simp only [beq_iff_eq] at hi
  cases h2
  have ho : o < 18 := by
    apply Decidable.byContradiction
    intro hn
    have : zLT.getD o [] = [] := zgD (by show 18 ≤ o; omega)
    rw [this] at hm
    cases hm
  have h1 := List.all_eq_true.mp (zmks o ho) e hm
  unfold zmk at h1
  rw [← hi]
  by_cases h9 : e.2.1 = 999
  · rw [if_pos h9] at h1
    simp only [decide_eq_true_eq] at h1
    exact Or.inl ⟨h9, zin _ h1 rfl⟩
  · rw [if_neg h9] at h1
    simp only [Bool.and_eq_true, decide_eq_true_eq] at h1
    refine Or.inr ⟨h9, h1.1, ?_⟩
    by_cases hp : e.2.2 = 9999
    · have h3 := h1.2
      rw [if_pos hp] at h3
      simp only [Bool.and_eq_true, decide_eq_true_eq] at h3
      exact Or.inr h3
    · have h3 := h1.2
      rw [if_neg hp] at h3
      simp only [decide_eq_true_eq] at h3
      exact Or.inl (zin _ h3 rfl)
theorem zGd {ws : List Cond} (h : ∀ w ∈ ws, w ∈ zTB) : GoodIn zTB ws := fun w hw => ⟨h w hw, good_of_word (List.mem_filter.mp (h w hw)).2⟩
theorem zini (o : Nat) (ho : o < 18) : (.initialized (zRN o) : Cond) ∈ zTB := by
  have h := List.all_eq_true.mp zio_all o (List.mem_range.mpr ho)
  simp only [zio, decide_eq_true_eq] at h
  exact zin _ h rfl
theorem zsl_map (E : zE) (as : List Value) : (lg_sl (as.map (zv E))).length = (lg_sl as).length := by
  induction as with
  | nil => rfl
  | cons a l ih =>
    simp only [lg_sl, List.map_cons, List.flatMap_cons, List.length_append] at ih ⊢
    rw [ih, zvcat]
    split <;> rfl
theorem lv_args_map (E : zE) (as : List Value) : ∀ i : Nat, lv_args i (as.map (zv E)) = (lv_args i as).map (fun q => (q.1, zv E q.2)) := by
  induction as with
  | nil => intro i; rfl
  | cons a l ih =>
    intro i
    show (i, zv E a) :: lv_args (if (zv E a).category = 2 then i + 2 else i + 1) (l.map (zv E)) = (i, zv E a) :: (lv_args (if a.category = 2 then i + 2 else i + 1) l).map _
    rw [zvcat, ih]
theorem zNw_warm {s U : State} (hW : s.WarmedH U.vm) (h : ∀ w ∈ zNW, va_Nw w s) : ∀ w ∈ zNW, va_Nw w U := by
  intro w hw
  have h0 := h w hw
  simp only [zNW, List.mem_cons, List.not_mem_nil, or_false] at hw
  rcases hw with rfl | rfl | rfl | rfl | rfl | rfl | rfl | rfl | rfl | rfl | rfl
  · exact va_Nw.warmF hW h0
  · exact va_Nw.warmF hW h0
  · exact va_Nw.warmF hW h0
  all_goals exact va_Nw.warmM hW h0
theorem zNw_tab (w : Cond) (hw : w ∈ zNW) : w.onTables = true := by
  simp only [zNW, List.mem_cons, List.not_mem_nil, or_false] at hw
  rcases hw with rfl | rfl | rfl | rfl | rfl | rfl | rfl | rfl | rfl | rfl | rfl <;> rfl
theorem zAO_moved {u U : State} {A : Array Value} (hvm : u.vm.Alike U.vm) (h : (Jvm.Cond.arrayOver (.array .int)).before A u = true) : (Jvm.Cond.arrayOver (.array .int)).before A U = true := by
  have e := Jvm.Cond.arrayOver_setVmC (args := A) hvm (.array .int)
  rw [h] at e
  exact e
theorem zStr_warm {E : zE} {s U : State} {h : zH} {H : Heap} {locs : List Loc} (hZ : zStr E s) (hb : E.1 ≤ s.heap.size) (hP : zP E h H) (hS : va_S (zAr E) s.heap H locs) (hU : U.heap = H) (hW : s.WarmedH U.vm) : zStr E U := by
  obtain ⟨a1, a2, a3, a4, a5⟩ := hZ
  rw [← hU] at hS
  exact ⟨(a1.moved hW.alike).kept hS.2.1, fun e he => vk_R.warm hW (a2 e he), (va_Z.moved hW.alike a3).kept hS.2.1, a4.imp (fun h => (va_Z.moved hW.alike h).kept hS.2.1) (fun h => (va_Z.moved hW.alike h).kept hS.2.1), zAO_moved hW.alike a5⟩
theorem zStr_call {E : zE} {U : State} {g : JFrame} {mk : MethodId} {a : Array Value} (hT : zStr E U) : zStr E (U.calling g mk a) := by
  obtain ⟨a1, a2, a3, a4, a5⟩ := hT
  exact ⟨vk_S.moved (u := U) (Vm.Alike.refl U.vm) a1, fun e he => vk_R.same (u := U) rfl (a2 e he), va_Z.moved (u := U) (Vm.Alike.refl U.vm) a3, a4.imp (va_Z.moved (u := U) (Vm.Alike.refl U.vm)) (va_Z.moved (u := U) (Vm.Alike.refl U.vm)), zAO_moved (u := U) (Vm.Alike.refl U.vm) a5⟩
theorem zT_warm {E : zE} {L : Nat} {xs : Nat → Int32} {s U : State} {h : zH} {H : Heap} {locs : List Loc} (hT : zT E L xs s) (hP : zP E h H) (hS : va_S (zAr E) s.heap H locs) (hU : U.heap = H) (hW : s.WarmedH U.vm) : zT E L xs U := by
  obtain ⟨a1, a2, a3, a4, a5, a6, a7⟩ := hT
  refine ⟨va_K.moved hW.alike a1, ?_, ?_, a4, a5, zNw_warm hW a6, zStr_warm a7 a2 hP hS hU hW⟩
  · rw [hU, hP.1]
    omega
  · rw [hU]
    exact (va_X.moved hW.alike a3).kept (hS.2.1 _ (Nat.lt_of_lt_of_le a4 a2) (Nat.not_le.mpr a4))
theorem zT_call {E : zE} {L : Nat} {xs : Nat → Int32} {U : State} {g : JFrame} {mk : MethodId} {a : Array Value} (hT : zT E L xs U) : zT E L xs (U.calling g mk a) := by
  obtain ⟨a1, a2, a3, a4, a5, a6, a7⟩ := hT
  exact ⟨va_K.moved (u := U) (Vm.Alike.refl U.vm) a1, a2, va_X.moved (u := U) (Vm.Alike.refl U.vm) a3, a4, a5, fun w hw => va_Nw.same (u := U) (zNw_tab w hw) rfl (a6 w hw), zStr_call a7⟩
theorem zMet {j mc ms : Nat} {as : List Value} {h : zH} {Q : zQ} (w : ZM j mc ms as h Q) (hm : zmo j = true) (hn : zsl as ≤ zL j) (l : Launch) (E : zE) (L : Nat) (xs : Nat → Int32) (h1 : h.2 1000000 = xs) (h2 : h.2 1000001 0 = Int32.ofNat L) :
    Met l (zY j) (.code (zY j) (zC j) (zL j) (zRt j) :: zTB) (zRm j (mc, ms, 0, 0)) (va_Pc (as.map (zv E)) (fun U => zT E L xs U ∧ zP E h U.heap)) (zQc E L xs Q) mc ms (zAr E) := by
  simp only [zmo, Bool.and_eq_true, decide_eq_true_eq] at hm
  obtain ⟨⟨⟨⟨⟨⟨⟨⟨-, -⟩, hcls⟩, -⟩, hpl⟩, -⟩, -⟩, -⟩, -⟩ := hm
  refine Met.ofW (cc := zC j) (maxL := zL j) (ret := zRt j) hpl rfl ?_
  intro p e s m args below meth c s₁ B hml hv
  obtain ⟨rfl, hT, hP⟩ := hv
  have hts := atoms_spec (ws := .code (zY j) (zC j) (zL j) (zRt j) :: zTB) B.pre
  have hown : s.vm.findClass (zY j).cls = some m.cls := findClass_of_methodNamed B.named
  rw [hcls] at hown
  have hl := lv_entry (as.map (zv E)) (n := zL j) (by rw [zsl_map]; exact hn)
  rw [lg_entry_eq]
  rw [lv_args_map] at hl
  exact w p l e s m _ below meth c E L xs s.heap [] _ ⟨B.exec, B.bytes, hml, B.returns, B.notSynchronized, hown, fun w hw => hts w (List.mem_cons_of_mem _ hw), (name_of_methodNamed B.named B.method).1⟩ hT h1 h2 hP va_S.rf hl
theorem zcont {p : Program} {l : Launch} {e : Env} {R : Room} {s : State} {m : MethodId} {args : Array Value} {below : List Frame} {meth : Method} {c : Code} {H : Heap} {locs : List Loc} {cells slots mc ms pc : Nat} {Z : State → Prop} {lsA : Array Slot} {st0 rest : List Value} {E : zE} {L : Nat} {xs : Nat → Int32} {Q : zQ} {aa : Array Value}
    (hr : va_Run p l e R s m args below meth c H locs cells slots mc ms (F0 m pc lsA st0) rest (zQc E L xs Q aa) (zAr E)) (hS : va_S (zAr E) s.heap H locs)
    (kk : ∀ (r : Option Value) (h' : zH) (H1 : Heap) (locs1 : List Loc), Q r h' → zP E h' H1 → h'.2 1000000 = xs → h'.2 1000001 0 = Int32.ofNat L → va_S (zAr E) s.heap H1 locs1 → W p l e R s m args below meth c H1 locs1 (cells + mc) (slots + ms) Z (F0 m (pc + 3) lsA ((r.map (zv E)).toList ++ rest))) : W p l e R s m args below meth c H locs cells slots Z (F0 m pc lsA st0) := by
  intro T hT X
  obtain ⟨v, st₀, t, T', LL, h0, X', hL, e1, e2, ⟨r, h', hq, hv, hp, hx1, hx2, hz, hk⟩, st⟩ := hr T hT X
  cases hv
  rw [h0] at hz hk
  obtain ⟨t2, a1, b1⟩ := kk r h' T'.heap (locs ++ LL) hq (by rw [e1]; exact hp) hx1 hx2 ⟨Nat.le_trans hS.1 (by rw [e1]; exact hz), fun q q1 q2 => by rw [e1, hk q (Nat.lt_of_lt_of_le q1 hS.1) q2]; exact hS.2.1 q q1 q2, fun q hq => by
      rcases List.mem_append.mp hq with h | h
      · exact hS.2.2 q h
      · exact hL q h⟩ T' rfl X'
  exact ⟨t2, st t2 a1, b1⟩
theorem zap_map (E : zE) (r : Option Value) (rest : List Value) : (r.map (zv E)).toList ++ rest.map (zv E) = (r.toList ++ rest).map (zv E) := by cases r <;> rfl
theorem zcs_map (E : zE) (rest : List Value) : ((rest.map (zv E)).map fun v => v.category).sum = zcs rest := by
  unfold zcs
  rw [List.map_map]
  congr 1
  apply List.map_congr_left
  intro v _
  exact zvcat E v
theorem zcr_ok {k j : Nat} {rest : List Value} (h : zcr k j rest = true) : zFr j + 1 ≤ zFr k ∧ 8 + (zL j + 11) + zLo j ≤ zLo k ∧ zcs rest ≤ 8 := by
  simp only [zcr, Bool.and_eq_true, decide_eq_true_eq] at h
  exact ⟨h.1.1, h.1.2, h.2⟩
theorem ZW.callV {k : Nat} {g : Nat × Nat × Nat × Nat} {pc : Nat} {ls : zLs} {h : zH} {Q : zQ} {x j a n : Nat} {as rest : List Value} {rs : List (Option Nat)} (hlk : zLk (zO k) x = some j) (hj : j < 219) (hst : zSt j = false) (hni : (zY j).name ≠ "<init>") (ho : h.1[a]? = some (.inr (zO j), n, rs)) (hr : zcr k j rest = true) (hsl : zsl (.ref a :: as) ≤ zL j) (hna : as.length + 1 = zNa j) (hgc : g.2.2.1 ≤ g.1 ∧ g.2.2.2 ≤ g.2.1) (hd : decode (zC k) pc = .ok (.invokevirtual x, 3))
    (w : ZM j 0 0 (.ref a :: as) h (fun r h => ZW k g (pc + 3) ls (r.toList ++ rest) h Q)) : ZW k g pc ls (as.reverse ++ .ref a :: rest) h Q := by
  intro p l e s m args below meth cc E L xs H locs lsA hC hT h1 h2 hP hS hl
  have hm := zmo_all j hj
  simp only [zmo, Bool.and_eq_true, decide_eq_true_eq, hst, Bool.false_eq_true, if_false, Bool.or_eq_true, hni, false_or] at hm
  obtain ⟨⟨⟨⟨⟨⟨⟨⟨hcode, hin, hsel⟩, hcls⟩, h18⟩, hpl⟩, hm1⟩, hm2⟩, hpar⟩, -⟩ := hm
  obtain ⟨hr1, hr2, hr3⟩ := zcr_ok hr
  have hts := hC.2.2.2.2.2.2.1
  have hcodeT := zin _ hcode rfl
  have hinT := zin _ hin rfl
  have hselT := zin _ hsel rfl
  have hiniT := zini (zO j) h18
  have hlink : (.methodLink (zRN (zO k)) x (zY j) : Cond) ∈ zTB := by
    rcases zLk_ok hlk with ⟨q, -⟩ | ⟨-, -, q | q⟩
    · omega
    · exact q
    · rw [hst] at q
      cases q.2
  have hC12 : zO j < 12 := by
    obtain ⟨rr, g1, -⟩ := hP.2.2 a _ (zws_get ho)
    have := (List.getElem?_eq_some_iff.mp g1).1
    exact this
  obtain ⟨hvc, -, -, -, -⟩ := zcls (zO j) hC12
  have hrecv := va_recv hT.1 hP.2.2 hvc (zws_get ho)
  have hst2 : (as.reverse ++ Value.ref a :: rest).map (zv E) = (as.map (zv E)).reverse ++ Value.ref (E.1 + a) :: rest.map (zv E) := by
    rw [List.map_append, List.map_reverse, List.map_cons]
    show _ ++ Value.ref (zad E a) :: _ = _
    rw [zad_lt hP ho]
  rw [hst2]
  have hM := zMet w (zmo_all j hj) hsl l E L xs h1 h2
  have hargs : (Value.ref a :: as).map (zv E) = Value.ref (E.1 + a) :: as.map (zv E) := by
    rw [List.map_cons]
    show Value.ref (zad E a) :: _ = _
    rw [zad_lt hP ho]
  rw [hargs] at hM
  refine zcont (va_runV (C := zRN (zO j)) (As := as.map (zv E)) (n := zNa j - 1) ⟨hC.1, hC.2.1, hC.2.2.1, hC.2.2.2.2.2.1, hts⟩ hM (cwV (zNa j - 1) hts (zGd (fun w hw => ?_)) rfl rfl rfl ⟨hcls, hm1, hm2, hpar⟩ ⟨hr1, hr2⟩) ⟨fun a U g mk q => ⟨q.1, zT_call q.2.1, q.2.2⟩, hrecv, fun U hU hW => ⟨rfl, zT_warm hT hP hS hU hW, by rw [hU]; exact hP⟩⟩ rfl (by rw [List.length_map]; omega) hl.1 rfl (lv_room (by rw [zcs_map]; exact hr3)) hd hgc) hS (fun r h' H1 locs1 hq hP1 hx1 hx2 hS1 => ?_)
  · simp only [wsV, List.mem_append, List.mem_cons, List.not_mem_nil, or_false] at hw
    rcases hw with (rfl | rfl | rfl | rfl) | rfl | hw
    · exact hlink
    · exact hinT
    · rw [hcls] at hselT
      exact hselT
    · exact hiniT
    · exact hcodeT
    · exact hw
  · rw [zap_map]
    exact hq p l e s m args below meth cc E L xs H1 locs1 lsA hC hT hx1 hx2 hP1 hS1 hl
end
section
/-! written by wip/gen/emit9.py: other calls, new cells, constants, switches, returns -/
theorem zm_max_c : Cond.code Lib.Math.max.name Lib.Math.max.code 2 (some .int) ∈ zTB := zin 257 (by decide +kernel) rfl
theorem zm_max_s : Cond.static Lib.Math.max.name ∈ zTB := zin 256 (by decide +kernel) rfl
theorem zm_min_c : Cond.code Lib.Math.min.name Lib.Math.min.code 2 (some .int) ∈ zTB := zin 254 (by decide +kernel) rfl
theorem zm_min_s : Cond.static Lib.Math.min.name ∈ zTB := zin 253 (by decide +kernel) rfl
theorem zm_ini : Cond.initialized "java/lang/Math" ∈ zTB := zin 88 (by decide +kernel) rfl
theorem ZW.mmax {k : Nat} {g : Nat × Nat × Nat × Nat} {pc : Nat} {ls : zLs} {r : List Value} {h : zH} {Q : zQ} {i : Nat} {x y : Int32} (hlk : zLk (zO k) i = some 232) (hf : 1 ≤ zFr k) (hlo : zcs r + 13 ≤ zLo k) (hgc : g.2.2.1 ≤ g.1 ∧ g.2.2.2 ≤ g.2.1) (hd : decode (zC k) pc = .ok (.invokestatic i, 3)) (w : ZW k g (pc + 3) ls (.int (if x < y then y else x) :: r) h Q) : ZW k g pc ls (.int y :: .int x :: r) h Q := by
  intro p l e s m args below meth cc E L xs H locs lsA hC hT h1 h2 hP hS hl
  have hts := hC.2.2.2.2.2.2.1
  have hlink : (.methodLink (zRN (zO k)) i (zY 232) : Cond) ∈ zTB := by
    rcases zLk_ok hlk with ⟨q, -⟩ | ⟨-, -, q | q⟩
    · omega
    · exact q
    · have q2 := q.1
      simp only [zNW, List.mem_cons, List.not_mem_nil, or_false, reduceCtorEq, false_or, Cond.methodLinkNest.injEq] at q2
      exfalso
      rcases q2 with q2 | q2 | q2 | q2 | q2 | q2 | q2 | q2 <;> exact absurd q2.2.2.1 (by decide +kernel)
  exact va_mmax hC.1 hC.2.1 (hC.2.2.1.trans hl.1.symm) hC.2.2.2.2.2.1 (hts _ hlink) (hts _ zm_max_s) (hts _ zm_ini) (hts _ zm_max_c) hf (by rw [zcs_map]; exact hlo) hgc.1 hgc.2 hd (w p l e s m args below meth cc E L xs H locs lsA hC hT h1 h2 hP hS hl)
theorem ZW.mmin {k : Nat} {g : Nat × Nat × Nat × Nat} {pc : Nat} {ls : zLs} {r : List Value} {h : zH} {Q : zQ} {i : Nat} {x y : Int32} (hlk : zLk (zO k) i = some 233) (hf : 1 ≤ zFr k) (hlo : zcs r + 13 ≤ zLo k) (hgc : g.2.2.1 ≤ g.1 ∧ g.2.2.2 ≤ g.2.1) (hd : decode (zC k) pc = .ok (.invokestatic i, 3)) (w : ZW k g (pc + 3) ls (.int (if y < x then y else x) :: r) h Q) : ZW k g pc ls (.int y :: .int x :: r) h Q := by
  intro p l e s m args below meth cc E L xs H locs lsA hC hT h1 h2 hP hS hl
  have hts := hC.2.2.2.2.2.2.1
  have hlink : (.methodLink (zRN (zO k)) i (zY 233) : Cond) ∈ zTB := by
    rcases zLk_ok hlk with ⟨q, -⟩ | ⟨-, -, q | q⟩
    · omega
    · exact q
    · have q2 := q.1
      simp only [zNW, List.mem_cons, List.not_mem_nil, or_false, reduceCtorEq, false_or, Cond.methodLinkNest.injEq] at q2
      exfalso
      rcases q2 with q2 | q2 | q2 | q2 | q2 | q2 | q2 | q2 <;> exact absurd q2.2.2.1 (by decide +kernel)
  exact va_mmin hC.1 hC.2.1 (hC.2.2.1.trans hl.1.symm) hC.2.2.2.2.2.1 (hts _ hlink) (hts _ zm_min_s) (hts _ zm_ini) (hts _ zm_min_c) hf (by rw [zcs_map]; exact hlo) hgc.1 hgc.2 hd (w p l e s m args below meth cc E L xs H locs lsA hC hT h1 h2 hP hS hl)
theorem ZW.callSm {k : Nat} {g : Nat × Nat × Nat × Nat} {pc : Nat} {ls : zLs} {h : zH} {Q : zQ} {x j : Nat} {as rest : List Value} (hlk : zLk (zO k) x = some j) (hm0 : zmo j = true) (hj : j < 999) (hst : zSt j = true) (hr : zcr k j rest = true) (hsl : zsl as ≤ zL j) (hna : as.length = zNa j) (hgc : g.2.2.1 ≤ g.1 ∧ g.2.2.2 ≤ g.2.1) (hd : decode (zC k) pc = .ok (.invokestatic x, 3))
    (w : ZM j 0 0 as h (fun r h => ZW k g (pc + 3) ls (r.toList ++ rest) h Q)) : ZW k g pc ls (as.reverse ++ rest) h Q := by
  intro p l e s m args below meth cc E L xs H locs lsA hC hT h1 h2 hP hS hl
  have hm := hm0
  simp only [zmo, Bool.and_eq_true, decide_eq_true_eq, hst, if_true] at hm
  obtain ⟨⟨⟨⟨⟨⟨⟨⟨hcode, hstat⟩, hcls⟩, h18⟩, hpl⟩, hm1⟩, hm2⟩, hpar⟩, -⟩ := hm
  obtain ⟨hr1, hr2, hr3⟩ := zcr_ok hr
  have hts := hC.2.2.2.2.2.2.1
  have hcodeT := zin _ hcode rfl
  have hstT := zin _ hstat rfl
  have hiniT := zini (zO j) h18
  rw [← hcls] at hiniT
  have hst2 : (as.reverse ++ rest).map (zv E) = (as.map (zv E)).reverse ++ rest.map (zv E) := by
    rw [List.map_append, List.map_reverse]
  rw [hst2]
  have hM := zMet w hm0 hsl l E L xs h1 h2
  have hpre : PreS s H (va_Pc (as.map (zv E)) (fun U => zT E L xs U ∧ zP E h U.heap)) (as.map (zv E)) := ⟨fun a U g mk q => ⟨q.1, zT_call q.2.1, q.2.2⟩, fun U hU hW => ⟨rfl, zT_warm hT hP hS hU hW, by rw [hU]; exact hP⟩⟩
  have fin : ∀ (r : Option Value) (h' : zH) (H1 : Heap) (locs1 : List Loc), ZW k g (pc + 3) ls (r.toList ++ rest) h' Q → zP E h' H1 → h'.2 1000000 = xs → h'.2 1000001 0 = Int32.ofNat L → va_S (zAr E) s.heap H1 locs1 → W p l e (zRm k g) s m args below meth cc H1 locs1 (g.2.2.1 + 0) (g.2.2.2 + 0) (MQ below (zQc E L xs Q) args s g.1 g.2.1 (zAr E)) (F0 m (pc + 3) lsA ((r.map (zv E)).toList ++ rest.map (zv E))) := by
    intro r h' H1 locs1 hq hP1 hx1 hx2 hS1
    rw [zap_map]
    exact hq p l e s m args below meth cc E L xs H1 locs1 lsA hC hT hx1 hx2 hP1 hS1 hl
  rcases zLk_ok hlk with ⟨q, -⟩ | ⟨-, -, q | q⟩
  · omega
  · refine zcont (va_runS (As := as.map (zv E)) (n := zNa j) ⟨hC.1, hC.2.1, hC.2.2.1, hC.2.2.2.2.2.1, hts⟩ hM (va_cwS (zNa j) hts (zGd (fun w hw => ?_)) rfl rfl rfl ⟨hm1, hm2, hpar⟩ ⟨hr1, hr2⟩) hpre rfl (by rw [List.length_map]; omega) hl.1 rfl (lv_room (by rw [zcs_map]; exact hr3)) hd hgc) hS fin
    simp only [va_wsS, List.mem_append, List.mem_cons, List.not_mem_nil, or_false] at hw
    rcases hw with (rfl | rfl | rfl) | rfl | hw
    · exact q
    · exact hstT
    · exact hiniT
    · exact hcodeT
    · exact hw
  · refine zcont (va_runSN (host := "PaymentHub") (As := as.map (zv E)) (n := zNa j) ⟨hC.1, hC.2.1, hC.2.2.1, hC.2.2.2.2.2.1, hts⟩ hM ⟨va_cnB (zNa j) hts (zGd (fun w hw => ?_)) rfl rfl rfl (hT.2.2.2.2.2.1 _ q.1) (hts _ hiniT) ⟨hm1, hm2, hpar⟩ ⟨hr1, hr2⟩, hts _ hstT, trivial⟩ hpre rfl (by rw [List.length_map]; omega) hl.1 rfl (lv_room (by rw [zcs_map]; exact hr3)) hd hgc) hS fin
    simp only [List.mem_cons] at hw
    rcases hw with rfl | hw
    · exact hcodeT
    · exact hw
theorem ZW.callS {k : Nat} {g : Nat × Nat × Nat × Nat} {pc : Nat} {ls : zLs} {h : zH} {Q : zQ} {x j : Nat} {as rest : List Value} (hlk : zLk (zO k) x = some j) (hj : j < 219) (hst : zSt j = true) (hr : zcr k j rest = true) (hsl : zsl as ≤ zL j) (hna : as.length = zNa j) (hgc : g.2.2.1 ≤ g.1 ∧ g.2.2.2 ≤ g.2.1) (hd : decode (zC k) pc = .ok (.invokestatic x, 3))
    (w : ZM j 0 0 as h (fun r h => ZW k g (pc + 3) ls (r.toList ++ rest) h Q)) : ZW k g pc ls (as.reverse ++ rest) h Q := ZW.callSm hlk (zmo_all j hj) (by omega) hst hr hsl hna hgc hd w
theorem zref_v {E : zE} {h : zH} {H : Heap} (_ : zP E h H) (a : Nat) : zv E (.ref a) = .ref (zad E a) := rfl
theorem ZW.callI {k : Nat} {g : Nat × Nat × Nat × Nat} {pc : Nat} {ls : zLs} {h : zH} {Q : zQ} {x j a mc ms : Nat} {as rest : List Value} (hlk : zLk (zO k) x = some j) (hj : j < 219) (hst : zSt j = false) (hni : (zY j).name = "<init>") (hr : zcr k j rest = true) (hsl : zsl (.ref a :: as) ≤ zL j) (hna : as.length + 1 = zNa j) (hgc : g.2.2.1 + mc ≤ g.1 ∧ g.2.2.2 + ms ≤ g.2.1) (hret : zRt j = none) (hd : decode (zC k) pc = .ok (.invokespecial x, 3))
    (w : ZM j mc ms (.ref a :: as) h (fun r h => ZW k (g.1, g.2.1, g.2.2.1 + mc, g.2.2.2 + ms) (pc + 3) ls (r.toList ++ rest) h Q)) : ZW k g pc ls (as.reverse ++ .ref a :: rest) h Q := by
  intro p l e s m args below meth cc E L xs H locs lsA hC hT h1 h2 hP hS hl
  have hm := zmo_all j hj
  simp only [zmo, Bool.and_eq_true, decide_eq_true_eq, hst, Bool.false_eq_true, if_false, Bool.or_eq_true] at hm
  obtain ⟨⟨⟨⟨⟨⟨⟨⟨hcode, hin, -⟩, hcls⟩, h18⟩, hpl⟩, hm1⟩, hm2⟩, hpar⟩, -⟩ := hm
  obtain ⟨hr1, hr2, hr3⟩ := zcr_ok hr
  have hts := hC.2.2.2.2.2.2.1
  have hcodeT := zin _ hcode rfl
  have hinT := zin _ hin rfl
  have hiniT := zini (zO j) h18
  rw [← hcls] at hiniT
  have hlink : (.methodLink (zRN (zO k)) x (zY j) : Cond) ∈ zTB := by
    rcases zLk_ok hlk with ⟨q, -⟩ | ⟨-, -, q | q⟩
    · omega
    · exact q
    · rw [hst] at q
      cases q.2
  have hst2 : (as.reverse ++ Value.ref a :: rest).map (zv E) = (as.map (zv E)).reverse ++ Value.ref (zad E a) :: rest.map (zv E) := by
    rw [List.map_append, List.map_reverse, List.map_cons]
    rfl
  rw [hst2]
  have hM := zMet w (zmo_all j hj) hsl l E L xs h1 h2
  rw [hret] at hM hcodeT
  refine zcont (va_runI (b := zad E a) (As := as.map (zv E)) (n := zNa j - 1) ⟨hC.1, hC.2.1, hC.2.2.1, hC.2.2.2.2.2.1, hts⟩ hM (cwI (zNa j - 1) hts (zGd (fun w hw => ?_)) rfl rfl rfl (hts _ hiniT) (hts _ hlink) (hts _ hinT) hni ⟨hm1, hm2, hpar⟩ ⟨hr1, hr2⟩) ⟨fun a U g mk q => ⟨q.1, zT_call q.2.1, q.2.2⟩, fun U hU hW => ⟨rfl, zT_warm hT hP hS hU hW, by rw [hU]; exact hP⟩⟩ rfl (by rw [List.length_map]; omega) hl.1 rfl (lv_room (by rw [zcs_map]; exact hr3)) hd hgc) hS (fun r h' H1 locs1 hq hP1 hx1 hx2 hS1 => ?_)
  · simp only [List.mem_cons] at hw
    rcases hw with rfl | hw
    · exact hcodeT
    · exact hw
  · rw [zap_map]
    exact hq p l e s m args below meth cc E L xs H1 locs1 lsA hC hT hx1 hx2 hP1 hS1 hl
theorem ZW.objInit {k : Nat} {g : Nat × Nat × Nat × Nat} {pc : Nat} {ls : zLs} {r : List Value} {h : zH} {Q : zQ} {x a : Nat} (hlk : zLk (zO k) x = some 999) (hf : 1 ≤ zFr k) (hlo : zcs r + 12 ≤ zLo k) (hd : decode (zC k) pc = .ok (.invokespecial x, 3)) (w : ZW k g (pc + 3) ls r h Q) : ZW k g pc ls (.ref a :: r) h Q := by
  intro p l e s m args below meth cc E L xs H locs lsA hC hT h1 h2 hP hS hl
  have hts := hC.2.2.2.2.2.2.1
  have hlink : (.methodLink (zRN (zO k)) x objectInit : Cond) ∈ zTB := by
    rcases zLk_ok hlk with ⟨-, q⟩ | ⟨q, -⟩
    · exact q
    · exact absurd rfl q
  refine W.objInit hC.1 hC.2.1 hC.2.2.2.2.2.1 (hts _ hlink) (hts _ zob_inst) (hts _ zob_code) rfl (hl.1.trans hC.2.2.1.symm) rfl hd hf ?_ (w p l e s m args below meth cc E L xs H locs lsA hC hT h1 h2 hP hS hl)
  show 2 * 0 + ((r.map (zv E)).map fun v => v.category).sum + 12 ≤ zLo k
  rw [zcs_map]
  omega
theorem zKi_ok {o i v : Nat} (h : zKi o i = some v) : (.constant (zRN o) i (Int32.ofNat v) : Cond) ∈ zTB := by
  unfold zKi at h
  rw [Option.map_eq_some_iff] at h
  obtain ⟨e, he, h2⟩ := h
  have hm := List.mem_of_find?_eq_some he
  have hi := List.find?_some he
  simp only [Bool.and_eq_true, beq_iff_eq] at hi
  cases h2
  have h1 := List.all_eq_true.mp zki_ok e hm
  simp only [decide_eq_true_eq] at h1
  rw [← hi.1, ← hi.2]
  exact zin _ h1 rfl
theorem zKl_ok {o i v : Nat} (h : zKl o i = some v) : (.constantLong (zRN o) i (Int64.ofNat v) : Cond) ∈ zTB := by
  unfold zKl at h
  rw [Option.map_eq_some_iff] at h
  obtain ⟨e, he, h2⟩ := h
  have hm := List.mem_of_find?_eq_some he
  have hi := List.find?_some he
  simp only [Bool.and_eq_true, beq_iff_eq] at hi
  cases h2
  have h1 := List.all_eq_true.mp zkl_ok e hm
  simp only [decide_eq_true_eq] at h1
  rw [← hi.1, ← hi.2]
  exact zin _ h1 rfl
theorem ZW.ldc {k : Nat} {g : Nat × Nat × Nat × Nat} {pc : Nat} {ls : zLs} {r : List Value} {h : zH} {Q : zQ} {i v : Nat} (hv : zKi (zO k) i = some v) (hd : decode (zC k) pc = .ok (.ldc i, 2)) (w : ZW k g (pc + 2) ls (.int (Int32.ofNat v) :: r) h Q) : ZW k g pc ls r h Q := by
  intro p l e s m args below meth cc E L xs H locs lsA hC hT h1 h2 hP hS hl
  exact lv_ldc hC.1 hC.2.1 hC.2.2.2.2.2.1 (hC.2.2.2.2.2.2.1 _ (zKi_ok hv)) hd (w p l e s m args below meth cc E L xs H locs lsA hC hT h1 h2 hP hS hl)
theorem ZW.ldcw {k : Nat} {g : Nat × Nat × Nat × Nat} {pc : Nat} {ls : zLs} {r : List Value} {h : zH} {Q : zQ} {i v : Nat} (hv : zKi (zO k) i = some v) (hd : decode (zC k) pc = .ok (.ldc_w i, 3)) (w : ZW k g (pc + 3) ls (.int (Int32.ofNat v) :: r) h Q) : ZW k g pc ls r h Q := by
  intro p l e s m args below meth cc E L xs H locs lsA hC hT h1 h2 hP hS hl
  exact lv_ldcw hC.1 hC.2.1 hC.2.2.2.2.2.1 (hC.2.2.2.2.2.2.1 _ (zKi_ok hv)) hd (w p l e s m args below meth cc E L xs H locs lsA hC hT h1 h2 hP hS hl)
theorem ZW.ldc2 {k : Nat} {g : Nat × Nat × Nat × Nat} {pc : Nat} {ls : zLs} {r : List Value} {h : zH} {Q : zQ} {i v : Nat} (hv : zKl (zO k) i = some v) (hd : decode (zC k) pc = .ok (.ldc2_w i, 3)) (w : ZW k g (pc + 3) ls (.long (Int64.ofNat v) :: r) h Q) : ZW k g pc ls r h Q := by
  intro p l e s m args below meth cc E L xs H locs lsA hC hT h1 h2 hP hS hl
  exact lv_ldc2 hC.1 hC.2.1 hC.2.2.2.2.2.1 (hC.2.2.2.2.2.2.1 _ (zKl_ok hv)) hd (w p l e s m args below meth cc E L xs H locs lsA hC hT h1 h2 hP hS hl)
theorem ZW.iret {k : Nat} {g : Nat × Nat × Nat × Nat} {pc : Nat} {ls : zLs} {h : zH} {Q : zQ} {v : Int32} (hr : zRt k = some .int) (hgc : g.2.2.1 ≤ g.1 ∧ g.2.2.2 ≤ g.2.1) (hd : decode (zC k) pc = .ok (.ireturn, 1)) (w : Q (some (.int v)) h) : ZW k g pc ls [.int v] h Q := by
  intro p l e s m args below meth cc E L xs H locs lsA hC hT h1 h2 hP hS hl
  refine W.widen (k := g.1) (n := g.2.1) hgc.1 hgc.2 ?_
  have hlk : meth.locks = false := hC.2.2.2.2.1
  exact W.iret hC.1 hC.2.1 (hC.2.2.2.1.trans hr) (fun t ht hW => ⟨some (.int v), h, w, rfl, by rw [ht]; exact hP, h1, h2, hS.F ht⟩) hS.2.2 hd hlk
theorem ZW.zret {k : Nat} {g : Nat × Nat × Nat × Nat} {pc : Nat} {ls : zLs} {h : zH} {Q : zQ} {v : Int32} (hr : zRt k = some .boolean) (hv : v = 0 ∨ v = 1) (hgc : g.2.2.1 ≤ g.1 ∧ g.2.2.2 ≤ g.2.1) (hd : decode (zC k) pc = .ok (.ireturn, 1)) (w : Q (some (.int v)) h) : ZW k g pc ls [.int v] h Q := by
  intro p l e s m args below meth cc E L xs H locs lsA hC hT h1 h2 hP hS hl
  refine W.widen (k := g.1) (n := g.2.1) hgc.1 hgc.2 ?_
  have hlk : meth.locks = false := hC.2.2.2.2.1
  exact W.zret (ty := .boolean) hC.1 hC.2.1 (hC.2.2.2.1.trans hr) (by rcases hv with rfl | rfl <;> rfl) (fun t ht hW => ⟨some (.int v), h, w, rfl, by rw [ht]; exact hP, h1, h2, hS.F ht⟩) hS.2.2 hd hlk
theorem ZW.vret {k : Nat} {g : Nat × Nat × Nat × Nat} {pc : Nat} {ls : zLs} {h : zH} {Q : zQ} (hr : zRt k = none) (hgc : g.2.2.1 ≤ g.1 ∧ g.2.2.2 ≤ g.2.1) (hd : decode (zC k) pc = .ok (.return_, 1)) (w : Q none h) : ZW k g pc ls [] h Q := by
  intro p l e s m args below meth cc E L xs H locs lsA hC hT h1 h2 hP hS hl
  refine W.widen (k := g.1) (n := g.2.1) hgc.1 hgc.2 ?_
  have hlk : meth.locks = false := hC.2.2.2.2.1
  exact W.vret hC.1 hC.2.1 (hC.2.2.2.1.trans hr) (fun t ht hW => ⟨none, h, w, rfl, by rw [ht]; exact hP, h1, h2, hS.F ht⟩) hS.2.2 hd hlk
theorem ZW.aret {k : Nat} {g : Nat × Nat × Nat × Nat} {pc : Nat} {ls : zLs} {h : zH} {Q : zQ} {v : Nat} {n : String} (hr : zRt k = some (.object n)) (hgc : g.2.2.1 ≤ g.1 ∧ g.2.2.2 ≤ g.2.1) (hd : decode (zC k) pc = .ok (.areturn, 1)) (w : Q (some (.ref v)) h) : ZW k g pc ls [.ref v] h Q := by
  intro p l e s m args below meth cc E L xs H locs lsA hC hT h1 h2 hP hS hl
  refine W.widen (k := g.1) (n := g.2.1) hgc.1 hgc.2 ?_
  have hlk : meth.locks = false := hC.2.2.2.2.1
  exact W.aret (rt := .object n) hC.1 hC.2.1 (hC.2.2.2.1.trans hr) (Or.inl ⟨n, rfl⟩) (Or.inr ⟨_, rfl⟩) (fun t ht hW => ⟨some (.ref v), h, w, rfl, by rw [ht]; exact hP, h1, h2, hS.F ht⟩) hS.2.2 hd hlk
theorem zz_far {m : zM} {a b : Nat} (h : b ≠ a) : zz m a b = m b := if_neg h
theorem zws_push {E : zE} {S : zS} {m : zM} {e : zK × Nat × List (Option Nat)} : zws E (S ++ [e], zz m S.length) = zws E (S, m) ++ [(E.1 + S.length, zce E e (fun _ => 0))] := by
  apply List.ext_getElem?
  intro i
  by_cases hi : i < S.length
  · have hg : S[i]? = some S[i] := List.getElem?_eq_getElem hi
    rw [List.getElem?_append_left (by rw [zws_len]; exact hi), zws_get (h := (S, m)) hg, zws_get (h := (S ++ [e], zz m S.length)) (e := S[i]) (by show (S ++ [e])[i]? = _; rw [List.getElem?_append_left hi]; exact hg)]
    show some (E.1 + i, zce E S[i] (zz m S.length i)) = _
    rw [zz_far (by omega)]
  · by_cases hj : i = S.length
    · subst hj
      rw [zws_get (h := (S ++ [e], zz m S.length)) (e := e) (by simp), List.getElem?_append_right (by rw [zws_len]; exact Nat.le_refl _), zws_len]
      simp [zz]
    · rw [List.getElem?_eq_none (by rw [zws_len]; simp; omega), List.getElem?_eq_none (by rw [List.length_append, zws_len]; simp; omega)]
theorem zP_push {E : zE} {h : zH} {H H' : Heap} {e : zK × Nat × List (Option Nat)} (hP : zP E h H) (hlen : h.1.length < 900000) (hz : H'.size = H.size + 1) (ho : ∀ q, q < H.size → H'[q]? = H[q]?) (hat : va_at E.2.1 vwCl (E.1 + h.1.length, zce E e (fun _ => 0)) H') : zP E (h.1 ++ [e], zz h.2 h.1.length) H' := by
  refine ⟨by rw [hz, hP.1, List.length_append]; rfl, by rw [List.length_append]; simp; omega, ?_⟩
  rw [show zws E (h.1 ++ [e], zz h.2 h.1.length) = zws E h ++ [(E.1 + h.1.length, zce E e (fun _ => 0))] from zws_push]
  refine (hP.2.2.kept (fun k q hk => ho q.1 ((hP.2.2 k q hk).lt))).app (fun k q hk => ?_)
  have hz : k < 1 := (List.getElem?_eq_some_iff.mp hk).1
  rw [show k = 0 by omega] at hk
  cases hk
  exact hat
theorem zS_push {E : zE} {s : State} {H H' : Heap} {locs : List Loc} (hS : va_S (zAr E) s.heap H locs) (hz : H'.size = H.size + 1) (ho : ∀ q, q < H.size → H'[q]? = H[q]?) : va_S (zAr E) s.heap H' locs :=
  ⟨Nat.le_trans hS.1 (by omega), fun x h1 h2 => (ho x (Nat.lt_of_lt_of_le h1 hS.1)).trans (hS.2.1 x h1 h2), hS.2.2⟩
theorem zCl_ok {o i c : Nat} (h : zCl o i = some c) : c < 12 ∧ (.classLink (zRN o) i (zRN c) : Cond) ∈ zTB := by
  unfold zCl at h
  rw [Option.map_eq_some_iff] at h
  obtain ⟨e, he, h2⟩ := h
  have hm := List.mem_of_find?_eq_some he
  have hi := List.find?_some he
  simp only [Bool.and_eq_true, beq_iff_eq] at hi
  cases h2
  have h1 := List.all_eq_true.mp zcl_ok e hm
  simp only [Bool.and_eq_true, decide_eq_true_eq] at h1
  rw [← hi.1, ← hi.2]
  exact ⟨h1.1, zin _ h1.2 rfl⟩
theorem ZW.new {k : Nat} {g : Nat × Nat × Nat × Nat} {pc : Nat} {ls : zLs} {r : List Value} {h : zH} {Q : zQ} {i c : Nat} (hc : zCl (zO k) i = some c) (hg1 : g.2.2.1 + 1 ≤ g.1) (hg2 : g.2.2.2 + zN c ≤ g.2.1) (hlen : h.1.length < 900000) (hd : decode (zC k) pc = .ok (.new i, 3)) (w : ZW k (g.1, g.2.1, g.2.2.1 + 1, g.2.2.2 + zN c) (pc + 3) ls (.ref h.1.length :: r) (h.1 ++ [(.inr c, 0, List.replicate (zN c) none)], zz h.2 h.1.length) Q) : ZW k g pc ls r h Q := by
  intro p l e s m args below meth cc E L xs H locs lsA hC hT h1 h2 hP hS hl
  obtain ⟨c12, hcl⟩ := zCl_ok hc
  obtain ⟨hvc, hin, hty, -, hfo⟩ := zcls c c12
  have hts := hC.2.2.2.2.2.2.1
  have hins : (.instantiable (zRN c) (zN c) : Cond) ∈ zTB := by
    have := List.all_eq_true.mp zno_all c (List.mem_range.mpr c12)
    simp only [decide_eq_true_eq] at this
    exact zin _ this rfl
  have hKn := hT.1.1 c _ hvc
  refine W.newcK hC.1 hC.2.1 hC.2.2.2.2.2.1 (hts _ hcl) (hts _ hins) (hts _ (zini c (by omega))) rfl hd hg1 hg2 hKn.2.1 hP.1 (fun H' kC hkC e1 e2 e3 => ?_)
  have ead : E.1 + h.1.length = zad E h.1.length := by
    unfold zad
    rw [if_pos (by omega)]
  have hfs : ∀ j, j < zN c → defaultValue (zTy c j) = vp_V ((List.range (zN c)).map (zfl E c (List.replicate (zN c) none) (fun _ => 0))) j := by
    intro j hj
    have hfo1 := List.all_eq_true.mp hfo j (List.mem_range.mpr hj)
    simp only [Bool.and_eq_true, decide_eq_true_eq] at hfo1
    obtain ⟨-, hf3⟩ := hfo1
    have e0 : vp_V ((List.range (zN c)).map (zfl E c (List.replicate (zN c) none) (fun _ => 0))) j = zfl E c (List.replicate (zN c) none) (fun _ => 0) j := by
      unfold vp_V
      rw [List.getD_eq_getElem?_getD, zfl_get hj]
      rfl
    rw [e0]
    unfold zfl
    generalize hz : zFk c j = z at hf3
    match z, hf3 with
    | 0, hf3 =>
      simp only [decide_eq_true_eq] at hf3
      rw [hf3]
      rfl
    | 1, hf3 =>
      simp only [decide_eq_true_eq] at hf3
      rw [hf3]
      rfl
    | 2, hf3 =>
      have : (List.replicate (zN c) (none : Option Nat)).getD j none = none := by
        rw [List.getD_eq_getElem?_getD, List.getElem?_replicate]
        simp [hj]
      rw [if_pos rfl, this]
      cases hq : zTy c j <;> rw [hq] at hf3 <;> first | rfl | cases hf3
    | n + 3, hf3 => simp at hf3
  show W p l e _ s m args below meth cc H' locs _ _ _ (F0 m (pc + 3) lsA (.ref (E.1 + h.1.length) :: r.map (zv E)))
  rw [ead]
  refine w p l e s m args below meth cc E L xs H' locs lsA hC hT ?_ ?_ (zP_push hP hlen (by rw [e2, hP.1]) (fun q hq => e3 q (by rw [← hP.1]; exact hq)) ?_) (zS_push hS (by rw [e2, hP.1]) (fun q hq => e3 q (by rw [← hP.1]; exact hq))) hl
  · show zz h.2 h.1.length 1000000 = xs
    rw [zz_far (by omega)]
    exact h1
  · show zz h.2 h.1.length 1000001 0 = _
    rw [zz_far (by omega)]
    exact h2
  · exact ⟨_, hvc, (u_born (zTy c) hts hin hKn hkC e1 hty).to hfs⟩
theorem ZW.newa0 {k : Nat} {g : Nat × Nat × Nat × Nat} {pc : Nat} {ls : zLs} {r : List Value} {h : zH} {Q : zQ} {x : Int32} (hx : ¬ x < 0) (hx2 : x.toNatClampNeg ≤ 100000) (hg1 : g.2.2.1 + 1 ≤ g.1) (hg2 : g.2.2.2 + x.toNatClampNeg ≤ g.2.1) (hlen : h.1.length < 900000) (hd : decode (zC k) pc = .ok (.newarray .int, 2)) (w : ZW k (g.1, g.2.1, g.2.2.1 + 1, g.2.2.2 + x.toNatClampNeg) (pc + 2) ls (.ref h.1.length :: r) (h.1 ++ [(.inl 0, x.toNatClampNeg, [])], zz h.2 h.1.length) Q) : ZW k g pc ls (.int x :: r) h Q := by
  intro p l e s m args below meth cc E L xs H locs lsA hC hT h1 h2 hP hS hl
  have hts := hC.2.2.2.2.2.2.1
  refine va_newaK (atype := .int) hC.1 hC.2.1 (hts _ zarr_0) rfl hd rfl hx rfl (Nat.le_trans (Nat.mul_le_mul hx2 (show componentBytes (newarray.typeOf .int) ≤ 8 by decide)) (by decide)) hg1 hg2 hP.1 (fun H' cA e1 e2 e3 hAr hNm => ?_)
  have ead : E.1 + h.1.length = zad E h.1.length := by
    unfold zad
    rw [if_pos (by omega)]
  have hcA : cA = E.2.2.1 0 := by
    have := (hT.1.2 0 _ rfl).2
    exact Option.some.inj (hNm.symm.trans this)
  show W p l e _ s m args below meth cc H' locs _ _ _ (F0 m (pc + 2) lsA (.ref (E.1 + h.1.length) :: r.map (zv E)))
  rw [ead]
  refine w p l e s m args below meth cc E L xs H' locs lsA hC hT ?_ ?_ (zP_push hP hlen (by rw [e2, hP.1]) (fun q hq => e3 q (by rw [← hP.1]; exact hq)) ?_) (zS_push hS (by rw [e2, hP.1]) (fun q hq => e3 q (by rw [← hP.1]; exact hq))) hl
  · show zz h.2 h.1.length 1000000 = xs
    rw [zz_far (by omega)]
    exact h1
  · show zz h.2 h.1.length 1000001 0 = _
    rw [zz_far (by omega)]
    exact h2
  · show H'[E.1 + h.1.length]? = some (vp_cell (E.2.2.1 0) (x.toNatClampNeg, .inl (fun _ => 0)))
    rw [e1, hcA, vp_cell_i]
    rfl
theorem ZW.newa1 {k : Nat} {g : Nat × Nat × Nat × Nat} {pc : Nat} {ls : zLs} {r : List Value} {h : zH} {Q : zQ} {x : Int32} (hx : ¬ x < 0) (hx2 : x.toNatClampNeg ≤ 100000) (hg1 : g.2.2.1 + 1 ≤ g.1) (hg2 : g.2.2.2 + x.toNatClampNeg ≤ g.2.1) (hlen : h.1.length < 900000) (hd : decode (zC k) pc = .ok (.newarray .byte, 2)) (w : ZW k (g.1, g.2.1, g.2.2.1 + 1, g.2.2.2 + x.toNatClampNeg) (pc + 2) ls (.ref h.1.length :: r) (h.1 ++ [(.inl 1, x.toNatClampNeg, [])], zz h.2 h.1.length) Q) : ZW k g pc ls (.int x :: r) h Q := by
  intro p l e s m args below meth cc E L xs H locs lsA hC hT h1 h2 hP hS hl
  have hts := hC.2.2.2.2.2.2.1
  refine va_newaK (atype := .byte) hC.1 hC.2.1 (hts _ zarr_1) rfl hd rfl hx rfl (Nat.le_trans (Nat.mul_le_mul hx2 (show componentBytes (newarray.typeOf .byte) ≤ 8 by decide)) (by decide)) hg1 hg2 hP.1 (fun H' cA e1 e2 e3 hAr hNm => ?_)
  have ead : E.1 + h.1.length = zad E h.1.length := by
    unfold zad
    rw [if_pos (by omega)]
  have hcA : cA = E.2.2.1 1 := by
    have := (hT.1.2 1 _ rfl).2
    exact Option.some.inj (hNm.symm.trans this)
  show W p l e _ s m args below meth cc H' locs _ _ _ (F0 m (pc + 2) lsA (.ref (E.1 + h.1.length) :: r.map (zv E)))
  rw [ead]
  refine w p l e s m args below meth cc E L xs H' locs lsA hC hT ?_ ?_ (zP_push hP hlen (by rw [e2, hP.1]) (fun q hq => e3 q (by rw [← hP.1]; exact hq)) ?_) (zS_push hS (by rw [e2, hP.1]) (fun q hq => e3 q (by rw [← hP.1]; exact hq))) hl
  · show zz h.2 h.1.length 1000000 = xs
    rw [zz_far (by omega)]
    exact h1
  · show zz h.2 h.1.length 1000001 0 = _
    rw [zz_far (by omega)]
    exact h2
  · show H'[E.1 + h.1.length]? = some (vp_cell (E.2.2.1 1) (x.toNatClampNeg, .inl (fun _ => 0)))
    rw [e1, hcA, vp_cell_i]
    rfl
theorem ZW.newa2 {k : Nat} {g : Nat × Nat × Nat × Nat} {pc : Nat} {ls : zLs} {r : List Value} {h : zH} {Q : zQ} {x : Int32} (hx : ¬ x < 0) (hx2 : x.toNatClampNeg ≤ 100000) (hg1 : g.2.2.1 + 1 ≤ g.1) (hg2 : g.2.2.2 + x.toNatClampNeg ≤ g.2.1) (hlen : h.1.length < 900000) (hd : decode (zC k) pc = .ok (.newarray .boolean, 2)) (w : ZW k (g.1, g.2.1, g.2.2.1 + 1, g.2.2.2 + x.toNatClampNeg) (pc + 2) ls (.ref h.1.length :: r) (h.1 ++ [(.inl 2, x.toNatClampNeg, [])], zz h.2 h.1.length) Q) : ZW k g pc ls (.int x :: r) h Q := by
  intro p l e s m args below meth cc E L xs H locs lsA hC hT h1 h2 hP hS hl
  have hts := hC.2.2.2.2.2.2.1
  refine va_newaK (atype := .boolean) hC.1 hC.2.1 (hts _ zarr_2) rfl hd rfl hx rfl (Nat.le_trans (Nat.mul_le_mul hx2 (show componentBytes (newarray.typeOf .boolean) ≤ 8 by decide)) (by decide)) hg1 hg2 hP.1 (fun H' cA e1 e2 e3 hAr hNm => ?_)
  have ead : E.1 + h.1.length = zad E h.1.length := by
    unfold zad
    rw [if_pos (by omega)]
  have hcA : cA = E.2.2.1 2 := by
    have := (hT.1.2 2 _ rfl).2
    exact Option.some.inj (hNm.symm.trans this)
  show W p l e _ s m args below meth cc H' locs _ _ _ (F0 m (pc + 2) lsA (.ref (E.1 + h.1.length) :: r.map (zv E)))
  rw [ead]
  refine w p l e s m args below meth cc E L xs H' locs lsA hC hT ?_ ?_ (zP_push hP hlen (by rw [e2, hP.1]) (fun q hq => e3 q (by rw [← hP.1]; exact hq)) ?_) (zS_push hS (by rw [e2, hP.1]) (fun q hq => e3 q (by rw [← hP.1]; exact hq))) hl
  · show zz h.2 h.1.length 1000000 = xs
    rw [zz_far (by omega)]
    exact h1
  · show zz h.2 h.1.length 1000001 0 = _
    rw [zz_far (by omega)]
    exact h2
  · show H'[E.1 + h.1.length]? = some (vp_cell (E.2.2.1 2) (x.toNatClampNeg, .inl (fun _ => 0)))
    rw [e1, hcA, vp_cell_i]
    rfl
theorem ZW.newa3 {k : Nat} {g : Nat × Nat × Nat × Nat} {pc : Nat} {ls : zLs} {r : List Value} {h : zH} {Q : zQ} {x : Int32} (hx : ¬ x < 0) (hx2 : x.toNatClampNeg ≤ 100000) (hg1 : g.2.2.1 + 1 ≤ g.1) (hg2 : g.2.2.2 + x.toNatClampNeg ≤ g.2.1) (hlen : h.1.length < 900000) (hd : decode (zC k) pc = .ok (.newarray .char, 2)) (w : ZW k (g.1, g.2.1, g.2.2.1 + 1, g.2.2.2 + x.toNatClampNeg) (pc + 2) ls (.ref h.1.length :: r) (h.1 ++ [(.inl 3, x.toNatClampNeg, [])], zz h.2 h.1.length) Q) : ZW k g pc ls (.int x :: r) h Q := by
  intro p l e s m args below meth cc E L xs H locs lsA hC hT h1 h2 hP hS hl
  have hts := hC.2.2.2.2.2.2.1
  refine va_newaK (atype := .char) hC.1 hC.2.1 (hts _ zarr_3) rfl hd rfl hx rfl (Nat.le_trans (Nat.mul_le_mul hx2 (show componentBytes (newarray.typeOf .char) ≤ 8 by decide)) (by decide)) hg1 hg2 hP.1 (fun H' cA e1 e2 e3 hAr hNm => ?_)
  have ead : E.1 + h.1.length = zad E h.1.length := by
    unfold zad
    rw [if_pos (by omega)]
  have hcA : cA = E.2.2.1 3 := by
    have := (hT.1.2 3 _ rfl).2
    exact Option.some.inj (hNm.symm.trans this)
  show W p l e _ s m args below meth cc H' locs _ _ _ (F0 m (pc + 2) lsA (.ref (E.1 + h.1.length) :: r.map (zv E)))
  rw [ead]
  refine w p l e s m args below meth cc E L xs H' locs lsA hC hT ?_ ?_ (zP_push hP hlen (by rw [e2, hP.1]) (fun q hq => e3 q (by rw [← hP.1]; exact hq)) ?_) (zS_push hS (by rw [e2, hP.1]) (fun q hq => e3 q (by rw [← hP.1]; exact hq))) hl
  · show zz h.2 h.1.length 1000000 = xs
    rw [zz_far (by omega)]
    exact h1
  · show zz h.2 h.1.length 1000001 0 = _
    rw [zz_far (by omega)]
    exact h2
  · show H'[E.1 + h.1.length]? = some (vp_cell (E.2.2.1 3) (x.toNatClampNeg, .inl (fun _ => 0)))
    rw [e1, hcA, vp_cell_i]
    rfl
theorem zsw_spec {x : Int32} {d : Nat} {f : Nat → Prop} : ∀ (ps : List (Int × Nat)), zsw x ps d f → ∃ t, f t ∧ ((∃ c, (c, t) ∈ ps ∧ x = Int32.ofInt c) ∨ (t = d ∧ ∀ q ∈ ps, ¬ x = Int32.ofInt q.1))
  | [], h => ⟨d, h, Or.inr ⟨rfl, fun _ q => by cases q⟩⟩
  | (c, t) :: r, h => by
    by_cases e : x = Int32.ofInt c
    · exact ⟨t, h.1 e, Or.inl ⟨c, List.mem_cons_self, e⟩⟩
    · obtain ⟨t', h1, h2⟩ := zsw_spec r (h.2 e)
      refine ⟨t', h1, ?_⟩
      rcases h2 with ⟨c', h3, h4⟩ | ⟨h3, h4⟩
      · exact Or.inl ⟨c', List.mem_cons_of_mem _ h3, h4⟩
      · refine Or.inr ⟨h3, fun q hq => ?_⟩
        rcases List.mem_cons.mp hq with rfl | hq
        · exact e
        · exact h4 q hq
theorem z32 {c : Int} (h1 : -2147483648 ≤ c) (h2 : c < 2147483648) : (Int32.ofInt c).toInt = c := Int32.toInt_ofInt_of_le h1 h2
theorem z32e (x : Int32) : x = Int32.ofInt x.toInt := (Int32.ofInt_toInt x).symm
theorem ZW.table {k : Nat} {g : Nat × Nat × Nat × Nat} {pc : Nat} {ls : zLs} {r : List Value} {h : zH} {Q : zQ} {x : Int32} {d lo hi : Int} {offs : Array Int} {len : Nat} (hh : hi = lo + (offs.size : Int) - 1) (hlo : -2147483648 ≤ lo) (hhi : hi < 2147483648) (hd0 : 0 < d) (hof : offs.toList.all (fun o => decide (0 < o)) = true) (hd : decode (zC k) pc = .ok (.tableswitch d lo hi offs, len)) (w : zsw x (offs.toList.zipIdx.map (fun q => (lo + (q.2 : Int), ztg pc q.1))) (ztg pc d) (fun t => ZW k g t ls r h Q)) : ZW k g pc ls (.int x :: r) h Q := by
  intro p l e s m args below meth cc E L xs H locs lsA hC hT h1 h2 hP hS hl
  obtain ⟨t, ht, hcase⟩ := zsw_spec _ w
  have hw := ht p l e s m args below meth cc E L xs H locs lsA hC hT h1 h2 hP hS hl
  rcases hcase with ⟨c, hm, hx⟩ | ⟨rfl, hno⟩
  · obtain ⟨q, hq, he⟩ := List.mem_map.mp hm
    obtain ⟨o, i⟩ := q
    rw [List.mem_zipIdx_iff_getElem?] at hq
    cases he
    have hi' : i < offs.toList.length := (List.getElem?_eq_some_iff.mp hq).1
    rw [Array.length_toList] at hi'
    have hx2 : x.toInt = lo + (i : Int) := by
      rw [hx]
      exact z32 (by omega) (by omega)
    have ho : (0 : Int) < o := by
      have := List.all_eq_true.mp hof o (List.mem_of_getElem? hq)
      simpa using this
    exact lv_tableIn hC.1 hC.2.1 hd (by omega) (by omega) (off := o) (by
      rw [show (x.toInt - lo).toNat = i by omega, ← Array.getElem?_toList]
      exact hq) (ztg_eq (by omega)) hw
  · refine lv_tableOut hC.1 hC.2.1 hd ?_ (ztg_eq (by omega)) hw
    apply Decidable.byContradiction
    intro hn
    have hi' : (x.toInt - lo).toNat < offs.toList.length := by
      rw [Array.length_toList]
      omega
    have hg : offs.toList[(x.toInt - lo).toNat]? = some offs.toList[(x.toInt - lo).toNat] := List.getElem?_eq_getElem hi'
    refine hno (lo + ((x.toInt - lo).toNat : Int), ztg pc offs.toList[(x.toInt - lo).toNat]) (List.mem_map.mpr ⟨(offs.toList[(x.toInt - lo).toNat], (x.toInt - lo).toNat), List.mem_zipIdx_iff_getElem?.mpr hg, rfl⟩) ?_
    show x = Int32.ofInt (lo + ((x.toInt - lo).toNat : Int))
    rw [show lo + ((x.toInt - lo).toNat : Int) = x.toInt by omega]
    exact z32e x
theorem zlook {x : Int32} {d : Int} {pc : Nat} {f : Nat → Prop} : ∀ (ps : List (Int × Int)), ps.all (fun q => decide (-2147483648 ≤ q.1 ∧ q.1 < 2147483648 ∧ 0 < q.2)) = true → 0 < d → zsw x (ps.map (fun q => (q.1, ztg pc q.2))) (ztg pc d) f → f (ztg pc (Op.lookupswitch.offset ps d x.toInt)) ∧ 0 < Op.lookupswitch.offset ps d x.toInt
  | [], _, hd, h => ⟨h, hd⟩
  | (c, o) :: r, ha, hd, h => by
    simp only [List.all_cons, Bool.and_eq_true, decide_eq_true_eq] at ha
    obtain ⟨⟨a1, a2, a3⟩, ha2⟩ := ha
    rw [Op.lookupswitch.offset_cons]
    by_cases e : c = x.toInt
    · rw [if_pos e]
      refine ⟨h.1 ?_, a3⟩
      rw [e]
      exact z32e x
    · rw [if_neg e]
      refine zlook r ha2 hd (h.2 (fun hx => e ?_))
      rw [hx]
      exact (z32 a1 a2).symm
theorem ZW.look {k : Nat} {g : Nat × Nat × Nat × Nat} {pc : Nat} {ls : zLs} {r : List Value} {h : zH} {Q : zQ} {x : Int32} {d : Int} {ps : Array (Int × Int)} {len : Nat} (hp : (ps.toList.zip (ps.toList.drop 1)).all (fun (a, next) => a.1 < next.1) = true) (hd0 : 0 < d) (hof : ps.toList.all (fun q => decide (-2147483648 ≤ q.1 ∧ q.1 < 2147483648 ∧ 0 < q.2)) = true) (hd : decode (zC k) pc = .ok (.lookupswitch d ps, len)) (w : zsw x (ps.toList.map (fun q => (q.1, ztg pc q.2))) (ztg pc d) (fun t => ZW k g t ls r h Q)) : ZW k g pc ls (.int x :: r) h Q := by
  intro p l e s m args below meth cc E L xs H locs lsA hC hT h1 h2 hP hS hl
  obtain ⟨ht, h0⟩ := zlook ps.toList hof hd0 w
  exact lv_lookup hC.1 hC.2.1 hd hp rfl (ztg_eq (by omega)) (ht p l e s m args below meth cc E L xs H locs lsA hC hT h1 h2 hP hS hl)
end
section
/-! String constants, and the library's methods that read them -/
theorem zSk_ok {o i j : Nat} (h : zSk o i = some j) : (o, i, j) ∈ zST := by
  unfold zSk at h
  rw [Option.map_eq_some_iff] at h
  obtain ⟨e, he, h2⟩ := h
  have hm := List.mem_of_find?_eq_some he
  have hi := List.find?_some he
  simp only [Bool.and_eq_true, beq_iff_eq] at hi
  cases h2
  rw [← hi.1, ← hi.2]
  exact hm
theorem zST_lt : ∀ e ∈ zST, e.2.2 < 5 := by decide
theorem zad_K {E : zE} {j : Nat} (h : j < 10) : zad E (1000010 + j) = E.2.2.2.2.1 j := by
  unfold zad
  rw [if_neg (by omega), if_neg (by omega), if_pos (by omega), Nat.add_sub_cancel_left]
theorem zad_V {E : zE} {j : Nat} : zad E (1000020 + j) = E.2.2.2.2.2 j := by
  unfold zad
  rw [if_neg (by omega), if_neg (by omega), if_neg (by omega), Nat.add_sub_cancel_left]
theorem zfw_val : (.fieldLink RJ0 9 "java/lang/String" "value" "[B" : Jvm.Cond) ∈ zTB := zin 1476 (by decide +kernel) rfl
theorem zfw_cod : (.fieldLink RJ0 15 "java/lang/String" "coder" "B" : Jvm.Cond) ∈ zTB := zin 1477 (by decide +kernel) rfl
theorem zfw_com : (.fieldLink RJ0 38 "java/lang/String" "COMPACT_STRINGS" "Z" : Jvm.Cond) ∈ zTB := zin 527 (by decide +kernel) rfl
theorem zfw_fmt : (.fieldLink RJ0 1053 "jdk/internal/util/Preconditions" "SIOOBE_FORMATTER" "Ljava/util/function/BiFunction;" : Jvm.Cond) ∈ zTB := zin 535 (by decide +kernel) rfl
theorem ZW.ldcS {k : Nat} {g : Nat × Nat × Nat × Nat} {pc : Nat} {ls : zLs} {r : List Value} {h : zH} {Q : zQ} {i j : Nat} (hv : zSk (zO k) i = some j) (hd : decode (zC k) pc = .ok (.ldc i, 2)) (w : ZW k g (pc + 2) ls (.ref (1000010 + j) :: r) h Q) : ZW k g pc ls r h Q := by
  intro p l e s m args below meth cc E L xs H locs lsA hC hT h1 h2 hP hS hl
  have hs := hT.2.2.2.2.2.2
  have hm := zSk_ok hv
  have hj := zST_lt _ hm
  have hZ := hs.2.1 _ hm
  have h9 := w p l e s m args below meth cc E L xs H locs lsA hC hT h1 h2 hP hS hl
  rw [List.map_cons, zref_v hP, zad_K (show j < 10 by simp only at hj; omega)] at h9
  intro T hT X
  obtain ⟨t, a1, b1⟩ := h9 T hT X
  exact ⟨t, X.ldcString hC.1 hC.2.2.2.2.2.1 (text := zTx j) (a := E.2.2.2.2.1 j) hZ.1 hZ.2 (g := F0 m pc lsA (r.map (zv E))) rfl (by rw [hC.2.1]; exact hd) t a1, b1⟩
theorem ZW.ldcwS {k : Nat} {g : Nat × Nat × Nat × Nat} {pc : Nat} {ls : zLs} {r : List Value} {h : zH} {Q : zQ} {i j : Nat} (hv : zSk (zO k) i = some j) (hd : decode (zC k) pc = .ok (.ldc_w i, 3)) (w : ZW k g (pc + 3) ls (.ref (1000010 + j) :: r) h Q) : ZW k g pc ls r h Q := by
  intro p l e s m args below meth cc E L xs H locs lsA hC hT h1 h2 hP hS hl
  have hs := hT.2.2.2.2.2.2
  have hm := zSk_ok hv
  have hj := zST_lt _ hm
  have hZ := hs.2.1 _ hm
  have h9 := w p l e s m args below meth cc E L xs H locs lsA hC hT h1 h2 hP hS hl
  rw [List.map_cons, zref_v hP, zad_K (show j < 10 by simp only at hj; omega)] at h9
  intro T hT X
  obtain ⟨t, a1, b1⟩ := h9 T hT X
  exact ⟨t, X.ldcStringW hC.1 hC.2.2.2.2.2.1 (text := zTx j) (a := E.2.2.2.2.1 j) hZ.1 hZ.2 (g := F0 m pc lsA (r.map (zv E))) rfl (by rw [hC.2.1]; exact hd) t a1, b1⟩
/-! instructions on them -/
theorem ZW.strVal {k : Nat} {g : Nat × Nat × Nat × Nat} {pc : Nat} {ls : zLs} {r : List Value} {h : zH} {Q : zQ} {j : Nat} (ho : zO k = 13) (hj : j < 5) (hd : decode (zC k) pc = .ok (.getfield 9, 3)) (w : ZW k g (pc + 3) ls (.ref (1000020 + j) :: r) h Q) : ZW k g pc ls (.ref (1000010 + j) :: r) h Q := by
  intro p l e s m args below meth cc E L xs H locs lsA hC hT h1 h2 hP hS hl
  have hs := hT.2.2.2.2.2.2
  have hown := hC.2.2.2.2.2.1
  rw [ho] at hown
  have hts := hC.2.2.2.2.2.2.1
  have h9 := w p l e s m args below meth cc E L xs H locs lsA hC hT h1 h2 hP hS hl
  rw [List.map_cons, zref_v hP, zad_V] at h9
  rw [List.map_cons, zref_v hP, zad_K (by omega)]
  exact vk_getf (own := RJ0) hC.1 hC.2.1 (hs.1.1 j hj).2.2.1 hS hown (hts _ zfw_val) (fun _ h => h) hd h9
theorem ZW.strCod {k : Nat} {g : Nat × Nat × Nat × Nat} {pc : Nat} {ls : zLs} {r : List Value} {h : zH} {Q : zQ} {j : Nat} (ho : zO k = 13) (hj : j < 5) (hd : decode (zC k) pc = .ok (.getfield 15, 3)) (w : ZW k g (pc + 3) ls (.int 0 :: r) h Q) : ZW k g pc ls (.ref (1000010 + j) :: r) h Q := by
  intro p l e s m args below meth cc E L xs H locs lsA hC hT h1 h2 hP hS hl
  have hs := hT.2.2.2.2.2.2
  have hown := hC.2.2.2.2.2.1
  rw [ho] at hown
  have hts := hC.2.2.2.2.2.2.1
  have h9 := w p l e s m args below meth cc E L xs H locs lsA hC hT h1 h2 hP hS hl
  rw [List.map_cons, zref_v hP, zad_K (by omega)]
  exact vk_getf (own := RJ0) hC.1 hC.2.1 (hs.1.1 j hj).2.1 hS hown (hts _ zfw_cod) (fun _ h => h) hd h9
theorem ZW.strCom {k : Nat} {g : Nat × Nat × Nat × Nat} {pc : Nat} {ls : zLs} {r : List Value} {h : zH} {Q : zQ} (ho : zO k = 13) (hd : decode (zC k) pc = .ok (.getstatic 38, 3)) (w : ZW k g (pc + 3) ls (.int 1 :: r) h Q) : ZW k g pc ls r h Q := by
  intro p l e s m args below meth cc E L xs H locs lsA hC hT h1 h2 hP hS hl
  have hs := hT.2.2.2.2.2.2
  have hown := hC.2.2.2.2.2.1
  rw [ho] at hown
  have hts := hC.2.2.2.2.2.2.1
  have h9 := w p l e s m args below meth cc E L xs H locs lsA hC hT h1 h2 hP hS hl
  exact va_gets (own := RJ0) hC.1 hC.2.1 hs.2.2.1 hS hown (hts _ zfw_com) (fun _ h => h) hd h9
theorem ZW.strFmt {k : Nat} {g : Nat × Nat × Nat × Nat} {pc : Nat} {ls : zLs} {r : List Value} {h : zH} {Q : zQ} (ho : zO k = 13) (hd : decode (zC k) pc = .ok (.getstatic 1053, 3)) (w0 : ZW k g (pc + 3) ls (.null :: r) h Q) (w : ZW k g (pc + 3) ls (.ref 1000019 :: r) h Q) : ZW k g pc ls r h Q := by
  intro p l e s m args below meth cc E L xs H locs lsA hC hT h1 h2 hP hS hl
  have hs := hT.2.2.2.2.2.2
  have hown := hC.2.2.2.2.2.1
  rw [ho] at hown
  have hts := hC.2.2.2.2.2.2.1
  rcases hs.2.2.2.1 with hz | hz
  · have h9 := w0 p l e s m args below meth cc E L xs H locs lsA hC hT h1 h2 hP hS hl
    exact va_gets (own := RJ0) hC.1 hC.2.1 hz hS hown (hts _ zfw_fmt) (fun _ h => h) hd h9
  · have h9 := w p l e s m args below meth cc E L xs H locs lsA hC hT h1 h2 hP hS hl
    rw [List.map_cons, zref_v hP, show (1000019 : Nat) = 1000010 + 9 from rfl, zad_K (by omega)] at h9
    exact va_gets (own := RJ0) hC.1 hC.2.1 hz hS hown (hts _ zfw_fmt) (fun _ h => h) hd h9
theorem ZW.strAl {k : Nat} {g : Nat × Nat × Nat × Nat} {pc : Nat} {ls : zLs} {r : List Value} {h : zH} {Q : zQ} {j : Nat} (hj : j < 5) (hd : decode (zC k) pc = .ok (.arraylength, 1)) (w : ZW k g (pc + 1) ls (.int (Int32.ofNat (zLn.getD j 0)) :: r) h Q) : ZW k g pc ls (.ref (1000020 + j) :: r) h Q := by
  intro p l e s m args below meth cc E L xs H locs lsA hC hT h1 h2 hP hS hl
  have hs := hT.2.2.2.2.2.2
  have h9 := w p l e s m args below meth cc E L xs H locs lsA hC hT h1 h2 hP hS hl
  rw [List.map_cons, zref_v hP, zad_V]
  exact va_tlen hC.1 hC.2.1 (hs.1.1 j hj).2.2.2 hS rfl hd h9
theorem ZW.strB {k : Nat} {g : Nat × Nat × Nat × Nat} {pc : Nat} {ls : zLs} {r : List Value} {h : zH} {Q : zQ} {j : Nat} {i : Int32} (hj : j < 5) (hi : vp_in i (zLn.getD j 0)) (hd : decode (zC k) pc = .ok (.baload, 1)) (w : ZW k g (pc + 1) ls (.int ((zBy.getD j []).getD i.toNatClampNeg 0) :: r) h Q) : ZW k g pc ls (.int i :: .ref (1000020 + j) :: r) h Q := by
  intro p l e s m args below meth cc E L xs H locs lsA hC hT h1 h2 hP hS hl
  have hs := hT.2.2.2.2.2.2
  have h9 := w p l e s m args below meth cc E L xs H locs lsA hC hT h1 h2 hP hS hl
  rw [List.map_cons, List.map_cons, zref_v hP, zad_V]
  exact va_tb hC.1 hC.2.1 (hs.1.1 j hj).2.2.2 hS hi rfl hd h9
theorem ZW.nret {k : Nat} {g : Nat × Nat × Nat × Nat} {pc : Nat} {ls : zLs} {h : zH} {Q : zQ} {v : Int32} {ty : FieldType} (hr : zRt k = some ty) (hv : narrow ty (.int v) = .int v) (hgc : g.2.2.1 ≤ g.1 ∧ g.2.2.2 ≤ g.2.1) (hd : decode (zC k) pc = .ok (.ireturn, 1)) (w : Q (some (.int v)) h) : ZW k g pc ls [.int v] h Q := by
  intro p l e s m args below meth cc E L xs H locs lsA hC hT h1 h2 hP hS hl
  refine W.widen (k := g.1) (n := g.2.1) hgc.1 hgc.2 ?_
  have hlk : meth.locks = false := hC.2.2.2.2.1
  exact W.zret (ty := ty) hC.1 hC.2.1 (hC.2.2.2.1.trans hr) hv (fun t ht hW => ⟨some (.int v), h, w, rfl, by rw [ht]; exact hP, h1, h2, hS.F ht⟩) hS.2.2 hd hlk
theorem ZW.callStr {k : Nat} {g : Nat × Nat × Nat × Nat} {pc : Nat} {ls : zLs} {h : zH} {Q : zQ} {x j a : Nat} {as rest : List Value} (hlk : zLk (zO k) x = some j) (hm0 : zmo j = true) (hj : j < 999) (h13 : zO j = 13) (ha : a < 5) (hst : zSt j = false) (hni : (zY j).name ≠ "<init>") (hr : zcr k j rest = true) (hsl : zsl (.ref (1000010 + a) :: as) ≤ zL j) (hna : as.length + 1 = zNa j) (hgc : g.2.2.1 ≤ g.1 ∧ g.2.2.2 ≤ g.2.1) (hd : decode (zC k) pc = .ok (.invokevirtual x, 3))
    (w : ZM j 0 0 (.ref (1000010 + a) :: as) h (fun r h => ZW k g (pc + 3) ls (r.toList ++ rest) h Q)) : ZW k g pc ls (as.reverse ++ .ref (1000010 + a) :: rest) h Q := by
  intro p l e s m args below meth cc E L xs H locs lsA hC hT h1 h2 hP hS hl
  have hm := hm0
  simp only [zmo, Bool.and_eq_true, decide_eq_true_eq, hst, Bool.false_eq_true, if_false, Bool.or_eq_true, hni, false_or] at hm
  obtain ⟨⟨⟨⟨⟨⟨⟨⟨hcode, hin, hsel⟩, hcls⟩, h18⟩, hpl⟩, hm1⟩, hm2⟩, hpar⟩, -⟩ := hm
  obtain ⟨hr1, hr2, hr3⟩ := zcr_ok hr
  have hts := hC.2.2.2.2.2.2.1
  have hcodeT := zin _ hcode rfl
  have hinT := zin _ hin rfl
  have hselT := zin _ hsel rfl
  have hiniT := zini (zO j) h18
  have hlink : (.methodLink (zRN (zO k)) x (zY j) : Jvm.Cond) ∈ zTB := by
    rcases zLk_ok hlk with ⟨q, -⟩ | ⟨-, -, q | q⟩
    · omega
    · exact q
    · rw [hst] at q
      cases q.2
  have hrecv := vk_recv (i := a) hT.2.2.2.2.2.2.1 ha hS
  have hrecv2 : ∃ cell : Cell, H[E.2.2.2.2.1 a]? = some cell ∧ cell.vm.isStatics = false ∧ s.vm.findClass (zRN (zO j)) = some cell.cls := by
    rw [h13]
    exact hrecv
  have hst2 : (as.reverse ++ Value.ref (1000010 + a) :: rest).map (zv E) = (as.map (zv E)).reverse ++ Value.ref (E.2.2.2.2.1 a) :: rest.map (zv E) := by
    rw [List.map_append, List.map_reverse, List.map_cons]
    show _ ++ Value.ref (zad E (1000010 + a)) :: _ = _
    rw [zad_K (by omega)]
  rw [hst2]
  have hM := zMet w hm0 hsl l E L xs h1 h2
  have hargs : (Value.ref (1000010 + a) :: as).map (zv E) = Value.ref (E.2.2.2.2.1 a) :: as.map (zv E) := by
    rw [List.map_cons]
    show Value.ref (zad E (1000010 + a)) :: _ = _
    rw [zad_K (by omega)]
  rw [hargs] at hM
  refine zcont (va_runV (C := zRN (zO j)) (As := as.map (zv E)) (n := zNa j - 1) ⟨hC.1, hC.2.1, hC.2.2.1, hC.2.2.2.2.2.1, hts⟩ hM (cwV (zNa j - 1) hts (zGd (fun w hw => ?_)) rfl rfl rfl ⟨hcls, hm1, hm2, hpar⟩ ⟨hr1, hr2⟩) ⟨fun a U g mk q => ⟨q.1, zT_call q.2.1, q.2.2⟩, hrecv2, fun U hU hW => ⟨rfl, zT_warm hT hP hS hU hW, by rw [hU]; exact hP⟩⟩ rfl (by rw [List.length_map]; omega) hl.1 rfl (lv_room (by rw [zcs_map]; exact hr3)) hd hgc) hS (fun r h' H1 locs1 hq hP1 hx1 hx2 hS1 => ?_)
  · simp only [wsV, List.mem_append, List.mem_cons, List.not_mem_nil, or_false] at hw
    rcases hw with (rfl | rfl | rfl | rfl) | rfl | hw
    · exact hlink
    · exact hinT
    · rw [hcls] at hselT
      exact hselT
    · exact hiniT
    · exact hcodeT
    · exact hw
  · rw [zap_map]
    exact hq p l e s m args below meth cc E L xs H1 locs1 lsA hC hT hx1 hx2 hP1 hS1 hl
/-! the library's methods -/
theorem zm28 (j : Nat) (h : j ∈ [220, 221, 222, 223, 224, 225, 226, 231]) : zmo j = true := List.all_eq_true.mp zmo_28 j h
theorem zs_223 {j : Nat} (hj : j < 5) {h : zH} {Q : zQ} (hq : Q (some (.int 0)) h) : ZM 223 0 0 [.ref (1000010 + j)] h Q := by
  unfold ZM
  refine ZW.strCom rfl (by decide +kernel) ?_
  refine ZW.ifc (o := .eq) (off := 10) (by decide) (by decide +kernel) (fun hc => absurd (show (1 : Int32) = 0 from hc) (by decide)) (fun _ => ?_)
  refine ZW.aload_n (i := 0) (x := 1000010 + j) (List.Mem.head _) (by decide +kernel) ?_
  refine ZW.strCod rfl hj (by decide +kernel) ?_
  refine ZW.goto (off := 4) (by decide) (by decide +kernel) ?_
  exact ZW.nret (ty := .byte) rfl rfl ⟨Nat.le_refl _, Nat.le_refl _⟩ (by decide +kernel) hq
theorem zs_224 {j : Nat} (hj : j < 5) {h : zH} {Q : zQ} (hq : Q (some (.int 1)) h) : ZM 224 0 0 [.ref (1000010 + j)] h Q := by
  unfold ZM
  refine ZW.strCom rfl (by decide +kernel) ?_
  refine ZW.ifc (o := .eq) (off := 14) (by decide) (by decide +kernel) (fun hc => absurd (show (1 : Int32) = 0 from hc) (by decide)) (fun _ => ?_)
  refine ZW.aload_n (i := 0) (x := 1000010 + j) (List.Mem.head _) (by decide +kernel) ?_
  refine ZW.strCod rfl hj (by decide +kernel) ?_
  refine ZW.ifc (o := .ne) (off := 7) (by decide) (by decide +kernel) (fun hc => absurd rfl hc) (fun _ => ?_)
  refine ZW.iconst (c := 1) (by decide +kernel) ?_
  refine ZW.goto (off := 4) (by decide) (by decide +kernel) ?_
  exact ZW.zret rfl (Or.inr rfl) ⟨Nat.le_refl _, Nat.le_refl _⟩ (by decide +kernel) hq
theorem zs_220 {j : Nat} (hj : j < 5) {h : zH} {Q : zQ} (hq : Q (some (.int (Int32.ofNat (zSS.getD j []).length))) h) : ZM 220 0 0 [.ref (1000010 + j)] h Q := by
  have he : Int32.ofNat (zLn.getD j 0) >>> ((0 : Int32) &&& 31) = Int32.ofNat (zSS.getD j []).length := by
    have : ∀ j : Fin 5, Int32.ofNat (zLn.getD j.val 0) >>> ((0 : Int32) &&& 31) = Int32.ofNat (zSS.getD j.val []).length := by decide
    exact this ⟨j, hj⟩
  rw [← he] at hq
  unfold ZM
  refine ZW.aload_n (i := 0) (x := 1000010 + j) (List.Mem.head _) (by decide +kernel) ?_
  refine ZW.strVal rfl hj (by decide +kernel) ?_
  refine ZW.strAl hj (by decide +kernel) ?_
  refine ZW.aload_n (i := 0) (x := 1000010 + j) (List.Mem.head _) (by decide +kernel) ?_
  refine ZW.callStr (x := 335) (j := 223) (as := []) (by decide +kernel) (zm28 223 (by decide)) (by decide) rfl hj (by decide +kernel) (by decide +kernel) rfl (Nat.le_of_ble_eq_true rfl) rfl ⟨Nat.le_refl _, Nat.le_refl _⟩ (by decide +kernel) ?_
  refine zs_223 hj ?_
  refine ZW.ishr (by decide +kernel) ?_
  exact ZW.iret rfl ⟨Nat.le_refl _, Nat.le_refl _⟩ (by decide +kernel) hq
theorem zs_221 {j : Nat} (hj : j < 5) {h : zH} {Q : zQ} (hq : Q (some (.int (if (zSS.getD j []).length = 0 then 1 else 0))) h) : ZM 221 0 0 [.ref (1000010 + j)] h Q := by
  unfold ZM
  refine ZW.aload_n (i := 0) (x := 1000010 + j) (List.Mem.head _) (by decide +kernel) ?_
  refine ZW.strVal rfl hj (by decide +kernel) ?_
  refine ZW.strAl hj (by decide +kernel) ?_
  have hz : ¬ Int32.ofNat (zLn.getD j 0) = 0 ↔ ¬ (zSS.getD j []).length = 0 := by
    have : ∀ j : Fin 5, ¬ Int32.ofNat (zLn.getD j.val 0) = 0 ↔ ¬ (zSS.getD j.val []).length = 0 := by decide
    exact this ⟨j, hj⟩
  refine ZW.ifc (o := .ne) (off := 7) (by decide) (by decide +kernel) (fun hc => ?_) (fun hc => ?_)
  · rw [if_neg (hz.mp hc)] at hq
    refine ZW.iconst (c := 0) (by decide +kernel) ?_
    exact ZW.zret rfl (Or.inl rfl) ⟨Nat.le_refl _, Nat.le_refl _⟩ (by decide +kernel) hq
  · rw [if_pos (Classical.byContradiction (fun hn => hc (hz.mpr hn)))] at hq
    refine ZW.iconst (c := 1) (by decide +kernel) ?_
    refine ZW.goto (off := 4) (by decide) (by decide +kernel) ?_
    exact ZW.zret rfl (Or.inr rfl) ⟨Nat.le_refl _, Nat.le_refl _⟩ (by decide +kernel) hq
theorem zs_231 {i n : Int32} {v : Value} (h0 : ¬ i < 0) (h1 : i < n) {h : zH} {Q : zQ} (hq : Q (some (.int i)) h) : ZM 231 0 0 [.int i, .int n, v] h Q := by
  unfold ZM
  refine ZW.iload_n (i := 0) (x := i) (List.Mem.head _) (by decide +kernel) ?_
  refine ZW.ifc (o := .lt) (off := 8) (by decide) (by decide +kernel) (fun hc => absurd hc h0) (fun _ => ?_)
  refine ZW.iload_n (i := 0) (x := i) (List.Mem.head _) (by decide +kernel) ?_
  refine ZW.iload_n (i := 1) (x := n) (List.Mem.tail _ (List.Mem.head _)) (by decide +kernel) ?_
  refine ZW.icmp (o := .lt) (off := 10) (by decide) (by decide +kernel) (fun _ => ?_) (fun hc => absurd h1 hc)
  refine ZW.iload_n (i := 0) (x := i) (List.Mem.head _) (by decide +kernel) ?_
  exact ZW.iret rfl ⟨Nat.le_refl _, Nat.le_refl _⟩ (by decide +kernel) hq
theorem zs_225 {i n : Int32} (h0 : ¬ i < 0) (h1 : i < n) {h : zH} {Q : zQ} (hq : Q none h) : ZM 225 0 0 [.int i, .int n] h Q := by
  unfold ZM
  refine ZW.iload_n (i := 0) (x := i) (List.Mem.head _) (by decide +kernel) ?_
  refine ZW.iload_n (i := 1) (x := n) (List.Mem.tail _ (List.Mem.head _)) (by decide +kernel) ?_
  refine ZW.strFmt rfl (by decide +kernel) ?_ ?_
  · refine ZW.callSm (x := 1059) (j := 231) (as := [.int i, .int n, .null]) (rest := []) (by decide +kernel) (zm28 231 (by decide)) (by decide) (by decide +kernel) rfl (Nat.le_of_ble_eq_true rfl) rfl ⟨Nat.le_refl _, Nat.le_refl _⟩ (by decide +kernel) ?_
    refine zs_231 h0 h1 ?_
    refine ZW.pop (v := .int i) rfl (by decide +kernel) ?_
    exact ZW.vret rfl ⟨Nat.le_refl _, Nat.le_refl _⟩ (by decide +kernel) hq
  · refine ZW.callSm (x := 1059) (j := 231) (as := [.int i, .int n, .ref 1000019]) (rest := []) (by decide +kernel) (zm28 231 (by decide)) (by decide) (by decide +kernel) rfl (Nat.le_of_ble_eq_true rfl) rfl ⟨Nat.le_refl _, Nat.le_refl _⟩ (by decide +kernel) ?_
    refine zs_231 h0 h1 ?_
    refine ZW.pop (v := .int i) rfl (by decide +kernel) ?_
    exact ZW.vret rfl ⟨Nat.le_refl _, Nat.le_refl _⟩ (by decide +kernel) hq
theorem zvp_lt {i : Int32} {n : Nat} (h : vp_in i n) (hn : n < 2147483648) : ¬ i < 0 ∧ i < Int32.ofNat n := by
  have h1 : ¬ i < 0 := fun q => h (Or.inl q)
  have h2 : i.toNatClampNeg < n := Nat.lt_of_not_le (fun q => h (Or.inr q))
  refine ⟨h1, ?_⟩
  have h3 : 0 ≤ i.toInt := by
    have := Int32.le_iff_toInt_le.mp (Int32.not_lt.mp h1)
    simpa using this
  apply Int32.lt_iff_toInt_lt.mpr
  rw [Int32.toInt_ofNat_of_lt hn]
  simp only [Int32.toNatClampNeg] at h2
  omega
theorem zs_226 {j : Nat} {i : Int32} (hj : j < 5) (hi : vp_in i (zLn.getD j 0)) {h : zH} {Q : zQ} (hq : Q (some (.int (zSc (1000010 + j) i.toNatClampNeg))) h) : ZM 226 0 0 [.ref (1000020 + j), .int i] h Q := by
  have hL : zLn.getD j 0 ≤ 5 := by
    have : ∀ j : Fin 5, zLn.getD j.val 0 ≤ 5 := by decide
    exact this ⟨j, hj⟩
  obtain ⟨q0, q1⟩ := zvp_lt hi (by omega)
  have hn : i.toNatClampNeg < 5 := Nat.lt_of_lt_of_le (Nat.lt_of_not_le (fun q => hi (Or.inr q))) hL
  have hb : (((zBy.getD j []).getD i.toNatClampNeg 0 &&& (Int16.ofInt 255).toInt32).toUInt32 % 65536).toInt32 = zSc (1000010 + j) i.toNatClampNeg ∧ narrow .char (.int (zSc (1000010 + j) i.toNatClampNeg)) = .int (zSc (1000010 + j) i.toNatClampNeg) := by
    have : ∀ (j n : Fin 5), (((zBy.getD j.val []).getD n.val 0 &&& (Int16.ofInt 255).toInt32).toUInt32 % 65536).toInt32 = zSc (1000010 + j.val) n.val ∧ narrow .char (.int (zSc (1000010 + j.val) n.val)) = .int (zSc (1000010 + j.val) n.val) := by decide +kernel
    exact this ⟨j, hj⟩ ⟨_, hn⟩
  unfold ZM
  refine ZW.iload_n (i := 1) (x := i) (List.Mem.tail _ (List.Mem.head _)) (by decide +kernel) ?_
  refine ZW.aload_n (i := 0) (x := 1000020 + j) (List.Mem.head _) (by decide +kernel) ?_
  refine ZW.strAl hj (by decide +kernel) ?_
  refine ZW.callSm (x := 9) (j := 225) (as := [.int i, .int (Int32.ofNat (zLn.getD j 0))]) (rest := []) (by decide +kernel) (zm28 225 (by decide)) (by decide) (by decide +kernel) rfl (Nat.le_of_ble_eq_true rfl) rfl ⟨Nat.le_refl _, Nat.le_refl _⟩ (by decide +kernel) ?_
  refine zs_225 q0 q1 ?_
  refine ZW.aload_n (i := 0) (x := 1000020 + j) (List.Mem.head _) (by decide +kernel) ?_
  refine ZW.iload_n (i := 1) (x := i) (List.Mem.tail _ (List.Mem.head _)) (by decide +kernel) ?_
  refine ZW.strB hj hi (by decide +kernel) ?_
  refine ZW.sipush (c := 255) (by decide +kernel) ?_
  refine ZW.iand (by decide +kernel) ?_
  refine ZW.i2c (by decide +kernel) ?_
  rw [hb.1]
  exact ZW.nret (ty := .char) rfl hb.2 ⟨Nat.le_refl _, Nat.le_refl _⟩ (by decide +kernel) hq
theorem zs_222 {j : Nat} {i : Int32} (hj : j < 5) (hi : vp_in i (zLn.getD j 0)) {h : zH} {Q : zQ} (hq : Q (some (.int (zSc (1000010 + j) i.toNatClampNeg))) h) : ZM 222 0 0 [.ref (1000010 + j), .int i] h Q := by
  have hL : zLn.getD j 0 ≤ 5 := by
    have : ∀ j : Fin 5, zLn.getD j.val 0 ≤ 5 := by decide
    exact this ⟨j, hj⟩
  have hn : i.toNatClampNeg < 5 := Nat.lt_of_lt_of_le (Nat.lt_of_not_le (fun q => hi (Or.inr q))) hL
  have hb : narrow .char (.int (zSc (1000010 + j) i.toNatClampNeg)) = .int (zSc (1000010 + j) i.toNatClampNeg) := by
    have : ∀ (j n : Fin 5), narrow .char (.int (zSc (1000010 + j.val) n.val)) = .int (zSc (1000010 + j.val) n.val) := by decide +kernel
    exact this ⟨j, hj⟩ ⟨_, hn⟩
  unfold ZM
  refine ZW.aload_n (i := 0) (x := 1000010 + j) (List.Mem.head _) (by decide +kernel) ?_
  refine ZW.callStr (x := 492) (j := 224) (as := []) (rest := []) (by decide +kernel) (zm28 224 (by decide)) (by decide) rfl hj (by decide +kernel) (by decide +kernel) rfl (Nat.le_of_ble_eq_true rfl) rfl ⟨Nat.le_refl _, Nat.le_refl _⟩ (by decide +kernel) ?_
  refine zs_224 hj ?_
  refine ZW.ifc (o := .eq) (off := 12) (by decide) (by decide +kernel) (fun hc => absurd (show (1 : Int32) = 0 from hc) (by decide)) (fun _ => ?_)
  refine ZW.aload_n (i := 0) (x := 1000010 + j) (List.Mem.head _) (by decide +kernel) ?_
  refine ZW.strVal rfl hj (by decide +kernel) ?_
  refine ZW.iload_n (i := 1) (x := i) (List.Mem.tail _ (List.Mem.head _)) (by decide +kernel) ?_
  refine ZW.callSm (x := 495) (j := 226) (as := [.ref (1000020 + j), .int i]) (rest := []) (by decide +kernel) (zm28 226 (by decide)) (by decide) (by decide +kernel) rfl (Nat.le_of_ble_eq_true rfl) rfl ⟨Nat.le_refl _, Nat.le_refl _⟩ (by decide +kernel) ?_
  refine zs_226 hj hi ?_
  exact ZW.nret (ty := .char) rfl hb ⟨Nat.le_refl _, Nat.le_refl _⟩ (by decide +kernel) hq
/-! the three calls that the class makes -/
theorem zSn_ok {a n : Nat} (h : zSn a = some n) : ∃ j, j < 5 ∧ a = 1000010 + j ∧ n = (zSS.getD j []).length := by
  unfold zSn at h
  split at h
  · rename_i q
    refine ⟨a - 1000010, by omega, by omega, (Option.some.inj h).symm⟩
  · cases h
theorem zLn_len {j : Nat} (hj : j < 5) : zLn.getD j 0 = (zSS.getD j []).length := by
  have : ∀ j : Fin 5, zLn.getD j.val 0 = (zSS.getD j.val []).length := by decide
  exact this ⟨j, hj⟩
theorem ZW.strLen {k : Nat} {g : Nat × Nat × Nat × Nat} {pc : Nat} {ls : zLs} {r : List Value} {h : zH} {Q : zQ} {x a n : Nat} (hlk : zLk (zO k) x = some 220) (hn : zSn a = some n) (hgc : g.2.2.1 ≤ g.1 ∧ g.2.2.2 ≤ g.2.1) (hr : zcr k 220 r = true) (hd : decode (zC k) pc = .ok (.invokevirtual x, 3)) (w : ZW k g (pc + 3) ls (.int (Int32.ofNat n) :: r) h Q) : ZW k g pc ls (.ref a :: r) h Q := by
  obtain ⟨j, hj, rfl, rfl⟩ := zSn_ok hn
  exact ZW.callStr (j := 220) (as := []) (rest := r) hlk (zm28 220 (by decide)) (by decide) rfl hj (by decide +kernel) (by decide +kernel) hr (Nat.le_of_ble_eq_true rfl) rfl hgc hd (zs_220 hj w)
theorem ZW.strEmpty {k : Nat} {g : Nat × Nat × Nat × Nat} {pc : Nat} {ls : zLs} {r : List Value} {h : zH} {Q : zQ} {x a n : Nat} (hlk : zLk (zO k) x = some 221) (hn : zSn a = some n) (hgc : g.2.2.1 ≤ g.1 ∧ g.2.2.2 ≤ g.2.1) (hr : zcr k 221 r = true) (hd : decode (zC k) pc = .ok (.invokevirtual x, 3)) (w : ZW k g (pc + 3) ls (.int (if n = 0 then 1 else 0) :: r) h Q) : ZW k g pc ls (.ref a :: r) h Q := by
  obtain ⟨j, hj, rfl, rfl⟩ := zSn_ok hn
  exact ZW.callStr (j := 221) (as := []) (rest := r) hlk (zm28 221 (by decide)) (by decide) rfl hj (by decide +kernel) (by decide +kernel) hr (Nat.le_of_ble_eq_true rfl) rfl hgc hd (zs_221 hj w)
theorem ZW.strChar {k : Nat} {g : Nat × Nat × Nat × Nat} {pc : Nat} {ls : zLs} {r : List Value} {h : zH} {Q : zQ} {x a n : Nat} {i : Int32} (hlk : zLk (zO k) x = some 222) (hn : zSn a = some n) (hgc : g.2.2.1 ≤ g.1 ∧ g.2.2.2 ≤ g.2.1) (hr : zcr k 222 r = true) (hi : vp_in i n) (hd : decode (zC k) pc = .ok (.invokevirtual x, 3)) (w : ZW k g (pc + 3) ls (.int (zSc a i.toNatClampNeg) :: r) h Q) : ZW k g pc ls (.int i :: .ref a :: r) h Q := by
  obtain ⟨j, hj, rfl, rfl⟩ := zSn_ok hn
  rw [← zLn_len hj] at hi
  exact ZW.callStr (j := 222) (as := [.int i]) (rest := r) hlk (zm28 222 (by decide)) (by decide) rfl hj (by decide +kernel) (by decide +kernel) hr (Nat.le_of_ble_eq_true rfl) rfl hgc hd (zs_222 hj hi w)
end
