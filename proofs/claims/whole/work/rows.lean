section
/-- a private method of a class that the tables say can be made, by its rows of tables_1 -/
def lw_okq (q : MethodName × Nat) : Prop := (q.1.cls ≠ "java/lang/invoke/MethodHandle" ∧ q.1.cls ≠ "java/lang/invoke/VarHandle") ∧ Cond.instantiable q.1.cls q.2 ∈ tables_1 ∧ Cond.privateMethod q.1 ∈ tables_1 ∧ Cond.instanceMethod q.1 ∈ tables_1
theorem lw_p0 : lw_okq (⟨"java/lang/Throwable", "fillInStackTrace", "(I)Ljava/lang/Throwable;"⟩, 6) := ⟨⟨by decide +kernel, by decide +kernel⟩, List.mem_of_getElem? (i := 252) (by decide +kernel), List.mem_of_getElem? (i := 250) (by decide +kernel), List.mem_of_getElem? (i := 251) (by decide +kernel)⟩
theorem lw_p1 : lw_okq (⟨"ClaimTriangle", "enter", "(IIIIZ)I"⟩, 4) := ⟨⟨by decide +kernel, by decide +kernel⟩, List.mem_of_getElem? (i := 17) (by decide +kernel), List.mem_of_getElem? (i := 282) (by decide +kernel), List.mem_of_getElem? (i := 283) (by decide +kernel)⟩
theorem lw_p2 : lw_okq (⟨"ClaimTriangle$Triangle", "clear", "()V"⟩, 7) := ⟨⟨by decide +kernel, by decide +kernel⟩, List.mem_of_getElem? (i := 71) (by decide +kernel), List.mem_of_getElem? (i := 316) (by decide +kernel), List.mem_of_getElem? (i := 317) (by decide +kernel)⟩
theorem lw_p3 : lw_okq (⟨"ClaimTriangle$Triangle", "add", "(III)V"⟩, 7) := ⟨⟨by decide +kernel, by decide +kernel⟩, List.mem_of_getElem? (i := 71) (by decide +kernel), List.mem_of_getElem? (i := 324) (by decide +kernel), List.mem_of_getElem? (i := 325) (by decide +kernel)⟩
theorem lw_p4 : lw_okq (⟨"ClaimTriangle$Triangle", "addEstimate", "(LClaimTriangle$Ledger;I)V"⟩, 7) := ⟨⟨by decide +kernel, by decide +kernel⟩, List.mem_of_getElem? (i := 71) (by decide +kernel), List.mem_of_getElem? (i := 328) (by decide +kernel), List.mem_of_getElem? (i := 329) (by decide +kernel)⟩
theorem lw_p5 : lw_okq (⟨"ClaimTriangle$Ledger", "replaces", "(II)Z"⟩, 7) := ⟨⟨by decide +kernel, by decide +kernel⟩, List.mem_of_getElem? (i := 25) (by decide +kernel), List.mem_of_getElem? (i := 336) (by decide +kernel), List.mem_of_getElem? (i := 337) (by decide +kernel)⟩
theorem lw_p6 : lw_okq (⟨"ClaimTriangle$Triangle", "accumulate", "()V"⟩, 7) := ⟨⟨by decide +kernel, by decide +kernel⟩, List.mem_of_getElem? (i := 71) (by decide +kernel), List.mem_of_getElem? (i := 341) (by decide +kernel), List.mem_of_getElem? (i := 342) (by decide +kernel)⟩
theorem lw_p7 : lw_okq (⟨"ClaimTriangle", "checkEntry", "(I)V"⟩, 4) := ⟨⟨by decide +kernel, by decide +kernel⟩, List.mem_of_getElem? (i := 17) (by decide +kernel), List.mem_of_getElem? (i := 359) (by decide +kernel), List.mem_of_getElem? (i := 360) (by decide +kernel)⟩
theorem lw_p8 : lw_okq (⟨"ClaimTriangle", "checkLiving", "(I)V"⟩, 4) := ⟨⟨by decide +kernel, by decide +kernel⟩, List.mem_of_getElem? (i := 17) (by decide +kernel), List.mem_of_getElem? (i := 363) (by decide +kernel), List.mem_of_getElem? (i := 364) (by decide +kernel)⟩
theorem lw_p9 : lw_okq (⟨"ClaimTriangle$Reckoner", "linkUp", "(II)V"⟩, 7) := ⟨⟨by decide +kernel, by decide +kernel⟩, List.mem_of_getElem? (i := 65) (by decide +kernel), List.mem_of_getElem? (i := 473) (by decide +kernel), List.mem_of_getElem? (i := 474) (by decide +kernel)⟩
theorem lw_p10 : lw_okq (⟨"ClaimTriangle", "partOfAnswer", "(Z)J"⟩, 4) := ⟨⟨by decide +kernel, by decide +kernel⟩, List.mem_of_getElem? (i := 17) (by decide +kernel), List.mem_of_getElem? (i := 490) (by decide +kernel), List.mem_of_getElem? (i := 491) (by decide +kernel)⟩
theorem lw_p11 : lw_okq (⟨"ClaimTriangle", "checkAnswer", "()V"⟩, 4) := ⟨⟨by decide +kernel, by decide +kernel⟩, List.mem_of_getElem? (i := 17) (by decide +kernel), List.mem_of_getElem? (i := 494) (by decide +kernel), List.mem_of_getElem? (i := 495) (by decide +kernel)⟩
theorem lw_p12 : lw_okq (⟨"ClaimTriangle", "isRow", "(I)Z"⟩, 4) := ⟨⟨by decide +kernel, by decide +kernel⟩, List.mem_of_getElem? (i := 17) (by decide +kernel), List.mem_of_getElem? (i := 540) (by decide +kernel), List.mem_of_getElem? (i := 541) (by decide +kernel)⟩
theorem lw_p13 : lw_okq (⟨"ClaimTriangle$Reckoner", "expect", "(I)V"⟩, 7) := ⟨⟨by decide +kernel, by decide +kernel⟩, List.mem_of_getElem? (i := 65) (by decide +kernel), List.mem_of_getElem? (i := 548) (by decide +kernel), List.mem_of_getElem? (i := 549) (by decide +kernel)⟩
theorem lw_p14 : lw_okq (⟨"ClaimTriangle$Reckoner", "chain", "(II)V"⟩, 7) := ⟨⟨by decide +kernel, by decide +kernel⟩, List.mem_of_getElem? (i := 65) (by decide +kernel), List.mem_of_getElem? (i := 572) (by decide +kernel), List.mem_of_getElem? (i := 573) (by decide +kernel)⟩
theorem lw_p15 : lw_okq (⟨"ClaimTriangle$Reckoner", "blend", "(I)V"⟩, 7) := ⟨⟨by decide +kernel, by decide +kernel⟩, List.mem_of_getElem? (i := 65) (by decide +kernel), List.mem_of_getElem? (i := 576) (by decide +kernel), List.mem_of_getElem? (i := 577) (by decide +kernel)⟩
def lw_privs_1 : List (MethodName × Nat) := [(⟨"java/lang/Throwable", "fillInStackTrace", "(I)Ljava/lang/Throwable;"⟩, 6), (⟨"ClaimTriangle", "enter", "(IIIIZ)I"⟩, 4), (⟨"ClaimTriangle$Triangle", "clear", "()V"⟩, 7), (⟨"ClaimTriangle$Triangle", "add", "(III)V"⟩, 7), (⟨"ClaimTriangle$Triangle", "addEstimate", "(LClaimTriangle$Ledger;I)V"⟩, 7), (⟨"ClaimTriangle$Ledger", "replaces", "(II)Z"⟩, 7), (⟨"ClaimTriangle$Triangle", "accumulate", "()V"⟩, 7), (⟨"ClaimTriangle", "checkEntry", "(I)V"⟩, 4), (⟨"ClaimTriangle", "checkLiving", "(I)V"⟩, 4), (⟨"ClaimTriangle$Reckoner", "linkUp", "(II)V"⟩, 7), (⟨"ClaimTriangle", "partOfAnswer", "(Z)J"⟩, 4), (⟨"ClaimTriangle", "checkAnswer", "()V"⟩, 4), (⟨"ClaimTriangle", "isRow", "(I)Z"⟩, 4), (⟨"ClaimTriangle$Reckoner", "expect", "(I)V"⟩, 7), (⟨"ClaimTriangle$Reckoner", "chain", "(II)V"⟩, 7), (⟨"ClaimTriangle$Reckoner", "blend", "(I)V"⟩, 7)]
theorem lw_r1 : ∀ q ∈ lw_privs_1, lw_okq q := List.forall_mem_cons.mpr ⟨lw_p0, List.forall_mem_cons.mpr ⟨lw_p1, List.forall_mem_cons.mpr ⟨lw_p2, List.forall_mem_cons.mpr ⟨lw_p3, List.forall_mem_cons.mpr ⟨lw_p4, List.forall_mem_cons.mpr ⟨lw_p5, List.forall_mem_cons.mpr ⟨lw_p6, List.forall_mem_cons.mpr ⟨lw_p7, List.forall_mem_cons.mpr ⟨lw_p8, List.forall_mem_cons.mpr ⟨lw_p9, List.forall_mem_cons.mpr ⟨lw_p10, List.forall_mem_cons.mpr ⟨lw_p11, List.forall_mem_cons.mpr ⟨lw_p12, List.forall_mem_cons.mpr ⟨lw_p13, List.forall_mem_cons.mpr ⟨lw_p14, List.forall_mem_cons.mpr ⟨lw_p15, fun _ h => absurd h List.not_mem_nil⟩⟩⟩⟩⟩⟩⟩⟩⟩⟩⟩⟩⟩⟩⟩⟩
theorem lw_p16 : lw_okq (⟨"ClaimTriangle$Reckoner", "asWhole", "(J)LClaimTriangle$Fraction;"⟩, 7) := ⟨⟨by decide +kernel, by decide +kernel⟩, List.mem_of_getElem? (i := 65) (by decide +kernel), List.mem_of_getElem? (i := 588) (by decide +kernel), List.mem_of_getElem? (i := 589) (by decide +kernel)⟩
theorem lw_p17 : lw_okq (⟨"ClaimTriangle$Reckoner", "toSquare", "(II)V"⟩, 7) := ⟨⟨by decide +kernel, by decide +kernel⟩, List.mem_of_getElem? (i := 65) (by decide +kernel), List.mem_of_getElem? (i := 662) (by decide +kernel), List.mem_of_getElem? (i := 663) (by decide +kernel)⟩
theorem lw_p18 : lw_okq (⟨"ClaimTriangleModel", "enter", "(IIIIZ)I"⟩, 26) := ⟨⟨by decide +kernel, by decide +kernel⟩, List.mem_of_getElem? (i := 705) (by decide +kernel), List.mem_of_getElem? (i := 799) (by decide +kernel), List.mem_of_getElem? (i := 800) (by decide +kernel)⟩
theorem lw_p19 : lw_okq (⟨"ClaimTriangleModel", "noLine", "(I)Z"⟩, 26) := ⟨⟨by decide +kernel, by decide +kernel⟩, List.mem_of_getElem? (i := 705) (by decide +kernel), List.mem_of_getElem? (i := 803) (by decide +kernel), List.mem_of_getElem? (i := 804) (by decide +kernel)⟩
theorem lw_p20 : lw_okq (⟨"ClaimTriangleModel", "noMonths", "(II)Z"⟩, 26) := ⟨⟨by decide +kernel, by decide +kernel⟩, List.mem_of_getElem? (i := 705) (by decide +kernel), List.mem_of_getElem? (i := 807) (by decide +kernel), List.mem_of_getElem? (i := 808) (by decide +kernel)⟩
theorem lw_p21 : lw_okq (⟨"ClaimTriangleModel", "noEntry", "(I)Z"⟩, 26) := ⟨⟨by decide +kernel, by decide +kernel⟩, List.mem_of_getElem? (i := 705) (by decide +kernel), List.mem_of_getElem? (i := 819) (by decide +kernel), List.mem_of_getElem? (i := 820) (by decide +kernel)⟩
theorem lw_p22 : lw_okq (⟨"ClaimTriangleModel", "divisor", "(JJ)J"⟩, 26) := ⟨⟨by decide +kernel, by decide +kernel⟩, List.mem_of_getElem? (i := 705) (by decide +kernel), List.mem_of_getElem? (i := 835) (by decide +kernel), List.mem_of_getElem? (i := 836) (by decide +kernel)⟩
theorem lw_p23 : lw_okq (⟨"ClaimTriangleModel", "left", "()I"⟩, 26) := ⟨⟨by decide +kernel, by decide +kernel⟩, List.mem_of_getElem? (i := 705) (by decide +kernel), List.mem_of_getElem? (i := 847) (by decide +kernel), List.mem_of_getElem? (i := 848) (by decide +kernel)⟩
theorem lw_p24 : lw_okq (⟨"ClaimTriangleModel", "noCell", "(III)Z"⟩, 26) := ⟨⟨by decide +kernel, by decide +kernel⟩, List.mem_of_getElem? (i := 705) (by decide +kernel), List.mem_of_getElem? (i := 851) (by decide +kernel), List.mem_of_getElem? (i := 852) (by decide +kernel)⟩
theorem lw_p25 : lw_okq (⟨"ClaimTriangleModel", "sumOf", "(II)I"⟩, 26) := ⟨⟨by decide +kernel, by decide +kernel⟩, List.mem_of_getElem? (i := 705) (by decide +kernel), List.mem_of_getElem? (i := 855) (by decide +kernel), List.mem_of_getElem? (i := 856) (by decide +kernel)⟩
theorem lw_p26 : lw_okq (⟨"ClaimTriangleModel", "estimateOf", "(II)I"⟩, 26) := ⟨⟨by decide +kernel, by decide +kernel⟩, List.mem_of_getElem? (i := 705) (by decide +kernel), List.mem_of_getElem? (i := 859) (by decide +kernel), List.mem_of_getElem? (i := 860) (by decide +kernel)⟩
theorem lw_p27 : lw_okq (⟨"ClaimTriangleModel", "look", "()V"⟩, 26) := ⟨⟨by decide +kernel, by decide +kernel⟩, List.mem_of_getElem? (i := 705) (by decide +kernel), List.mem_of_getElem? (i := 879) (by decide +kernel), List.mem_of_getElem? (i := 880) (by decide +kernel)⟩
theorem lw_p28 : lw_okq (⟨"ClaimTriangleModel", "find", "(II)Z"⟩, 26) := ⟨⟨by decide +kernel, by decide +kernel⟩, List.mem_of_getElem? (i := 705) (by decide +kernel), List.mem_of_getElem? (i := 883) (by decide +kernel), List.mem_of_getElem? (i := 884) (by decide +kernel)⟩
theorem lw_p29 : lw_okq (⟨"ClaimTriangleModel", "takes", "(III)Z"⟩, 26) := ⟨⟨by decide +kernel, by decide +kernel⟩, List.mem_of_getElem? (i := 705) (by decide +kernel), List.mem_of_getElem? (i := 887) (by decide +kernel), List.mem_of_getElem? (i := 888) (by decide +kernel)⟩
theorem lw_p30 : lw_okq (⟨"ClaimTriangleModel", "size", "(J)J"⟩, 26) := ⟨⟨by decide +kernel, by decide +kernel⟩, List.mem_of_getElem? (i := 705) (by decide +kernel), List.mem_of_getElem? (i := 891) (by decide +kernel), List.mem_of_getElem? (i := 892) (by decide +kernel)⟩
theorem lw_p31 : lw_okq (⟨"ClaimTriangleModel", "set", "(JJ)V"⟩, 26) := ⟨⟨by decide +kernel, by decide +kernel⟩, List.mem_of_getElem? (i := 705) (by decide +kernel), List.mem_of_getElem? (i := 895) (by decide +kernel), List.mem_of_getElem? (i := 896) (by decide +kernel)⟩
def lw_privs_2 : List (MethodName × Nat) := [(⟨"ClaimTriangle$Reckoner", "asWhole", "(J)LClaimTriangle$Fraction;"⟩, 7), (⟨"ClaimTriangle$Reckoner", "toSquare", "(II)V"⟩, 7), (⟨"ClaimTriangleModel", "enter", "(IIIIZ)I"⟩, 26), (⟨"ClaimTriangleModel", "noLine", "(I)Z"⟩, 26), (⟨"ClaimTriangleModel", "noMonths", "(II)Z"⟩, 26), (⟨"ClaimTriangleModel", "noEntry", "(I)Z"⟩, 26), (⟨"ClaimTriangleModel", "divisor", "(JJ)J"⟩, 26), (⟨"ClaimTriangleModel", "left", "()I"⟩, 26), (⟨"ClaimTriangleModel", "noCell", "(III)Z"⟩, 26), (⟨"ClaimTriangleModel", "sumOf", "(II)I"⟩, 26), (⟨"ClaimTriangleModel", "estimateOf", "(II)I"⟩, 26), (⟨"ClaimTriangleModel", "look", "()V"⟩, 26), (⟨"ClaimTriangleModel", "find", "(II)Z"⟩, 26), (⟨"ClaimTriangleModel", "takes", "(III)Z"⟩, 26), (⟨"ClaimTriangleModel", "size", "(J)J"⟩, 26), (⟨"ClaimTriangleModel", "set", "(JJ)V"⟩, 26)]
theorem lw_r2 : ∀ q ∈ lw_privs_2, lw_okq q := List.forall_mem_cons.mpr ⟨lw_p16, List.forall_mem_cons.mpr ⟨lw_p17, List.forall_mem_cons.mpr ⟨lw_p18, List.forall_mem_cons.mpr ⟨lw_p19, List.forall_mem_cons.mpr ⟨lw_p20, List.forall_mem_cons.mpr ⟨lw_p21, List.forall_mem_cons.mpr ⟨lw_p22, List.forall_mem_cons.mpr ⟨lw_p23, List.forall_mem_cons.mpr ⟨lw_p24, List.forall_mem_cons.mpr ⟨lw_p25, List.forall_mem_cons.mpr ⟨lw_p26, List.forall_mem_cons.mpr ⟨lw_p27, List.forall_mem_cons.mpr ⟨lw_p28, List.forall_mem_cons.mpr ⟨lw_p29, List.forall_mem_cons.mpr ⟨lw_p30, List.forall_mem_cons.mpr ⟨lw_p31, fun _ h => absurd h List.not_mem_nil⟩⟩⟩⟩⟩⟩⟩⟩⟩⟩⟩⟩⟩⟩⟩⟩
theorem lw_p32 : lw_okq (⟨"ClaimTriangleModel", "told", "(IZ)J"⟩, 26) := ⟨⟨by decide +kernel, by decide +kernel⟩, List.mem_of_getElem? (i := 705) (by decide +kernel), List.mem_of_getElem? (i := 899) (by decide +kernel), List.mem_of_getElem? (i := 900) (by decide +kernel)⟩
theorem lw_p33 : lw_okq (⟨"ClaimTriangleModel", "noRow", "(II)Z"⟩, 26) := ⟨⟨by decide +kernel, by decide +kernel⟩, List.mem_of_getElem? (i := 705) (by decide +kernel), List.mem_of_getElem? (i := 907) (by decide +kernel), List.mem_of_getElem? (i := 908) (by decide +kernel)⟩
theorem lw_p34 : lw_okq (⟨"ClaimTriangleModel", "work", "(II)I"⟩, 26) := ⟨⟨by decide +kernel, by decide +kernel⟩, List.mem_of_getElem? (i := 705) (by decide +kernel), List.mem_of_getElem? (i := 911) (by decide +kernel), List.mem_of_getElem? (i := 912) (by decide +kernel)⟩
theorem lw_p35 : lw_okq (⟨"ClaimTriangleModel", "expect", "(I)V"⟩, 26) := ⟨⟨by decide +kernel, by decide +kernel⟩, List.mem_of_getElem? (i := 705) (by decide +kernel), List.mem_of_getElem? (i := 915) (by decide +kernel), List.mem_of_getElem? (i := 916) (by decide +kernel)⟩
theorem lw_p36 : lw_okq (⟨"ClaimTriangleModel", "times", "(JJ)V"⟩, 26) := ⟨⟨by decide +kernel, by decide +kernel⟩, List.mem_of_getElem? (i := 705) (by decide +kernel), List.mem_of_getElem? (i := 919) (by decide +kernel), List.mem_of_getElem? (i := 920) (by decide +kernel)⟩
theorem lw_p37 : lw_okq (⟨"ClaimTriangleModel", "isShort", "(JJ)Z"⟩, 26) := ⟨⟨by decide +kernel, by decide +kernel⟩, List.mem_of_getElem? (i := 705) (by decide +kernel), List.mem_of_getElem? (i := 923) (by decide +kernel), List.mem_of_getElem? (i := 924) (by decide +kernel)⟩
theorem lw_p38 : lw_okq (⟨"ClaimTriangleModel", "answer", "()I"⟩, 26) := ⟨⟨by decide +kernel, by decide +kernel⟩, List.mem_of_getElem? (i := 705) (by decide +kernel), List.mem_of_getElem? (i := 928) (by decide +kernel), List.mem_of_getElem? (i := 929) (by decide +kernel)⟩
theorem lw_p39 : lw_okq (⟨"ClaimTriangleModel", "areDefined", "(III)Z"⟩, 26) := ⟨⟨by decide +kernel, by decide +kernel⟩, List.mem_of_getElem? (i := 705) (by decide +kernel), List.mem_of_getElem? (i := 932) (by decide +kernel), List.mem_of_getElem? (i := 933) (by decide +kernel)⟩
theorem lw_p40 : lw_okq (⟨"ClaimTriangleModel", "way", "(III)V"⟩, 26) := ⟨⟨by decide +kernel, by decide +kernel⟩, List.mem_of_getElem? (i := 705) (by decide +kernel), List.mem_of_getElem? (i := 936) (by decide +kernel), List.mem_of_getElem? (i := 937) (by decide +kernel)⟩
theorem lw_p41 : lw_okq (⟨"ClaimTriangleModel", "latestOf", "(I)I"⟩, 26) := ⟨⟨by decide +kernel, by decide +kernel⟩, List.mem_of_getElem? (i := 705) (by decide +kernel), List.mem_of_getElem? (i := 940) (by decide +kernel), List.mem_of_getElem? (i := 941) (by decide +kernel)⟩
theorem lw_p42 : lw_okq (⟨"ClaimTriangleModel", "turn", "()V"⟩, 26) := ⟨⟨by decide +kernel, by decide +kernel⟩, List.mem_of_getElem? (i := 705) (by decide +kernel), List.mem_of_getElem? (i := 944) (by decide +kernel), List.mem_of_getElem? (i := 945) (by decide +kernel)⟩
theorem lw_p43 : lw_okq (⟨"ClaimTriangleModel", "plus", "(JJ)V"⟩, 26) := ⟨⟨by decide +kernel, by decide +kernel⟩, List.mem_of_getElem? (i := 705) (by decide +kernel), List.mem_of_getElem? (i := 948) (by decide +kernel), List.mem_of_getElem? (i := 949) (by decide +kernel)⟩
theorem lw_p44 : lw_okq (⟨"ClaimTriangleModel", "workReserve", "(II)I"⟩, 26) := ⟨⟨by decide +kernel, by decide +kernel⟩, List.mem_of_getElem? (i := 705) (by decide +kernel), List.mem_of_getElem? (i := 957) (by decide +kernel), List.mem_of_getElem? (i := 958) (by decide +kernel)⟩
def lw_privs_3 : List (MethodName × Nat) := [(⟨"ClaimTriangleModel", "told", "(IZ)J"⟩, 26), (⟨"ClaimTriangleModel", "noRow", "(II)Z"⟩, 26), (⟨"ClaimTriangleModel", "work", "(II)I"⟩, 26), (⟨"ClaimTriangleModel", "expect", "(I)V"⟩, 26), (⟨"ClaimTriangleModel", "times", "(JJ)V"⟩, 26), (⟨"ClaimTriangleModel", "isShort", "(JJ)Z"⟩, 26), (⟨"ClaimTriangleModel", "answer", "()I"⟩, 26), (⟨"ClaimTriangleModel", "areDefined", "(III)Z"⟩, 26), (⟨"ClaimTriangleModel", "way", "(III)V"⟩, 26), (⟨"ClaimTriangleModel", "latestOf", "(I)I"⟩, 26), (⟨"ClaimTriangleModel", "turn", "()V"⟩, 26), (⟨"ClaimTriangleModel", "plus", "(JJ)V"⟩, 26), (⟨"ClaimTriangleModel", "workReserve", "(II)I"⟩, 26)]
theorem lw_r3 : ∀ q ∈ lw_privs_3, lw_okq q := List.forall_mem_cons.mpr ⟨lw_p32, List.forall_mem_cons.mpr ⟨lw_p33, List.forall_mem_cons.mpr ⟨lw_p34, List.forall_mem_cons.mpr ⟨lw_p35, List.forall_mem_cons.mpr ⟨lw_p36, List.forall_mem_cons.mpr ⟨lw_p37, List.forall_mem_cons.mpr ⟨lw_p38, List.forall_mem_cons.mpr ⟨lw_p39, List.forall_mem_cons.mpr ⟨lw_p40, List.forall_mem_cons.mpr ⟨lw_p41, List.forall_mem_cons.mpr ⟨lw_p42, List.forall_mem_cons.mpr ⟨lw_p43, List.forall_mem_cons.mpr ⟨lw_p44, fun _ h => absurd h List.not_mem_nil⟩⟩⟩⟩⟩⟩⟩⟩⟩⟩⟩⟩⟩
def lw_privs : List (MethodName × Nat) := lw_privs_1 ++ (lw_privs_2 ++ (lw_privs_3))
def lw_tbl : List Cond := k2_sels lw_privs ++ tables_1
theorem lw_privs_ok : ∀ q ∈ lw_privs, lw_okq q := by
  show ∀ q ∈ lw_privs_1 ++ (lw_privs_2 ++ (lw_privs_3)), lw_okq q
  exact List.forall_mem_append.mpr ⟨lw_r1, List.forall_mem_append.mpr ⟨lw_r2, lw_r3⟩⟩
end
section
/-! my rows: pure combinators, the picture of the state, the world, starts, ends, calls. Stands behind the names (R_, T_, kl, Wds, NW, wd_). UNTRIED DRAFT. -/
def ct_nm {α β : Type} (a : α) (f : α → β) : β := f a
def ct_gd {α : Type} (b : Bool) (e : Option α) : Option α := if b = true then e else none
def ct_ob {α β : Type} (o : Option α) (f : α → Option β) : Option β := o.bind f
def ct_ob2 {α β γ : Type} (o : Option (α × β)) (f : α → β → Option γ) : Option γ := o.bind fun q => f q.1 q.2
def ct_xc {X α β : Type} (f : α → Option (X ⊕ β)) (r : X ⊕ α) : Option (X ⊕ β) := match r with
  | .inl x => some (.inl x)
  | .inr a => f a
def ct_xb {X α β : Type} (o : Option (X ⊕ α)) (f : α → Option (X ⊕ β)) : Option (X ⊕ β) := o.bind (ct_xc f)
def ct_xb2 {X α γ β : Type} (o : Option (X ⊕ (α × γ))) (f : α → γ → Option (X ⊕ β)) : Option (X ⊕ β) := o.bind (ct_xc fun q => f q.1 q.2)
def ct_inR (i : Int32) (n : Nat) : Bool := decide (0 ≤ i.toInt ∧ i.toInt < n)
def ct_gzI (y : Int32) : Bool := decide (¬ y = 0)
def ct_gzL (y : Int64) : Bool := decide (¬ y = 0)
def ct_isB (x : Int32) : Bool := decide (x = 0 ∨ x = 1)
def ct_mxI (x y : Int32) : Int32 := if x < y then y else x
def ct_mxL (x y : Int64) : Int64 := if y < x then x else y
def ct_abL (x : Int64) : Int64 := if 0 < x then x else -x
theorem ct_nm_ex {α β : Type} {a : α} {f : α → β} {r : β} (h : ct_nm a f = r) : ∃ x, x = a ∧ f x = r := ⟨a, rfl, h⟩
theorem ct_nm_at {α β : Type} {a x : α} {f : α → β} {r : β} (h : ct_nm a f = r) (e : x = a) : f x = r := by rw [e]; exact h
theorem ct_gd_some {α : Type} {b : Bool} {e : Option α} {r : α} (h : ct_gd b e = some r) : b = true ∧ e = some r := by
  unfold ct_gd at h
  split at h
  · exact ⟨by assumption, h⟩
  · cases h
theorem ct_ob_some {α β : Type} {o : Option α} {f : α → Option β} {r : β} (h : ct_ob o f = some r) : ∃ a, o = some a ∧ f a = some r := Option.bind_eq_some_iff.mp h
theorem ct_ob2_some {α β γ : Type} {o : Option (α × β)} {f : α → β → Option γ} {r : γ} (h : ct_ob2 o f = some r) : ∃ a b, o = some (a, b) ∧ f a b = some r := by
  obtain ⟨⟨a, b⟩, h1, h2⟩ := Option.bind_eq_some_iff.mp h
  exact ⟨a, b, h1, h2⟩
theorem ct_xb_some {X α β : Type} {o : Option (X ⊕ α)} {f : α → Option (X ⊕ β)} {r : X ⊕ β} (h : ct_xb o f = some r) : ∃ q, o = some q ∧ ct_xc f q = some r := Option.bind_eq_some_iff.mp h
theorem ct_xb2_some {X α γ β : Type} {o : Option (X ⊕ (α × γ))} {f : α → γ → Option (X ⊕ β)} {r : X ⊕ β} (h : ct_xb2 o f = some r) : ∃ q, o = some q ∧ ct_xc (fun z => f z.1 z.2) q = some r := Option.bind_eq_some_iff.mp h
theorem ct_inR_vp {i : Int32} {n : Nat} (h : ct_inR i n = true) : vp_in i n := vp_in_iff.mpr (of_decide_eq_true h)
theorem ct_inR_lt {i : Int32} {n : Nat} (h : ct_inR i n = true) : i.toNatClampNeg < n := Nat.not_le.mp fun q => ct_inR_vp h (Or.inr q)
theorem ct_gzI_ne {y : Int32} (h : ct_gzI y = true) : ¬ y = 0 := of_decide_eq_true h
theorem ct_gzL_ne {y : Int64} (h : ct_gzL y = true) : ¬ y = 0 := of_decide_eq_true h
theorem ct_isB_nar {x : Int32} (h : ct_isB x = true) : narrow .boolean (.int x) = .int x := by
  rcases of_decide_eq_true h with rfl | rfl <;> rfl
theorem ct_isB_fit {x : Int32} (h : ct_isB x = true) : fits .boolean (.int x) = true := by
  rcases of_decide_eq_true h with rfl | rfl <;> rfl

theorem ct_nm_eq {α β : Type} (a : α) (f : α → β) : ct_nm a f = f a := rfl
theorem ct_gd_t {α : Type} (e : Option α) : ct_gd true e = e := rfl
theorem ct_ob_s {α β : Type} (a : α) (f : α → Option β) : ct_ob (some a) f = f a := rfl
theorem ct_ob2_s {α β γ : Type} (a : α) (b : β) (f : α → β → Option γ) : ct_ob2 (some (a, b)) f = f a b := rfl
theorem ct_xb_r {X α β : Type} (a : α) (f : α → Option (X ⊕ β)) : ct_xb (some (.inr a)) f = f a := rfl
theorem ct_xb_l {X α β : Type} (x : X) (f : α → Option (X ⊕ β)) : ct_xb (some (.inl x)) f = some (.inl x) := rfl
theorem ct_xb2_r {X α γ β : Type} (a : α) (c : γ) (f : α → γ → Option (X ⊕ β)) : ct_xb2 (some (.inr (a, c))) f = f a c := rfl
theorem ct_xb2_l {X α γ β : Type} (x : X) (f : α → γ → Option (X ⊕ β)) : ct_xb2 (some (.inl x)) f = some (.inl x) := rfl

/-! the class's state: numbers, the ledger's arrays and 'out', the triangle's rows, the premiums' rows, the fractions -/
abbrev CS : Type := (Nat → Int32) × (Nat → Nat → Int32) × (Nat → Nat → Int32) × (Nat → Nat → Int32) × (Nat → Int64 × Int64 × Int32)
def cs_I (s : CS) (k : Nat) : Int32 := s.1 k
def cs_A (s : CS) (k : Nat) : Nat → Int32 := s.2.1 k
def cs_R (s : CS) (k : Nat) : Nat → Int32 := s.2.2.1 k
def cs_P (s : CS) (k : Nat) : Nat → Int32 := s.2.2.2.1 k
def cs_F (s : CS) (k : Nat) : Int64 × Int64 × Int32 := s.2.2.2.2 k
def cs_I' (s : CS) (k : Nat) (v : Int32) : CS := (va_up s.1 k v, s.2)
def cs_A' (s : CS) (k i : Nat) (v : Int32) : CS := (s.1, va_up s.2.1 k (upd (s.2.1 k) i v), s.2.2)
def cs_R' (s : CS) (k i : Nat) (v : Int32) : CS := (s.1, s.2.1, va_up s.2.2.1 k (upd (s.2.2.1 k) i v), s.2.2.2)
def cs_P' (s : CS) (k i : Nat) (v : Int32) : CS := (s.1, s.2.1, s.2.2.1, va_up s.2.2.2.1 k (upd (s.2.2.2.1 k) i v), s.2.2.2.2)
def cs_F' (s : CS) (k : Nat) (t : Int64 × Int64 × Int32) : CS := (s.1, s.2.1, s.2.2.1, s.2.2.2.1, va_up s.2.2.2.2 k t)
def cs_F0' (s : CS) (k : Nat) (v : Int64) : CS := cs_F' s k (v, (cs_F s k).2)
def cs_F1' (s : CS) (k : Nat) (v : Int64) : CS := cs_F' s k ((cs_F s k).1, v, (cs_F s k).2.2)
def cs_F2' (s : CS) (k : Nat) (v : Int32) : CS := cs_F' s k ((cs_F s k).1, (cs_F s k).2.1, v)
/-! the reference's state: numbers, longs, arrays, long arrays -/
abbrev MS : Type := (Nat → Int32) × (Nat → Int64) × (Nat → Nat → Int32) × (Nat → Nat → Int64)
def ms_I (s : MS) (k : Nat) : Int32 := s.1 k
def ms_L (s : MS) (k : Nat) : Int64 := s.2.1 k
def ms_A (s : MS) (k : Nat) : Nat → Int32 := s.2.2.1 k
def ms_B (s : MS) (k : Nat) : Nat → Int64 := s.2.2.2 k
def ms_I' (s : MS) (k : Nat) (v : Int32) : MS := (va_up s.1 k v, s.2)
def ms_L' (s : MS) (k : Nat) (v : Int64) : MS := (s.1, va_up s.2.1 k v, s.2.2)
def ms_A' (s : MS) (k i : Nat) (v : Int32) : MS := (s.1, s.2.1, va_up s.2.2.1 k (upd (s.2.2.1 k) i v), s.2.2.2)
def ms_B' (s : MS) (k i : Nat) (v : Int64) : MS := (s.1, s.2.1, s.2.2.1, va_up s.2.2.2 k (vp_updL (s.2.2.2 k) i v))
end
section
def fn_CT_within (a1 : Int32) (a2 : Int32) (a3 : Int32) : Option Int32 :=
  if a1 < a2 then
    some 0
  else
    if a3 < a1 then
      some 0
    else
      some 1
def fn_CT_check (s : CS) (a1 : Int32) : Option ((Nat × CS) ⊕ CS) :=
  if ¬ a1 = 0 then
    some (.inr s)
  else
    some (.inl (1, s))
def fn_CT_isLine (a1 : Int32) : Option Int32 :=
  ct_ob (fn_CT_within a1 0 1) fun x1 =>
  ct_gd (ct_isB x1) <|
  some x1
def bk_CT_checkMonths_25 (a1 : Int32) (a2 : Int32) (s : CS) (t0 : Int32) : Option ((Nat × CS) ⊕ CS) :=
  ct_xb (fn_CT_check s t0) fun s3 =>
  some (.inr s3)
def fn_CT_checkMonths (s : CS) (a1 : Int32) (a2 : Int32) : Option ((Nat × CS) ⊕ CS) :=
  ct_ob (fn_CT_within a1 0 71) fun x1 =>
  if x1 = 0 then
    bk_CT_checkMonths_25 a1 a2 s 0
  else
    ct_ob (fn_CT_within a2 a1 71) fun x2 =>
    if x2 = 0 then
      bk_CT_checkMonths_25 a1 a2 s 0
    else
      bk_CT_checkMonths_25 a1 a2 s 1
def fn_Le_append (s : CS) (a1 : Int32) (a2 : Int32) (a3 : Int32) (a4 : Int32) (a5 : Int32) : Option (Int32 × CS) :=
  ct_nm (cs_I s 0) fun x1 =>
  ct_gd (ct_inR x1 60) <|
  ct_nm (cs_A' s 0 x1.toNatClampNeg a1) fun s2 =>
  ct_gd (ct_inR x1 60) <|
  ct_nm (cs_A' s2 1 x1.toNatClampNeg a2) fun s3 =>
  ct_gd (ct_inR x1 60) <|
  ct_nm (cs_A' s3 2 x1.toNatClampNeg a3) fun s4 =>
  ct_gd (ct_inR x1 60) <|
  ct_nm (cs_A' s4 3 x1.toNatClampNeg a4) fun s5 =>
  ct_gd (ct_inR x1 60) <|
  ct_nm (cs_A' s5 4 x1.toNatClampNeg (vp_nar .boolean a5)) fun s6 =>
  ct_gd (ct_inR x1 60) <|
  ct_nm (cs_A' s6 5 x1.toNatClampNeg (vp_nar .boolean 1)) fun s7 =>
  ct_nm (cs_I' s7 0 ((cs_I s7 0) + 1)) fun s8 =>
  some (x1, s8)
def bk_Tr_clear_10_o (k2 : CS → Int32 → Option CS) (k10 : CS → Int32 → Int32 → Option CS) (s : CS) (v1 : Int32) (v2 : Int32) : Option CS :=
  if 6 ≤ v2 then
    k2 s (v1 + 1)
  else
    ct_gd (ct_inR v1 6) <|
    ct_gd (ct_inR v2 6) <|
    ct_nm (cs_R' s v1.toNatClampNeg v2.toNatClampNeg 0) fun s1 =>
    k10 s1 v1 (v2 + 1)
def bk_Tr_clear_10 (k2 : CS → Int32 → Option CS) : Nat → CS → Int32 → Int32 → Option CS
  | 0 => fun _ _ _ => none
  | n + 1 => bk_Tr_clear_10_o k2 (bk_Tr_clear_10 k2 n)
def bk_Tr_clear_2_o (k2 : CS → Int32 → Option CS) (s : CS) (v1 : Int32) : Option CS :=
  if 6 ≤ v1 then
    some s
  else
    bk_Tr_clear_10 k2 200 s v1 0
def bk_Tr_clear_2 : Nat → CS → Int32 → Option CS
  | 0 => fun _ _ => none
  | n + 1 => bk_Tr_clear_2_o (bk_Tr_clear_2 n)
def fn_Tr_clear (s : CS) : Option CS :=
  bk_Tr_clear_2 200 s 0
def fn_Le_livesIn (s : CS) (a1 : Int32) (a2 : Int32) : Option Int32 :=
  ct_gd (ct_inR a1 60) <|
  if (cs_A s 5 a1.toNatClampNeg) = 0 then
    some 0
  else
    ct_gd (ct_inR a1 60) <|
    if ¬ (cs_A s 0 a1.toNatClampNeg) = a2 then
      some 0
    else
      some 1
def fn_Tr_add (s : CS) (a1 : Int32) (a2 : Int32) (a3 : Int32) : Option CS :=
  ct_gd (ct_gzI (cs_I s 2)) <|
  ct_nm (a1 / (cs_I s 2)) fun x1 =>
  ct_gd (ct_gzI (cs_I s 2)) <|
  ct_nm (a2 / (cs_I s 2)) fun x2 =>
  if (cs_I s 4) ≤ x2 then
    some s
  else
    ct_gd (ct_inR x1 6) <|
    ct_gd (ct_inR (x2 - x1) 6) <|
    ct_gd (ct_inR (x2 - x1) 6) <|
    ct_nm (cs_R' s x1.toNatClampNeg (x2 - x1).toNatClampNeg ((cs_R s x1.toNatClampNeg (x2 - x1).toNatClampNeg) + a3)) fun s3 =>
    some s3
def fn_Le_replaces (s : CS) (a1 : Int32) (a2 : Int32) : Option Int32 :=
  ct_gd (ct_inR a1 60) <|
  if (cs_A s 4 a1.toNatClampNeg) = 0 then
    some 0
  else
    ct_gd (ct_inR a2 60) <|
    ct_ob (fn_Le_livesIn s a1 (cs_A s 0 a2.toNatClampNeg)) fun x1 =>
    if ¬ x1 = 0 then
      ct_gd (ct_inR a1 60) <|
      ct_gd (ct_inR a2 60) <|
      if (cs_A s 1 a1.toNatClampNeg) = (cs_A s 1 a2.toNatClampNeg) then
        ct_gd (ct_inR a1 60) <|
        ct_gd (ct_inR a2 60) <|
        if (cs_A s 2 a2.toNatClampNeg) < (cs_A s 2 a1.toNatClampNeg) then
          some 1
        else
          ct_gd (ct_inR a1 60) <|
          ct_gd (ct_inR a2 60) <|
          if ¬ (cs_A s 2 a1.toNatClampNeg) = (cs_A s 2 a2.toNatClampNeg) then
            some 0
          else
            if a1 ≤ a2 then
              some 0
            else
              some 1
      else
        some 0
    else
      some 0
def bk_Le_replacedIn_39 (a1 : Int32) (k5 : CS → Int32 → Int32 → Option Int32) (s : CS) (v2 : Int32) (v3 : Int32) : Option Int32 :=
  k5 s v2 (v3 + 1)
def bk_Le_replacedIn_5_o (a1 : Int32) (k5 : CS → Int32 → Int32 → Option Int32) (s : CS) (v2 : Int32) (v3 : Int32) : Option Int32 :=
  if (cs_I s 0) ≤ v3 then
    some v2
  else
    ct_ob (fn_Le_replaces s v3 a1) fun x1 =>
    if x1 = 0 then
      bk_Le_replacedIn_39 a1 k5 s v2 v3
    else
      ct_gd (ct_inR v3 60) <|
      if v2 ≤ (cs_A s 2 v3.toNatClampNeg) then
        bk_Le_replacedIn_39 a1 k5 s v2 v3
      else
        ct_gd (ct_inR v3 60) <|
        ct_nm (cs_A s 2 v3.toNatClampNeg) fun x2 =>
        bk_Le_replacedIn_39 a1 k5 s x2 v3
def bk_Le_replacedIn_5 (a1 : Int32) : Nat → CS → Int32 → Int32 → Option Int32
  | 0 => fun _ _ _ => none
  | n + 1 => bk_Le_replacedIn_5_o a1 (bk_Le_replacedIn_5 a1 n)
def fn_Le_replacedIn (s : CS) (a1 : Int32) : Option Int32 :=
  bk_Le_replacedIn_5 a1 200 s 72 0
def fn_Tr_addEstimate (s : CS) (a2 : Int32) : Option CS :=
  ct_gd (ct_inR a2 60) <|
  ct_nm (cs_A s 1 a2.toNatClampNeg) fun x1 =>
  ct_gd (ct_inR a2 60) <|
  ct_nm (cs_A s 3 a2.toNatClampNeg) fun x2 =>
  ct_gd (ct_inR a2 60) <|
  ct_ob (fn_Tr_add s x1 (cs_A s 2 a2.toNatClampNeg) x2) fun s3 =>
  ct_ob (fn_Le_replacedIn s3 a2) fun x4 =>
  ct_ob (fn_Tr_add s3 x1 x4 (-x2)) fun s5 =>
  some s5
def bk_Tr_accumulate_12_o (k2 : CS → Int32 → Option CS) (k12 : CS → Int32 → Int32 → Option CS) (s : CS) (v1 : Int32) (v2 : Int32) : Option CS :=
  if ((cs_I s 4) - v1) ≤ v2 then
    k2 s (v1 + 1)
  else
    ct_gd (ct_inR v1 6) <|
    ct_gd (ct_inR v2 6) <|
    ct_gd (ct_inR v1 6) <|
    ct_gd (ct_inR (v2 - 1) 6) <|
    ct_gd (ct_inR v2 6) <|
    ct_nm (cs_R' s v1.toNatClampNeg v2.toNatClampNeg ((cs_R s v1.toNatClampNeg v2.toNatClampNeg) + (cs_R s v1.toNatClampNeg (v2 - 1).toNatClampNeg))) fun s1 =>
    k12 s1 v1 (v2 + 1)
def bk_Tr_accumulate_12 (k2 : CS → Int32 → Option CS) : Nat → CS → Int32 → Int32 → Option CS
  | 0 => fun _ _ _ => none
  | n + 1 => bk_Tr_accumulate_12_o k2 (bk_Tr_accumulate_12 k2 n)
def bk_Tr_accumulate_2_o (k2 : CS → Int32 → Option CS) (s : CS) (v1 : Int32) : Option CS :=
  if (cs_I s 4) ≤ v1 then
    some s
  else
    bk_Tr_accumulate_12 k2 200 s v1 1
def bk_Tr_accumulate_2 : Nat → CS → Int32 → Option CS
  | 0 => fun _ _ => none
  | n + 1 => bk_Tr_accumulate_2_o (bk_Tr_accumulate_2 n)
def fn_Tr_accumulate (s : CS) : Option CS :=
  bk_Tr_accumulate_2 200 s 0
def bk_Tr_fill_76 (k6 : CS → Int32 → Option CS) (s : CS) (v2 : Int32) : Option CS :=
  k6 s (v2 + 1)
def bk_Tr_fill_6_o (k6 : CS → Int32 → Option CS) (s : CS) (v2 : Int32) : Option CS :=
  if (cs_I s 0) ≤ v2 then
    ct_ob (fn_Tr_accumulate s) fun s2 =>
    some s2
  else
    ct_ob (fn_Le_livesIn s v2 (cs_I s 1)) fun x3 =>
    if ¬ x3 = 0 then
      ct_gd (ct_inR v2 60) <|
      if ¬ (cs_A s 4 v2.toNatClampNeg) = 0 then
        if (cs_I s 3) = 0 then
          bk_Tr_fill_76 k6 s v2
        else
          ct_ob (fn_Tr_addEstimate s v2) fun s4 =>
          bk_Tr_fill_76 k6 s4 v2
      else
        ct_gd (ct_inR v2 60) <|
        ct_gd (ct_inR v2 60) <|
        ct_gd (ct_inR v2 60) <|
        ct_ob (fn_Tr_add s (cs_A s 1 v2.toNatClampNeg) (cs_A s 2 v2.toNatClampNeg) (cs_A s 3 v2.toNatClampNeg)) fun s5 =>
        bk_Tr_fill_76 k6 s5 v2
    else
      bk_Tr_fill_76 k6 s v2
def bk_Tr_fill_6 : Nat → CS → Int32 → Option CS
  | 0 => fun _ _ => none
  | n + 1 => bk_Tr_fill_6_o (bk_Tr_fill_6 n)
def fn_Tr_fill (s : CS) : Option CS :=
  ct_ob (fn_Tr_clear s) fun s1 =>
  bk_Tr_fill_6 200 s1 0
def fn_CT_enter (s : CS) (a1 : Int32) (a2 : Int32) (a3 : Int32) (a4 : Int32) (a5 : Int32) : Option ((Nat × CS) ⊕ (Int32 × CS)) :=
  ct_ob (fn_CT_isLine a1) fun x1 =>
  ct_xb (fn_CT_check s x1) fun s2 =>
  ct_xb (fn_CT_checkMonths s2 a2 a3) fun s3 =>
  if (cs_I s3 0) < 60 then
    ct_ob2 (fn_Le_append s3 a1 a2 a3 a4 a5) fun x4 s5 =>
    ct_ob (fn_Tr_fill s5) fun s6 =>
    some (.inr (x4, s6))
  else
    some (.inl (2, s3))
def fn_CT_pay (s : CS) (a1 : Int32) (a2 : Int32) (a3 : Int32) (a4 : Int32) : Option ((Nat × CS) ⊕ (Int32 × CS)) :=
  ct_ob (fn_CT_within a4 (-9999) 9999) fun x1 =>
  ct_xb (fn_CT_check s x1) fun s2 =>
  ct_xb2 (fn_CT_enter s2 a1 a2 a3 a4 0) fun x3 s4 =>
  some (.inr (x3, s4))
def fn_CT_estimate (s : CS) (a1 : Int32) (a2 : Int32) (a3 : Int32) (a4 : Int32) : Option ((Nat × CS) ⊕ (Int32 × CS)) :=
  ct_ob (fn_CT_within a4 0 9999) fun x1 =>
  ct_xb (fn_CT_check s x1) fun s2 =>
  ct_xb2 (fn_CT_enter s2 a1 a2 a3 a4 1) fun x3 s4 =>
  some (.inr (x3, s4))
def fn_CT_checkEntry (s : CS) (a1 : Int32) : Option ((Nat × CS) ⊕ CS) :=
  ct_ob (fn_CT_within a1 0 ((cs_I s 0) - 1)) fun x1 =>
  ct_xb (fn_CT_check s x1) fun s2 =>
  some (.inr s2)
def fn_CT_checkLiving (s : CS) (a1 : Int32) : Option ((Nat × CS) ⊕ CS) :=
  ct_gd (ct_inR a1 60) <|
  if ¬ (cs_A s 5 a1.toNatClampNeg) = 0 then
    some (.inr s)
  else
    some (.inl (2, s))
def fn_CT_strike (s : CS) (a1 : Int32) : Option ((Nat × CS) ⊕ (Int32 × CS)) :=
  ct_xb (fn_CT_checkEntry s a1) fun s1 =>
  ct_xb (fn_CT_checkLiving s1 a1) fun s2 =>
  ct_gd (ct_inR a1 60) <|
  ct_nm (cs_A' s2 5 a1.toNatClampNeg (vp_nar .boolean 0)) fun s3 =>
  ct_ob (fn_Tr_fill s3) fun s4 =>
  ct_gd (ct_inR a1 60) <|
  some (.inr (cs_A s4 3 a1.toNatClampNeg, s4))
def fn_CT_move (s : CS) (a1 : Int32) (a2 : Int32) (a3 : Int32) : Option ((Nat × CS) ⊕ CS) :=
  ct_xb (fn_CT_checkEntry s a1) fun s1 =>
  ct_xb (fn_CT_checkMonths s1 a2 a3) fun s2 =>
  ct_xb (fn_CT_checkLiving s2 a1) fun s3 =>
  ct_gd (ct_inR a1 60) <|
  ct_nm (cs_A' s3 1 a1.toNatClampNeg a2) fun s4 =>
  ct_gd (ct_inR a1 60) <|
  ct_nm (cs_A' s4 2 a1.toNatClampNeg a3) fun s5 =>
  ct_ob (fn_Tr_fill s5) fun s6 =>
  some (.inr s6)
def bk_CT_premium_33 (a1 : Int32) (a2 : Int32) (a3 : Int32) (s : CS) (t0 : Int32) : Option ((Nat × CS) ⊕ CS) :=
  ct_xb (fn_CT_check s t0) fun s4 =>
  ct_gd (ct_inR a1 2) <|
  ct_gd (ct_inR a2 72) <|
  ct_nm (cs_P' s4 a1.toNatClampNeg a2.toNatClampNeg a3) fun s5 =>
  some (.inr s5)
def fn_CT_premium (s : CS) (a1 : Int32) (a2 : Int32) (a3 : Int32) : Option ((Nat × CS) ⊕ CS) :=
  ct_ob (fn_CT_isLine a1) fun x1 =>
  if x1 = 0 then
    bk_CT_premium_33 a1 a2 a3 s 0
  else
    ct_ob (fn_CT_within a2 0 71) fun x2 =>
    if x2 = 0 then
      bk_CT_premium_33 a1 a2 a3 s 0
    else
      ct_ob (fn_CT_within a3 0 9999) fun x3 =>
      if x3 = 0 then
        bk_CT_premium_33 a1 a2 a3 s 0
      else
        bk_CT_premium_33 a1 a2 a3 s 1
def bk_Fr_divisor_51 (a1 : Int64) (a2 : Int64) (v4 : Int64) : Option Int64 :=
  some (ct_mxL v4 1)
def bk_Fr_divisor_15_o (a1 : Int64) (a2 : Int64) (k15 : Int64 → Int64 → Int32 → Option Int64) (v4 : Int64) (v6 : Int64) (v8 : Int32) : Option Int64 :=
  if 128 ≤ v8 then
    bk_Fr_divisor_51 a1 a2 v4
  else
    if (lg_cmp v6 0) = 0 then
      bk_Fr_divisor_51 a1 a2 v4
    else
      ct_gd (ct_gzL v6) <|
      ct_nm (v4 - v4 / v6 * v6) fun x3 =>
      k15 v6 x3 (v8 + 1)
def bk_Fr_divisor_15 (a1 : Int64) (a2 : Int64) : Nat → Int64 → Int64 → Int32 → Option Int64
  | 0 => fun _ _ _ => none
  | n + 1 => bk_Fr_divisor_15_o a1 a2 (bk_Fr_divisor_15 a1 a2 n)
def fn_Fr_divisor (a1 : Int64) (a2 : Int64) : Option Int64 :=
  ct_nm (ct_abL a1) fun x1 =>
  ct_nm (ct_abL a2) fun x2 =>
  bk_Fr_divisor_15 a1 a2 200 x1 x2 0
def bk_Fr_become_33 (f : Nat) (a1 : Int64) (a2 : Int64) (s : CS) (t0 : Int64) : Option CS :=
  ct_gd (ct_gzL t0) <|
  ct_nm (cs_F0' s f (a1 / t0)) fun s3 =>
  ct_gd (ct_gzL t0) <|
  ct_nm (cs_F1' s3 f (a2 / t0)) fun s4 =>
  ct_nm (cs_F2' s4 f 0) fun s5 =>
  some s5
def fn_Fr_become (s : CS) (f : Nat) (a1 : Int64) (a2 : Int64) : Option CS :=
  if ¬ (lg_cmp a2 0) = 0 then
    ct_ob (fn_Fr_divisor a1 a2) fun x1 =>
    if 0 ≤ (lg_cmp a2 0) then
      bk_Fr_become_33 f a1 a2 s x1
    else
      bk_Fr_become_33 f a1 a2 s (-x1)
  else
    ct_nm (cs_F2' s f 2) fun s2 =>
    some s2
def fn_Te_ratioOf (s : CS) (a1 : Int32) : Option Nat :=
  if ¬ a1 = 0 then
    some 1
  else
    some 0
theorem lt_Te_ratioOf {s : CS} {a1 : Int32} {x : Nat} (h : fn_Te_ratioOf s a1 = some x) : x < 12 := by
  unfold fn_Te_ratioOf at h
  split at h <;> (obtain rfl := Option.some.inj h; decide)
def bk_CT_ratio_47 (a1 : Int32) (a2 : Int32) (a3 : Int32) (s : CS) (t0 : Int32) : Option ((Nat × CS) ⊕ CS) :=
  ct_xb (fn_CT_check s t0) fun s5 =>
  if ¬ a1 = (-1) then
    ct_ob (fn_Te_ratioOf s5 a1) fun x6 =>
    ct_ob (fn_Fr_become s5 x6 a2.toInt64 a3.toInt64) fun s7 =>
    some (.inr s7)
  else
    ct_ob (fn_Fr_become s5 2 a2.toInt64 a3.toInt64) fun s8 =>
    some (.inr s8)
def bk_CT_ratio_17 (a1 : Int32) (a2 : Int32) (a3 : Int32) (s : CS) (t0 : Int32) : Option ((Nat × CS) ⊕ CS) :=
  ct_xb (fn_CT_check s t0) fun s2 =>
  ct_ob (fn_CT_within a2 0 9999) fun x3 =>
  if x3 = 0 then
    bk_CT_ratio_47 a1 a2 a3 s2 0
  else
    ct_ob (fn_CT_within a3 1 9999) fun x4 =>
    if x4 = 0 then
      bk_CT_ratio_47 a1 a2 a3 s2 0
    else
      bk_CT_ratio_47 a1 a2 a3 s2 1
def fn_CT_ratio (s : CS) (a1 : Int32) (a2 : Int32) (a3 : Int32) : Option ((Nat × CS) ⊕ CS) :=
  if a1 = (-1) then
    bk_CT_ratio_17 a1 a2 a3 s 1
  else
    ct_ob (fn_CT_isLine a1) fun x1 =>
    if x1 = 0 then
      bk_CT_ratio_17 a1 a2 a3 s 0
    else
      bk_CT_ratio_17 a1 a2 a3 s 1
def bk_Tr_reshape_29_o (a1 : Int32) (a2 : Int32) (a3 : Int32) (a4 : Int32) (k29 : CS → Int32 → Option CS) (s : CS) (v5 : Int32) : Option CS :=
  if 36 ≤ v5 then
    some s
  else
    ct_gd (ct_inR v5 36) <|
    ct_nm (cs_A' s 6 v5.toNatClampNeg (vp_nar .boolean 0)) fun s6 =>
    k29 s6 (v5 + 1)
def bk_Tr_reshape_29 (a1 : Int32) (a2 : Int32) (a3 : Int32) (a4 : Int32) : Nat → CS → Int32 → Option CS
  | 0 => fun _ _ => none
  | n + 1 => bk_Tr_reshape_29_o a1 a2 a3 a4 (bk_Tr_reshape_29 a1 a2 a3 a4 n)
def fn_Tr_reshape (s : CS) (a1 : Int32) (a2 : Int32) (a3 : Int32) (a4 : Int32) : Option CS :=
  ct_nm (cs_I' s 1 a1) fun s1 =>
  ct_nm (cs_I' s1 2 a2) fun s2 =>
  ct_gd (ct_isB a3) <|
  ct_nm (cs_I' s2 3 a3) fun s3 =>
  ct_nm (cs_I' s3 4 a4) fun s4 =>
  ct_nm (cs_I' s4 5 0) fun s5 =>
  bk_Tr_reshape_29 a1 a2 a3 a4 200 s5 0
def bk_CT_build_33 (a1 : Int32) (a2 : Int32) (a3 : Int32) (a4 : Int32) (s : CS) (t0 : Int32) : Option ((Nat × CS) ⊕ CS) :=
  ct_xb (fn_CT_check s t0) fun s4 =>
  ct_ob (fn_Tr_reshape s4 a1 a2 a3 a4) fun s5 =>
  ct_ob (fn_Tr_fill s5) fun s6 =>
  some (.inr s6)
def fn_CT_build (s : CS) (a1 : Int32) (a2 : Int32) (a3 : Int32) (a4 : Int32) : Option ((Nat × CS) ⊕ CS) :=
  ct_ob (fn_CT_isLine a1) fun x1 =>
  if x1 = 0 then
    bk_CT_build_33 a1 a2 a3 a4 s 0
  else
    ct_ob (fn_CT_within a2 1 12) fun x2 =>
    if x2 = 0 then
      bk_CT_build_33 a1 a2 a3 a4 s 0
    else
      ct_ob (fn_CT_within a4 1 6) fun x3 =>
      if x3 = 0 then
        bk_CT_build_33 a1 a2 a3 a4 s 0
      else
        bk_CT_build_33 a1 a2 a3 a4 s 1
def fn_Tr_shown (s : CS) : Option Int32 :=
  some ((cs_I s 4) - (cs_I s 5))
def fn_CT_isCell (a1 : Int32) (a2 : Int32) (a3 : Int32) : Option Int32 :=
  ct_ob (fn_CT_within a1 0 (a3 - 1)) fun x1 =>
  if x1 = 0 then
    some 0
  else
    ct_ob (fn_CT_within a2 0 ((a3 - 1) - a1)) fun x2 =>
    if x2 = 0 then
      some 0
    else
      some 1
def fn_CT_cell (s : CS) (a1 : Int32) (a2 : Int32) : Option ((Nat × CS) ⊕ (Int32 × CS)) :=
  ct_ob (fn_Tr_shown s) fun x1 =>
  ct_ob (fn_CT_isCell a1 a2 x1) fun x2 =>
  ct_xb (fn_CT_check s x2) fun s3 =>
  ct_gd (ct_inR a1 6) <|
  ct_gd (ct_inR a2 6) <|
  some (.inr (cs_R s3 a1.toNatClampNeg a2.toNatClampNeg, s3))
def bk_Tr_mark_41 (a1 : Int32) (a2 : Int32) (a3 : Int32) (k18 : CS → Int32 → Int32 → Option (Int32 × CS)) (s : CS) (v4 : Int32) (v5 : Int32) : Option (Int32 × CS) :=
  k18 s v4 (v5 + 1)
def bk_Tr_mark_18_o (a1 : Int32) (a2 : Int32) (a3 : Int32) (k18 : CS → Int32 → Int32 → Option (Int32 × CS)) (s : CS) (v4 : Int32) (v5 : Int32) : Option (Int32 × CS) :=
  if 36 ≤ v5 then
    some (v4, s)
  else
    ct_gd (ct_inR v5 36) <|
    if (cs_A s 6 v5.toNatClampNeg) = 0 then
      bk_Tr_mark_41 a1 a2 a3 k18 s v4 v5
    else
      bk_Tr_mark_41 a1 a2 a3 k18 s (v4 + 1) v5
def bk_Tr_mark_18 (a1 : Int32) (a2 : Int32) (a3 : Int32) : Nat → CS → Int32 → Int32 → Option (Int32 × CS)
  | 0 => fun _ _ _ => none
  | n + 1 => bk_Tr_mark_18_o a1 a2 a3 (bk_Tr_mark_18 a1 a2 a3 n)
def fn_Tr_mark (s : CS) (a1 : Int32) (a2 : Int32) (a3 : Int32) : Option (Int32 × CS) :=
  ct_gd (ct_inR ((a1 * 6) + a2) 36) <|
  ct_nm (cs_A' s 6 ((a1 * 6) + a2).toNatClampNeg (vp_nar .boolean a3)) fun s1 =>
  bk_Tr_mark_18 a1 a2 a3 200 s1 0 0
def fn_CT_leave (s : CS) (a1 : Int32) (a2 : Int32) (a3 : Int32) : Option ((Nat × CS) ⊕ (Int32 × CS)) :=
  ct_ob (fn_CT_isCell a1 a2 (cs_I s 4)) fun x1 =>
  ct_xb (fn_CT_check s x1) fun s2 =>
  ct_ob2 (fn_Tr_mark s2 a1 a2 a3) fun x3 s4 =>
  some (.inr (x3, s4))
def fn_CT_latest (s : CS) (a1 : Int32) : Option ((Nat × CS) ⊕ CS) :=
  ct_ob (fn_CT_within a1 1 6) fun x1 =>
  ct_xb (fn_CT_check s x1) fun s2 =>
  ct_nm (cs_I' s2 6 a1) fun s3 =>
  some (.inr s3)
def fn_CT_hide (s : CS) (a1 : Int32) : Option ((Nat × CS) ⊕ (Int32 × CS)) :=
  ct_ob (fn_CT_within a1 0 ((cs_I s 4) - 1)) fun x1 =>
  ct_xb (fn_CT_check s x1) fun s2 =>
  ct_nm (cs_I' s2 5 a1) fun s3 =>
  ct_ob (fn_Tr_shown s3) fun x4 =>
  some (.inr (x4, s3))
def fn_CT_isChain (a1 : Int32) : Option Int32 :=
  if a1 = 0 then
    some 1
  else
    if ¬ a1 = 1 then
      some 0
    else
      some 1
def fn_Tr_takes (s : CS) (a1 : Int32) (a2 : Int32) : Option Int32 :=
  ct_gd (ct_inR ((a1 * 6) + a2) 36) <|
  if ¬ (cs_A s 6 ((a1 * 6) + a2).toNatClampNeg) = 0 then
    some 0
  else
    ct_gd (ct_inR (((a1 * 6) + a2) + 1) 36) <|
    if ¬ (cs_A s 6 (((a1 * 6) + a2) + 1).toNatClampNeg) = 0 then
      some 0
    else
      some 1
def bk_Re_linkUp_90 (a1 : Int32) (a2 : Int32) (s : CS) (v3 : Int64) (v5 : Int64) : Option CS :=
  ct_gd (ct_inR a1 5) <|
  ct_ob (fn_Fr_become s (3 + a1.toNatClampNeg) v3 v5) fun s6 =>
  some s6
def bk_Re_linkUp_84 (a1 : Int32) (a2 : Int32) (k21 : CS → Int64 → Int64 → Int32 → Int32 → Option CS) (s : CS) (v3 : Int64) (v5 : Int64) (v7 : Int32) (v8 : Int32) : Option CS :=
  k21 s v3 v5 v7 (v8 + (-1))
def bk_Re_linkUp_21_o (a1 : Int32) (a2 : Int32) (k21 : CS → Int64 → Int64 → Int32 → Int32 → Option CS) (s : CS) (v3 : Int64) (v5 : Int64) (v7 : Int32) (v8 : Int32) : Option CS :=
  if v8 < 0 then
    bk_Re_linkUp_90 a1 a2 s v3 v5
  else
    if a2 ≤ v7 then
      bk_Re_linkUp_90 a1 a2 s v3 v5
    else
      ct_ob (fn_Tr_takes s v8 a1) fun x3 =>
      if x3 = 0 then
        bk_Re_linkUp_84 a1 a2 k21 s v3 v5 v7 v8
      else
        ct_gd (ct_inR v8 6) <|
        ct_gd (ct_inR (a1 + 1) 6) <|
        ct_nm (v3 + ((cs_R s v8.toNatClampNeg (a1 + 1).toNatClampNeg).toInt64)) fun x4 =>
        ct_gd (ct_inR v8 6) <|
        ct_gd (ct_inR a1 6) <|
        ct_nm (v5 + ((cs_R s v8.toNatClampNeg a1.toNatClampNeg).toInt64)) fun x5 =>
        bk_Re_linkUp_84 a1 a2 k21 s x4 x5 (v7 + 1) v8
def bk_Re_linkUp_21 (a1 : Int32) (a2 : Int32) : Nat → CS → Int64 → Int64 → Int32 → Int32 → Option CS
  | 0 => fun _ _ _ _ _ => none
  | n + 1 => bk_Re_linkUp_21_o a1 a2 (bk_Re_linkUp_21 a1 a2 n)
def fn_Re_linkUp (s : CS) (a1 : Int32) (a2 : Int32) : Option CS :=
  ct_ob (fn_Tr_shown s) fun x1 =>
  ct_nm ((x1 - 2) - a1) fun x2 =>
  bk_Re_linkUp_21 a1 a2 200 s 0 0 0 x2
def bk_Re_prepare_20_o (a1 : Int32) (k20 : CS → Int32 → Int32 → Option CS) (s : CS) (v2 : Int32) (v3 : Int32) : Option CS :=
  ct_ob (fn_Tr_shown s) fun x1 =>
  if (x1 - 1) ≤ v3 then
    some s
  else
    ct_ob (fn_Re_linkUp s v3 v2) fun s2 =>
    k20 s2 v2 (v3 + 1)
def bk_Re_prepare_20 (a1 : Int32) : Nat → CS → Int32 → Int32 → Option CS
  | 0 => fun _ _ _ => none
  | n + 1 => bk_Re_prepare_20_o a1 (bk_Re_prepare_20 a1 n)
def bk_Re_prepare_17 (a1 : Int32) (s : CS) (t0 : Int32) : Option CS :=
  bk_Re_prepare_20 a1 200 s t0 0
def fn_Re_prepare (s : CS) (a1 : Int32) : Option CS :=
  if ¬ a1 = 1 then
    bk_Re_prepare_17 a1 s 6
  else
    bk_Re_prepare_17 a1 s (cs_I s 6)
def fn_Fr_copy (s : CS) (f : Nat) (a1 : Nat) : Option CS :=
  ct_nm (cs_F0' s f ((cs_F s a1).1)) fun s1 =>
  ct_nm (cs_F1' s1 f ((cs_F s1 a1).2.1)) fun s2 =>
  ct_nm (cs_F2' s2 f ((cs_F s2 a1).2.2)) fun s3 =>
  some s3
def fn_Re_toLink (s : CS) (a1 : Int32) : Option CS :=
  ct_gd (ct_inR a1 5) <|
  ct_ob (fn_Fr_copy s 8 (3 + a1.toNatClampNeg)) fun s1 =>
  some s1
def fn_CT_checkAnswer (s : CS) : Option ((Nat × CS) ⊕ CS) :=
  if ¬ ((cs_F s 8).2.2) = 2 then
    if ¬ ((cs_F s 8).2.2) = 1 then
      some (.inr s)
    else
      some (.inl (4, s))
  else
    some (.inl (3, s))
def fn_CT_partOfAnswer (s : CS) (a1 : Int32) : Option ((Nat × CS) ⊕ (Int64 × CS)) :=
  ct_xb (fn_CT_checkAnswer s) fun s1 =>
  if a1 = 0 then
    some (.inr ((cs_F s1 8).1, s1))
  else
    some (.inr ((cs_F s1 8).2.1, s1))
def bk_CT_factor_29 (a1 : Int32) (a2 : Int32) (a3 : Int32) (s : CS) (t0 : Int32) : Option ((Nat × CS) ⊕ (Int64 × CS)) :=
  ct_xb (fn_CT_check s t0) fun s4 =>
  ct_ob (fn_Re_prepare s4 a1) fun s5 =>
  ct_ob (fn_Re_toLink s5 a2) fun s6 =>
  ct_xb2 (fn_CT_partOfAnswer s6 a3) fun x7 s8 =>
  some (.inr (x7, s8))
def fn_CT_factor (s : CS) (a1 : Int32) (a2 : Int32) (a3 : Int32) : Option ((Nat × CS) ⊕ (Int64 × CS)) :=
  ct_ob (fn_CT_isChain a1) fun x1 =>
  if x1 = 0 then
    bk_CT_factor_29 a1 a2 a3 s 0
  else
    ct_ob (fn_Tr_shown s) fun x2 =>
    ct_ob (fn_CT_within a2 0 (x2 - 2)) fun x3 =>
    if x3 = 0 then
      bk_CT_factor_29 a1 a2 a3 s 0
    else
      bk_CT_factor_29 a1 a2 a3 s 1
def fn_CT_isMethod (a1 : Int32) : Option Int32 :=
  ct_ob (fn_CT_within a1 0 3) fun x1 =>
  ct_gd (ct_isB x1) <|
  some x1
def fn_CT_isRow (s : CS) (a1 : Int32) : Option Int32 :=
  ct_ob (fn_Tr_shown s) fun x1 =>
  ct_ob (fn_CT_within a1 0 (x1 - 1)) fun x2 =>
  ct_gd (ct_isB x2) <|
  some x2
def bk_Te_sumPremiums_12_o (a1 : Int32) (a2 : Int32) (a3 : Int32) (k12 : CS → Int32 → Int32 → Int32 → Option Int32) (s : CS) (v4 : Int32) (v5 : Int32) (v6 : Int32) : Option Int32 :=
  if (v4 + a2) ≤ v6 then
    some v5
  else
    if 72 ≤ v6 then
      some v5
    else
      ct_gd (ct_inR a1 2) <|
      ct_gd (ct_inR v6 72) <|
      ct_nm (v5 + (cs_P s a1.toNatClampNeg v6.toNatClampNeg)) fun x2 =>
      k12 s v4 x2 (v6 + 1)
def bk_Te_sumPremiums_12 (a1 : Int32) (a2 : Int32) (a3 : Int32) : Nat → CS → Int32 → Int32 → Int32 → Option Int32
  | 0 => fun _ _ _ _ => none
  | n + 1 => bk_Te_sumPremiums_12_o a1 a2 a3 (bk_Te_sumPremiums_12 a1 a2 a3 n)
def fn_Te_sumPremiums (s : CS) (a1 : Int32) (a2 : Int32) (a3 : Int32) : Option Int32 :=
  ct_nm (a3 * a2) fun x1 =>
  bk_Te_sumPremiums_12 a1 a2 a3 200 s x1 0 x1
def fn_Fr_becomeWhole (s : CS) (f : Nat) (a1 : Int64) : Option CS :=
  ct_nm (cs_F0' s f a1) fun s1 =>
  ct_nm (cs_F1' s1 f 1) fun s2 =>
  ct_nm (cs_F2' s2 f 0) fun s3 =>
  some s3
def fn_Fr_fits (a1 : Int64) (a2 : Int64) : Option Int32 :=
  if (lg_cmp a2 0) = 0 then
    some 1
  else
    ct_gd (ct_gzL (ct_abL a2)) <|
    if 0 < (lg_cmp (ct_abL a1) (4611686018427387904 / (ct_abL a2))) then
      some 0
    else
      some 1
def bk_Fr_times_102 (f : Nat) (a1 : Nat) (s : CS) : Option CS :=
  ct_nm (cs_F2' s f 1) fun s12 =>
  some s12
def fn_Fr_times (s : CS) (f : Nat) (a1 : Nat) : Option CS :=
  ct_nm (cs_F2' s f (ct_mxI ((cs_F s f).2.2) ((cs_F s a1).2.2))) fun s1 =>
  if ((cs_F s1 f).2.2) = 0 then
    ct_ob (fn_Fr_divisor ((cs_F s1 f).1) ((cs_F s1 a1).2.1)) fun x2 =>
    ct_ob (fn_Fr_divisor ((cs_F s1 a1).1) ((cs_F s1 f).2.1)) fun x3 =>
    ct_gd (ct_gzL x2) <|
    ct_nm (((cs_F s1 f).1) / x2) fun x4 =>
    ct_gd (ct_gzL x3) <|
    ct_nm (((cs_F s1 f).2.1) / x3) fun x5 =>
    ct_gd (ct_gzL x3) <|
    ct_nm (((cs_F s1 a1).1) / x3) fun x6 =>
    ct_gd (ct_gzL x2) <|
    ct_nm (((cs_F s1 a1).2.1) / x2) fun x7 =>
    ct_ob (fn_Fr_fits x4 x6) fun x8 =>
    if x8 = 0 then
      bk_Fr_times_102 f a1 s1
    else
      ct_ob (fn_Fr_fits x5 x7) fun x9 =>
      if ¬ x9 = 0 then
        ct_nm (cs_F0' s1 f (x4 * x6)) fun s10 =>
        ct_nm (cs_F1' s10 f (x5 * x7)) fun s11 =>
        some s11
      else
        bk_Fr_times_102 f a1 s1
  else
    some s1
def fn_Re_expect (s : CS) (a1 : Int32) : Option CS :=
  ct_ob (fn_Te_sumPremiums s (cs_I s 1) (cs_I s 2) a1) fun x1 =>
  ct_ob (fn_Fr_becomeWhole s 10 x1.toInt64) fun s2 =>
  ct_ob (fn_Te_ratioOf s2 (cs_I s2 1)) fun x3 =>
  ct_ob (fn_Fr_times s2 10 x3) fun s4 =>
  some s4
def bk_Re_chain_10_o (a1 : Int32) (a2 : Int32) (k10 : CS → Int32 → Option CS) (s : CS) (v3 : Int32) : Option CS :=
  if a2 < v3 then
    some s
  else
    ct_gd (ct_inR v3 5) <|
    ct_ob (fn_Fr_times s 8 (3 + v3.toNatClampNeg)) fun s2 =>
    k10 s2 (v3 + 1)
def bk_Re_chain_10 (a1 : Int32) (a2 : Int32) : Nat → CS → Int32 → Option CS
  | 0 => fun _ _ => none
  | n + 1 => bk_Re_chain_10_o a1 a2 (bk_Re_chain_10 a1 a2 n)
def fn_Re_chain (s : CS) (a1 : Int32) (a2 : Int32) : Option CS :=
  ct_ob (fn_Fr_becomeWhole s 8 1) fun s1 =>
  bk_Re_chain_10 a1 a2 200 s1 a1
def bk_Fr_invert_44 (f : Nat) (s : CS) (t0 : Int64) : Option CS :=
  ct_nm (cs_F1' s f (ct_abL ((cs_F s f).1))) fun s2 =>
  ct_nm (cs_F0' s2 f t0) fun s3 =>
  some s3
def fn_Fr_invert (s : CS) (f : Nat) : Option CS :=
  if ((cs_F s f).2.2) = 0 then
    if ¬ (lg_cmp ((cs_F s f).1) 0) = 0 then
      if 0 ≤ (lg_cmp ((cs_F s f).1) 0) then
        bk_Fr_invert_44 f s ((cs_F s f).2.1)
      else
        bk_Fr_invert_44 f s (-((cs_F s f).2.1))
    else
      ct_nm (cs_F2' s f 2) fun s1 =>
      some s1
  else
    some s
def fn_Fr_negate (s : CS) (f : Nat) : Option CS :=
  ct_nm (cs_F0' s f (-((cs_F s f).1))) fun s1 =>
  some s1
def fn_Re_asWhole (s : CS) (a1 : Int64) : Option (Nat × CS) :=
  ct_ob (fn_Fr_becomeWhole s 9 a1) fun s1 =>
  some (9, s1)
theorem lt_Re_asWhole {s s1 : CS} {a1 : Int64} {x : Nat} (h : fn_Re_asWhole s a1 = some (x, s1)) : x < 12 := by
  unfold fn_Re_asWhole at h
  obtain ⟨a, -, h⟩ := ct_ob_some h
  have h := congrArg Prod.fst (Option.some.inj h)
  simp only at h
  omega
def bk_Fr_plus_151 (f : Nat) (a1 : Nat) (s : CS) (v4 : Int64) (v8 : Int64) (v10 : Int64) : Option CS :=
  ct_nm (((cs_F s f).2.1) * v4) fun x12 =>
  ct_ob (fn_Fr_divisor (v8 + v10) x12) fun x13 =>
  ct_gd (ct_gzL x13) <|
  ct_nm (cs_F0' s f ((v8 + v10) / x13)) fun s14 =>
  ct_gd (ct_gzL x13) <|
  ct_nm (cs_F1' s14 f (x12 / x13)) fun s15 =>
  some s15
def bk_Fr_plus_145 (f : Nat) (a1 : Nat) (s : CS) : Option CS :=
  ct_nm (cs_F2' s f 1) fun s11 =>
  some s11
def bk_Fr_plus_87 (f : Nat) (a1 : Nat) (s : CS) : Option CS :=
  ct_nm (cs_F2' s f 1) fun s10 =>
  some s10
def fn_Fr_plus (s : CS) (f : Nat) (a1 : Nat) : Option CS :=
  ct_nm (cs_F2' s f (ct_mxI ((cs_F s f).2.2) ((cs_F s a1).2.2))) fun s1 =>
  if ((cs_F s1 f).2.2) = 0 then
    ct_ob (fn_Fr_divisor ((cs_F s1 f).2.1) ((cs_F s1 a1).2.1)) fun x2 =>
    ct_gd (ct_gzL x2) <|
    ct_nm (((cs_F s1 a1).2.1) / x2) fun x3 =>
    ct_gd (ct_gzL x2) <|
    ct_nm (((cs_F s1 f).2.1) / x2) fun x4 =>
    ct_ob (fn_Fr_fits ((cs_F s1 f).2.1) x3) fun x5 =>
    if x5 = 0 then
      bk_Fr_plus_87 f a1 s1
    else
      ct_ob (fn_Fr_fits ((cs_F s1 f).1) x3) fun x6 =>
      if x6 = 0 then
        bk_Fr_plus_87 f a1 s1
      else
        ct_ob (fn_Fr_fits ((cs_F s1 a1).1) x4) fun x7 =>
        if ¬ x7 = 0 then
          ct_nm (((cs_F s1 f).1) * x3) fun x8 =>
          ct_nm (((cs_F s1 a1).1) * x4) fun x9 =>
          if (lg_cmp x8 0) ≤ 0 then
            if 0 ≤ (lg_cmp x9 ((-4611686018427387904) - x8)) then
              bk_Fr_plus_151 f a1 s1 x3 x8 x9
            else
              bk_Fr_plus_145 f a1 s1
          else
            if (lg_cmp x9 (4611686018427387904 - x8)) ≤ 0 then
              bk_Fr_plus_151 f a1 s1 x3 x8 x9
            else
              bk_Fr_plus_145 f a1 s1
        else
          bk_Fr_plus_87 f a1 s1
  else
    some s1
def fn_Tr_latestOf (s : CS) (a1 : Int32) : Option Int32 :=
  ct_gd (ct_inR a1 6) <|
  ct_ob (fn_Tr_shown s) fun x1 =>
  ct_gd (ct_inR ((x1 - 1) - a1) 6) <|
  some (cs_R s a1.toNatClampNeg ((x1 - 1) - a1).toNatClampNeg)
def fn_Re_blend (s : CS) (a1 : Int32) : Option CS :=
  ct_ob (fn_Fr_invert s 8) fun s1 =>
  ct_ob (fn_Fr_negate s1 8) fun s2 =>
  ct_ob2 (fn_Re_asWhole s2 1) fun x3 s4 =>
  ct_ob (fn_Fr_plus s4 8 x3) fun s5 =>
  ct_ob (fn_Fr_times s5 8 10) fun s6 =>
  ct_ob (fn_Tr_latestOf s6 a1) fun x7 =>
  ct_ob2 (fn_Re_asWhole s6 x7.toInt64) fun x8 s9 =>
  ct_ob (fn_Fr_plus s9 8 x8) fun s10 =>
  some s10
def bk_Re_toUltimate_15 (a1 : Int32) (a2 : Int32) (s : CS) : Option CS :=
  if ¬ a1 = 2 then
    ct_ob (fn_Tr_shown s) fun x2 =>
    ct_ob (fn_Tr_shown s) fun x3 =>
    ct_ob (fn_Re_chain s ((x2 - 1) - a2) (x3 - 2)) fun s4 =>
    ct_ob (fn_Fr_times s4 8 2) fun s5 =>
    if ¬ a1 = 3 then
      ct_ob (fn_Tr_latestOf s5 a2) fun x6 =>
      ct_ob2 (fn_Re_asWhole s5 x6.toInt64) fun x7 s8 =>
      ct_ob (fn_Fr_times s8 8 x7) fun s9 =>
      some s9
    else
      ct_ob (fn_Re_blend s5 a2) fun s10 =>
      some s10
  else
    ct_ob (fn_Fr_copy s 8 10) fun s11 =>
    some s11
def bk_Re_toUltimate_10 (a1 : Int32) (a2 : Int32) (s : CS) : Option CS :=
  ct_ob (fn_Re_expect s a2) fun s1 =>
  bk_Re_toUltimate_15 a1 a2 s1
def fn_Re_toUltimate (s : CS) (a1 : Int32) (a2 : Int32) : Option CS :=
  if a1 = 2 then
    bk_Re_toUltimate_10 a1 a2 s
  else
    if ¬ a1 = 3 then
      bk_Re_toUltimate_15 a1 a2 s
    else
      bk_Re_toUltimate_10 a1 a2 s
def bk_CT_ultimate_20 (a1 : Int32) (a2 : Int32) (a3 : Int32) (s : CS) (t0 : Int32) : Option ((Nat × CS) ⊕ (Int64 × CS)) :=
  ct_xb (fn_CT_check s t0) fun s3 =>
  ct_ob (fn_Re_prepare s3 a1) fun s4 =>
  ct_ob (fn_Re_toUltimate s4 a1 a2) fun s5 =>
  ct_xb2 (fn_CT_partOfAnswer s5 a3) fun x6 s7 =>
  some (.inr (x6, s7))
def fn_CT_ultimate (s : CS) (a1 : Int32) (a2 : Int32) (a3 : Int32) : Option ((Nat × CS) ⊕ (Int64 × CS)) :=
  ct_ob (fn_CT_isMethod a1) fun x1 =>
  if x1 = 0 then
    bk_CT_ultimate_20 a1 a2 a3 s 0
  else
    ct_ob (fn_CT_isRow s a2) fun x2 =>
    if x2 = 0 then
      bk_CT_ultimate_20 a1 a2 a3 s 0
    else
      bk_CT_ultimate_20 a1 a2 a3 s 1
def fn_Re_toReserve (s : CS) (a1 : Int32) (a2 : Int32) : Option CS :=
  ct_ob (fn_Re_toUltimate s a1 a2) fun s1 =>
  ct_ob (fn_Tr_latestOf s1 a2) fun x2 =>
  ct_ob2 (fn_Re_asWhole s1 ((-x2).toInt64)) fun x3 s4 =>
  ct_ob (fn_Fr_plus s4 8 x3) fun s5 =>
  some s5
def bk_CT_reserve_20 (a1 : Int32) (a2 : Int32) (a3 : Int32) (s : CS) (t0 : Int32) : Option ((Nat × CS) ⊕ (Int64 × CS)) :=
  ct_xb (fn_CT_check s t0) fun s3 =>
  ct_ob (fn_Re_prepare s3 a1) fun s4 =>
  ct_ob (fn_Re_toReserve s4 a1 a2) fun s5 =>
  ct_xb2 (fn_CT_partOfAnswer s5 a3) fun x6 s7 =>
  some (.inr (x6, s7))
def fn_CT_reserve (s : CS) (a1 : Int32) (a2 : Int32) (a3 : Int32) : Option ((Nat × CS) ⊕ (Int64 × CS)) :=
  ct_ob (fn_CT_isMethod a1) fun x1 =>
  if x1 = 0 then
    bk_CT_reserve_20 a1 a2 a3 s 0
  else
    ct_ob (fn_CT_isRow s a2) fun x2 =>
    if x2 = 0 then
      bk_CT_reserve_20 a1 a2 a3 s 0
    else
      bk_CT_reserve_20 a1 a2 a3 s 1
def fn_Ma_floorDiv (a1 : Int64) (a2 : Int64) : Option Int64 :=
  ct_gd (ct_gzL a2) <|
  ct_nm (a1 / a2) fun x1 =>
  if 0 ≤ (lg_cmp (a1 ^^^ a2) 0) then
    some x1
  else
    if (lg_cmp (x1 * a2) a1) = 0 then
      some x1
    else
      ct_nm (x1 - 1) fun x2 =>
      some x2
def fn_Fr_nearest (s : CS) (f : Nat) : Option Int64 :=
  ct_ob (fn_Ma_floorDiv ((cs_F s f).1) ((cs_F s f).2.1)) fun x1 =>
  ct_nm (((cs_F s f).1) - (x1 * ((cs_F s f).2.1))) fun x2 =>
  if (lg_cmp x2 (((cs_F s f).2.1) - x2)) < 0 then
    some x1
  else
    some (x1 + 1)
def bk_CT_rounded_20 (a1 : Int32) (a2 : Int32) (s : CS) (t0 : Int32) : Option ((Nat × CS) ⊕ (Int64 × CS)) :=
  ct_xb (fn_CT_check s t0) fun s3 =>
  ct_ob (fn_Re_prepare s3 a1) fun s4 =>
  ct_ob (fn_Re_toReserve s4 a1 a2) fun s5 =>
  ct_xb (fn_CT_checkAnswer s5) fun s6 =>
  ct_ob (fn_Fr_nearest s6 8) fun x7 =>
  some (.inr (x7, s6))
def fn_CT_rounded (s : CS) (a1 : Int32) (a2 : Int32) : Option ((Nat × CS) ⊕ (Int64 × CS)) :=
  ct_ob (fn_CT_isMethod a1) fun x1 =>
  if x1 = 0 then
    bk_CT_rounded_20 a1 a2 s 0
  else
    ct_ob (fn_CT_isRow s a2) fun x2 =>
    if x2 = 0 then
      bk_CT_rounded_20 a1 a2 s 0
    else
      bk_CT_rounded_20 a1 a2 s 1
def bk_Re_toTotal_10_o (a1 : Int32) (k10 : CS → Int32 → Option CS) (s : CS) (v2 : Int32) : Option CS :=
  ct_ob (fn_Tr_shown s) fun x2 =>
  if x2 ≤ v2 then
    ct_ob (fn_Fr_copy s 8 11) fun s3 =>
    some s3
  else
    ct_ob (fn_Re_toReserve s a1 v2) fun s4 =>
    ct_ob (fn_Fr_plus s4 11 8) fun s5 =>
    k10 s5 (v2 + 1)
def bk_Re_toTotal_10 (a1 : Int32) : Nat → CS → Int32 → Option CS
  | 0 => fun _ _ => none
  | n + 1 => bk_Re_toTotal_10_o a1 (bk_Re_toTotal_10 a1 n)
def fn_Re_toTotal (s : CS) (a1 : Int32) : Option CS :=
  ct_ob (fn_Fr_becomeWhole s 11 0) fun s1 =>
  bk_Re_toTotal_10 a1 200 s1 0
def fn_CT_total (s : CS) (a1 : Int32) (a2 : Int32) : Option ((Nat × CS) ⊕ (Int64 × CS)) :=
  ct_ob (fn_CT_isMethod a1) fun x1 =>
  ct_xb (fn_CT_check s x1) fun s2 =>
  ct_ob (fn_Re_prepare s2 a1) fun s3 =>
  ct_ob (fn_Re_toTotal s3 a1) fun s4 =>
  ct_xb2 (fn_CT_partOfAnswer s4 a2) fun x5 s6 =>
  some (.inr (x5, s6))
def bk_Re_markRows_52 (a1 : Int32) (k4 : CS → Int32 → Int32 → Option (Int32 × CS)) (s : CS) (v2 : Int32) (v3 : Int32) : Option (Int32 × CS) :=
  k4 s v2 (v3 + 1)
def bk_Re_markRows_4_o (a1 : Int32) (k4 : CS → Int32 → Int32 → Option (Int32 × CS)) (s : CS) (v2 : Int32) (v3 : Int32) : Option (Int32 × CS) :=
  ct_ob (fn_Tr_shown s) fun x1 =>
  if x1 ≤ v3 then
    some (v2, s)
  else
    ct_ob (fn_Re_toReserve s a1 v3) fun s2 =>
    if ¬ ((cs_F s2 8).2.2) = 2 then
      if ¬ ((cs_F s2 8).2.2) = 1 then
        bk_Re_markRows_52 a1 k4 s2 v2 v3
      else
        bk_Re_markRows_52 a1 k4 s2 (v2 + 10) v3
    else
      bk_Re_markRows_52 a1 k4 s2 (v2 + 1) v3
def bk_Re_markRows_4 (a1 : Int32) : Nat → CS → Int32 → Int32 → Option (Int32 × CS)
  | 0 => fun _ _ _ => none
  | n + 1 => bk_Re_markRows_4_o a1 (bk_Re_markRows_4 a1 n)
def fn_Re_markRows (s : CS) (a1 : Int32) : Option (Int32 × CS) :=
  bk_Re_markRows_4 a1 200 s 0 0
def fn_CT_marks (s : CS) (a1 : Int32) : Option ((Nat × CS) ⊕ (Int32 × CS)) :=
  ct_ob (fn_CT_isMethod a1) fun x1 =>
  ct_xb (fn_CT_check s x1) fun s2 =>
  ct_ob (fn_Re_prepare s2 a1) fun s3 =>
  ct_ob2 (fn_Re_markRows s3 a1) fun x4 s5 =>
  some (.inr (x4, s5))
def fn_Re_toSquare (s : CS) (a1 : Int32) (a2 : Int32) : Option CS :=
  ct_gd (ct_inR a2 5) <|
  ct_ob (fn_Fr_copy s 8 (3 + a2.toNatClampNeg)) fun s1 =>
  ct_gd (ct_inR a1 6) <|
  ct_gd (ct_inR a2 6) <|
  ct_ob2 (fn_Re_asWhole s1 ((cs_R s1 a1.toNatClampNeg a2.toNatClampNeg).toInt64)) fun x2 s3 =>
  ct_ob (fn_Fr_times s3 8 x2) fun s4 =>
  ct_ob (fn_Fr_negate s4 8) fun s5 =>
  ct_gd (ct_inR a1 6) <|
  ct_gd (ct_inR (a2 + 1) 6) <|
  ct_ob2 (fn_Re_asWhole s5 ((cs_R s5 a1.toNatClampNeg (a2 + 1).toNatClampNeg).toInt64)) fun x6 s7 =>
  ct_ob (fn_Fr_plus s7 8 x6) fun s8 =>
  ct_ob (fn_Fr_times s8 8 8) fun s9 =>
  ct_gd (ct_inR a1 6) <|
  ct_gd (ct_inR a2 6) <|
  ct_ob (fn_Fr_become s9 9 1 ((cs_R s9 a1.toNatClampNeg a2.toNatClampNeg).toInt64)) fun s10 =>
  ct_ob (fn_Fr_times s10 8 9) fun s11 =>
  some s11
def bk_Re_toDeviation_59 (a1 : Int32) (k12 : CS → Int32 → Int32 → Option CS) (s : CS) (v2 : Int32) (v3 : Int32) : Option CS :=
  k12 s v2 (v3 + 1)
def bk_Re_toDeviation_12_o (a1 : Int32) (k12 : CS → Int32 → Int32 → Option CS) (s : CS) (v2 : Int32) (v3 : Int32) : Option CS :=
  ct_ob (fn_Tr_shown s) fun x2 =>
  if ((x2 - 1) - a1) ≤ v3 then
    ct_ob (fn_Fr_become s 8 1 ((ct_mxI (v2 - 1) 0).toInt64)) fun s3 =>
    ct_ob (fn_Fr_times s3 8 11) fun s4 =>
    some s4
  else
    ct_ob (fn_Tr_takes s v3 a1) fun x5 =>
    if x5 = 0 then
      bk_Re_toDeviation_59 a1 k12 s v2 v3
    else
      ct_ob (fn_Re_toSquare s v3 a1) fun s6 =>
      ct_ob (fn_Fr_plus s6 11 8) fun s7 =>
      bk_Re_toDeviation_59 a1 k12 s7 (v2 + 1) v3
def bk_Re_toDeviation_12 (a1 : Int32) : Nat → CS → Int32 → Int32 → Option CS
  | 0 => fun _ _ _ => none
  | n + 1 => bk_Re_toDeviation_12_o a1 (bk_Re_toDeviation_12 a1 n)
def fn_Re_toDeviation (s : CS) (a1 : Int32) : Option CS :=
  ct_ob (fn_Fr_becomeWhole s 11 0) fun s1 =>
  bk_Re_toDeviation_12 a1 200 s1 0 0
def fn_CT_deviation (s : CS) (a1 : Int32) (a2 : Int32) : Option ((Nat × CS) ⊕ (Int64 × CS)) :=
  ct_ob (fn_Tr_shown s) fun x1 =>
  ct_ob (fn_CT_within a1 0 (x1 - 2)) fun x2 =>
  ct_xb (fn_CT_check s x2) fun s3 =>
  ct_ob (fn_Re_prepare s3 0) fun s4 =>
  ct_ob (fn_Re_toDeviation s4 a1) fun s5 =>
  ct_xb2 (fn_CT_partOfAnswer s5 a2) fun x6 s7 =>
  some (.inr (x6, s7))
def fn_Re_toError (s : CS) (a1 : Int32) : Option CS :=
  ct_ob (fn_Tr_shown s) fun x1 =>
  ct_ob (fn_Re_chain s ((x1 - 1) - a1) (((cs_I s 4) - 2) - a1)) fun s2 =>
  ct_ob (fn_Tr_latestOf s2 a1) fun x3 =>
  ct_ob2 (fn_Re_asWhole s2 x3.toInt64) fun x4 s5 =>
  ct_ob (fn_Fr_times s5 8 x4) fun s6 =>
  ct_gd (ct_inR a1 6) <|
  ct_gd (ct_inR (((cs_I s6 4) - 1) - a1) 6) <|
  ct_ob2 (fn_Re_asWhole s6 ((-(cs_R s6 a1.toNatClampNeg (((cs_I s6 4) - 1) - a1).toNatClampNeg)).toInt64)) fun x7 s8 =>
  ct_ob (fn_Fr_plus s8 8 x7) fun s9 =>
  some s9
def bk_CT_error_35 (a1 : Int32) (a2 : Int32) (a3 : Int32) (s : CS) (t0 : Int32) : Option ((Nat × CS) ⊕ (Int64 × CS)) :=
  ct_xb (fn_CT_check s t0) fun s4 =>
  ct_ob (fn_Re_prepare s4 a1) fun s5 =>
  ct_ob (fn_Re_toError s5 a2) fun s6 =>
  ct_xb2 (fn_CT_partOfAnswer s6 a3) fun x7 s8 =>
  some (.inr (x7, s8))
def fn_CT_error (s : CS) (a1 : Int32) (a2 : Int32) (a3 : Int32) : Option ((Nat × CS) ⊕ (Int64 × CS)) :=
  ct_ob (fn_CT_isChain a1) fun x1 =>
  if x1 = 0 then
    bk_CT_error_35 a1 a2 a3 s 0
  else
    ct_ob (fn_Tr_shown s) fun x2 =>
    ct_ob (fn_CT_within a2 (cs_I s 5) (x2 - 1)) fun x3 =>
    if x3 = 0 then
      bk_CT_error_35 a1 a2 a3 s 0
    else
      bk_CT_error_35 a1 a2 a3 s 1
def bk_Tr_growth_52 (a1 : Int32) (k4 : CS → Int32 → Int32 → Option Int32) (s : CS) (t0 : Int32) (t1 : Int32) (v3 : Int32) : Option Int32 :=
  ct_nm (t0 + t1) fun x2 =>
  k4 s x2 (v3 + 1)
def bk_Tr_growth_4_o (a1 : Int32) (k4 : CS → Int32 → Int32 → Option Int32) (s : CS) (v2 : Int32) (v3 : Int32) : Option Int32 :=
  if a1 < v3 then
    some v2
  else
    ct_nm (a1 - v3) fun x1 =>
    if ¬ x1 = 0 then
      ct_gd (ct_inR v3 6) <|
      ct_gd (ct_inR x1 6) <|
      ct_gd (ct_inR v3 6) <|
      ct_gd (ct_inR (x1 - 1) 6) <|
      bk_Tr_growth_52 a1 k4 s v2 ((cs_R s v3.toNatClampNeg x1.toNatClampNeg) - (cs_R s v3.toNatClampNeg (x1 - 1).toNatClampNeg)) v3
    else
      ct_gd (ct_inR v3 6) <|
      ct_gd (ct_inR 0 6) <|
      bk_Tr_growth_52 a1 k4 s v2 (cs_R s v3.toNatClampNeg (0 : Int32).toNatClampNeg) v3
def bk_Tr_growth_4 (a1 : Int32) : Nat → CS → Int32 → Int32 → Option Int32
  | 0 => fun _ _ _ => none
  | n + 1 => bk_Tr_growth_4_o a1 (bk_Tr_growth_4 a1 n)
def fn_Tr_growth (s : CS) (a1 : Int32) : Option Int32 :=
  bk_Tr_growth_4 a1 200 s 0 0
def fn_CT_diagonal (s : CS) (a1 : Int32) : Option ((Nat × CS) ⊕ (Int32 × CS)) :=
  ct_ob (fn_Tr_shown s) fun x1 =>
  ct_ob (fn_CT_within a1 0 (x1 - 1)) fun x2 =>
  ct_xb (fn_CT_check s x2) fun s3 =>
  ct_ob (fn_Tr_growth s3 a1) fun x4 =>
  some (.inr (x4, s3))
def bk_Le_countLiving_24 (k4 : CS → Int32 → Int32 → Option Int32) (s : CS) (v1 : Int32) (v2 : Int32) : Option Int32 :=
  k4 s v1 (v2 + 1)
def bk_Le_countLiving_4_o (k4 : CS → Int32 → Int32 → Option Int32) (s : CS) (v1 : Int32) (v2 : Int32) : Option Int32 :=
  if (cs_I s 0) ≤ v2 then
    some v1
  else
    ct_gd (ct_inR v2 60) <|
    if (cs_A s 5 v2.toNatClampNeg) = 0 then
      bk_Le_countLiving_24 k4 s v1 v2
    else
      bk_Le_countLiving_24 k4 s (v1 + 1) v2
def bk_Le_countLiving_4 : Nat → CS → Int32 → Int32 → Option Int32
  | 0 => fun _ _ _ => none
  | n + 1 => bk_Le_countLiving_4_o (bk_Le_countLiving_4 n)
def fn_Le_countLiving (s : CS) : Option Int32 :=
  bk_Le_countLiving_4 200 s 0 0
def bk_Le_sumPayments_39 (a1 : Int32) (k4 : CS → Int32 → Int32 → Option Int32) (s : CS) (v2 : Int32) (v3 : Int32) : Option Int32 :=
  k4 s v2 (v3 + 1)
def bk_Le_sumPayments_4_o (a1 : Int32) (k4 : CS → Int32 → Int32 → Option Int32) (s : CS) (v2 : Int32) (v3 : Int32) : Option Int32 :=
  if (cs_I s 0) ≤ v3 then
    some v2
  else
    ct_ob (fn_Le_livesIn s v3 a1) fun x1 =>
    if x1 = 0 then
      bk_Le_sumPayments_39 a1 k4 s v2 v3
    else
      ct_gd (ct_inR v3 60) <|
      if ¬ (cs_A s 4 v3.toNatClampNeg) = 0 then
        bk_Le_sumPayments_39 a1 k4 s v2 v3
      else
        ct_gd (ct_inR v3 60) <|
        ct_nm (v2 + (cs_A s 3 v3.toNatClampNeg)) fun x2 =>
        bk_Le_sumPayments_39 a1 k4 s x2 v3
def bk_Le_sumPayments_4 (a1 : Int32) : Nat → CS → Int32 → Int32 → Option Int32
  | 0 => fun _ _ _ => none
  | n + 1 => bk_Le_sumPayments_4_o a1 (bk_Le_sumPayments_4 a1 n)
def fn_Le_sumPayments (s : CS) (a1 : Int32) : Option Int32 :=
  bk_Le_sumPayments_4 a1 200 s 0 0
def fn_CT_count (s : CS) (a1 : Int32) : Option ((Nat × CS) ⊕ (Int32 × CS)) :=
  if a1 = 0 then
    some (.inr (cs_I s 0, s))
  else
  if a1 = 1 then
    ct_ob (fn_Le_countLiving s) fun x1 =>
    some (.inr (x1, s))
  else
  if a1 = 2 then
    ct_ob (fn_Tr_shown s) fun x2 =>
    some (.inr (x2, s))
  else
  if a1 = 3 then
    some (.inr (cs_I s 5, s))
  else
  if a1 = 4 then
    ct_ob (fn_Le_sumPayments s (cs_I s 1)) fun x3 =>
    some (.inr (x3, s))
  else
  some (.inl (1, s))
def fn_Mo_thrown (s : MS) : Option Int32 :=
  some (ms_I s 0)
def fn_Mo_noLine (a1 : Int32) : Option Int32 :=
  if a1 < 0 then
    some 1
  else
    if a1 ≤ 1 then
      some 0
    else
      some 1
def fn_Mo_noMonths (a1 : Int32) (a2 : Int32) : Option Int32 :=
  if a1 < 0 then
    some 1
  else
    if 71 < a1 then
      some 1
    else
      if a2 < a1 then
        some 1
      else
        if a2 ≤ 71 then
          some 0
        else
          some 1
def bk_Mo_enter_73 (a1 : Int32) (a2 : Int32) (a3 : Int32) (a4 : Int32) (a5 : Int32) (s : MS) (t1 : Int32) : Option (Int32 × MS) :=
  ct_nm (ms_I' s 0 t1) fun s3 =>
  if (ms_I s3 0) = 0 then
    ct_gd (ct_inR (ms_I s3 1) 60) <|
    ct_nm (ms_A' s3 0 (ms_I s3 1).toNatClampNeg a1) fun s4 =>
    ct_gd (ct_inR (ms_I s4 1) 60) <|
    ct_nm (ms_A' s4 1 (ms_I s4 1).toNatClampNeg a2) fun s5 =>
    ct_gd (ct_inR (ms_I s5 1) 60) <|
    ct_nm (ms_A' s5 2 (ms_I s5 1).toNatClampNeg a3) fun s6 =>
    ct_gd (ct_inR (ms_I s6 1) 60) <|
    ct_nm (ms_A' s6 3 (ms_I s6 1).toNatClampNeg a4) fun s7 =>
    ct_gd (ct_inR (ms_I s7 1) 60) <|
    ct_nm (ms_A' s7 4 (ms_I s7 1).toNatClampNeg (vp_nar .boolean a5)) fun s8 =>
    ct_gd (ct_inR (ms_I s8 1) 60) <|
    ct_nm (ms_A' s8 5 (ms_I s8 1).toNatClampNeg (vp_nar .boolean 0)) fun s9 =>
    ct_nm (ms_I' s9 1 ((ms_I s9 1) + 1)) fun s10 =>
    some ((ms_I s10 1) - 1, s10)
  else
    some (0, s3)
def bk_Mo_enter_47 (a1 : Int32) (a2 : Int32) (a3 : Int32) (a4 : Int32) (a5 : Int32) (s : MS) (t0 : Int32) : Option (Int32 × MS) :=
  if t0 = 0 then
    if ¬ (ms_I s 1) = 60 then
      bk_Mo_enter_73 a1 a2 a3 a4 a5 s 0
    else
      bk_Mo_enter_73 a1 a2 a3 a4 a5 s 2
  else
    bk_Mo_enter_73 a1 a2 a3 a4 a5 s 1
def bk_Mo_enter_39 (a1 : Int32) (a2 : Int32) (a3 : Int32) (a4 : Int32) (a5 : Int32) (s : MS) (t0 : Int32) (t1 : Int32) : Option (Int32 × MS) :=
  if t1 ≤ t0 then
    bk_Mo_enter_47 a1 a2 a3 a4 a5 s 0
  else
    bk_Mo_enter_47 a1 a2 a3 a4 a5 s 1
def fn_Mo_enter (s : MS) (a1 : Int32) (a2 : Int32) (a3 : Int32) (a4 : Int32) (a5 : Int32) : Option (Int32 × MS) :=
  ct_ob (fn_Mo_noLine a1) fun x1 =>
  if ¬ x1 = 0 then
    bk_Mo_enter_47 a1 a2 a3 a4 a5 s 1
  else
    ct_ob (fn_Mo_noMonths a2 a3) fun x2 =>
    if ¬ x2 = 0 then
      bk_Mo_enter_47 a1 a2 a3 a4 a5 s 1
    else
      if 9999 < a4 then
        bk_Mo_enter_47 a1 a2 a3 a4 a5 s 1
      else
        if a5 = 0 then
          bk_Mo_enter_39 a1 a2 a3 a4 a5 s a4 0
        else
          bk_Mo_enter_39 a1 a2 a3 a4 a5 s a4 (-9999)
def fn_Mo_pay (s : MS) (a1 : Int32) (a2 : Int32) (a3 : Int32) (a4 : Int32) : Option (Int32 × MS) :=
  ct_ob2 (fn_Mo_enter s a1 a2 a3 a4 1) fun x1 s2 =>
  some (x1, s2)
def fn_Mo_estimate (s : MS) (a1 : Int32) (a2 : Int32) (a3 : Int32) (a4 : Int32) : Option (Int32 × MS) :=
  ct_ob2 (fn_Mo_enter s a1 a2 a3 a4 0) fun x1 s2 =>
  some (x1, s2)
def fn_Mo_noEntry (s : MS) (a1 : Int32) : Option Int32 :=
  if a1 < 0 then
    some 1
  else
    if a1 < (ms_I s 1) then
      some 0
    else
      some 1
def bk_Mo_strike_27 (a1 : Int32) (s : MS) (t1 : Int32) : Option (Int32 × MS) :=
  ct_nm (ms_I' s 0 t1) fun s2 =>
  if (ms_I s2 0) = 0 then
    ct_gd (ct_inR a1 60) <|
    ct_nm (ms_A' s2 5 a1.toNatClampNeg (vp_nar .boolean 1)) fun s3 =>
    ct_gd (ct_inR a1 60) <|
    some (ms_A s3 3 a1.toNatClampNeg, s3)
  else
    some (0, s2)
def fn_Mo_strike (s : MS) (a1 : Int32) : Option (Int32 × MS) :=
  ct_ob (fn_Mo_noEntry s a1) fun x1 =>
  if x1 = 0 then
    ct_gd (ct_inR a1 60) <|
    if (ms_A s 5 a1.toNatClampNeg) = 0 then
      bk_Mo_strike_27 a1 s 0
    else
      bk_Mo_strike_27 a1 s 2
  else
    bk_Mo_strike_27 a1 s 1
def bk_Mo_move_36 (a1 : Int32) (a2 : Int32) (a3 : Int32) (s : MS) (t1 : Int32) : Option MS :=
  ct_nm (ms_I' s 0 t1) fun s3 =>
  if ¬ (ms_I s3 0) = 0 then
    some s3
  else
    ct_gd (ct_inR a1 60) <|
    ct_nm (ms_A' s3 1 a1.toNatClampNeg a2) fun s4 =>
    ct_gd (ct_inR a1 60) <|
    ct_nm (ms_A' s4 2 a1.toNatClampNeg a3) fun s5 =>
    some s5
def fn_Mo_move (s : MS) (a1 : Int32) (a2 : Int32) (a3 : Int32) : Option MS :=
  ct_ob (fn_Mo_noEntry s a1) fun x1 =>
  if ¬ x1 = 0 then
    bk_Mo_move_36 a1 a2 a3 s 1
  else
    ct_ob (fn_Mo_noMonths a2 a3) fun x2 =>
    if x2 = 0 then
      ct_gd (ct_inR a1 60) <|
      if (ms_A s 5 a1.toNatClampNeg) = 0 then
        bk_Mo_move_36 a1 a2 a3 s 0
      else
        bk_Mo_move_36 a1 a2 a3 s 2
    else
      bk_Mo_move_36 a1 a2 a3 s 1
def bk_Mo_premium_35 (a1 : Int32) (a2 : Int32) (a3 : Int32) (s : MS) (t1 : Int32) : Option MS :=
  ct_nm (ms_I' s 0 t1) fun s2 =>
  if ¬ (ms_I s2 0) = 0 then
    some s2
  else
    ct_gd (ct_inR ((72 * a1) + a2) 144) <|
    ct_nm (ms_A' s2 6 ((72 * a1) + a2).toNatClampNeg a3) fun s3 =>
    some s3
def fn_Mo_premium (s : MS) (a1 : Int32) (a2 : Int32) (a3 : Int32) : Option MS :=
  ct_ob (fn_Mo_noLine a1) fun x1 =>
  if ¬ x1 = 0 then
    bk_Mo_premium_35 a1 a2 a3 s 1
  else
    if a2 < 0 then
      bk_Mo_premium_35 a1 a2 a3 s 1
    else
      if 71 < a2 then
        bk_Mo_premium_35 a1 a2 a3 s 1
      else
        if a3 < 0 then
          bk_Mo_premium_35 a1 a2 a3 s 1
        else
          if a3 ≤ 9999 then
            bk_Mo_premium_35 a1 a2 a3 s 0
          else
            bk_Mo_premium_35 a1 a2 a3 s 1
def bk_Mo_divisor_6_o (a1 : Int64) (a2 : Int64) (k6 : Int64 → Int64 → Option Int64) (v5 : Int64) (v7 : Int64) : Option Int64 :=
  if (lg_cmp v7 0) = 0 then
    some v5
  else
    ct_gd (ct_gzL v7) <|
    ct_nm (v5 - v5 / v7 * v7) fun x1 =>
    k6 v7 x1
def bk_Mo_divisor_6 (a1 : Int64) (a2 : Int64) : Nat → Int64 → Int64 → Option Int64
  | 0 => fun _ _ => none
  | n + 1 => bk_Mo_divisor_6_o a1 a2 (bk_Mo_divisor_6 a1 a2 n)
def fn_Mo_divisor (a1 : Int64) (a2 : Int64) : Option Int64 :=
  bk_Mo_divisor_6 a1 a2 200 a1 a2
def bk_Mo_ratio_58 (a1 : Int32) (a2 : Int32) (a3 : Int32) (s : MS) (t0 : Int32) : Option MS :=
  ct_ob (fn_Mo_divisor a2.toInt64 a3.toInt64) fun x2 =>
  ct_gd (ct_gzL x2) <|
  ct_gd (ct_inR t0 3) <|
  ct_nm (ms_B' s 0 t0.toNatClampNeg (a2.toInt64 / x2)) fun s3 =>
  ct_gd (ct_gzL x2) <|
  ct_gd (ct_inR t0 3) <|
  ct_nm (ms_B' s3 1 t0.toNatClampNeg (a3.toInt64 / x2)) fun s4 =>
  some s4
def bk_Mo_ratio_39 (a1 : Int32) (a2 : Int32) (a3 : Int32) (s : MS) (t1 : Int32) : Option MS :=
  ct_nm (ms_I' s 0 t1) fun s1 =>
  if ¬ (ms_I s1 0) = 0 then
    some s1
  else
    if 0 ≤ a1 then
      bk_Mo_ratio_58 a1 a2 a3 s1 a1
    else
      bk_Mo_ratio_58 a1 a2 a3 s1 2
def fn_Mo_ratio (s : MS) (a1 : Int32) (a2 : Int32) (a3 : Int32) : Option MS :=
  if a1 < (-1) then
    bk_Mo_ratio_39 a1 a2 a3 s 1
  else
    if 1 < a1 then
      bk_Mo_ratio_39 a1 a2 a3 s 1
    else
      if a2 < 0 then
        bk_Mo_ratio_39 a1 a2 a3 s 1
      else
        if 9999 < a2 then
          bk_Mo_ratio_39 a1 a2 a3 s 1
        else
          if a3 < 1 then
            bk_Mo_ratio_39 a1 a2 a3 s 1
          else
            if a3 ≤ 9999 then
              bk_Mo_ratio_39 a1 a2 a3 s 0
            else
              bk_Mo_ratio_39 a1 a2 a3 s 1
def bk_Mo_build_78_o (a1 : Int32) (a2 : Int32) (a3 : Int32) (a4 : Int32) (k78 : MS → Int32 → Option MS) (s : MS) (v5 : Int32) : Option MS :=
  if 36 ≤ v5 then
    some s
  else
    ct_gd (ct_inR v5 36) <|
    ct_nm (ms_A' s 7 v5.toNatClampNeg (vp_nar .boolean 0)) fun s8 =>
    k78 s8 (v5 + 1)
def bk_Mo_build_78 (a1 : Int32) (a2 : Int32) (a3 : Int32) (a4 : Int32) : Nat → MS → Int32 → Option MS
  | 0 => fun _ _ => none
  | n + 1 => bk_Mo_build_78_o a1 a2 a3 a4 (bk_Mo_build_78 a1 a2 a3 a4 n)
def bk_Mo_build_38 (a1 : Int32) (a2 : Int32) (a3 : Int32) (a4 : Int32) (s : MS) (t1 : Int32) : Option MS :=
  ct_nm (ms_I' s 0 t1) fun s2 =>
  if (ms_I s2 0) = 0 then
    ct_nm (ms_I' s2 2 a1) fun s3 =>
    ct_nm (ms_I' s3 3 a2) fun s4 =>
    ct_gd (ct_isB a3) <|
    ct_nm (ms_I' s4 4 a3) fun s5 =>
    ct_nm (ms_I' s5 5 a4) fun s6 =>
    ct_nm (ms_I' s6 6 0) fun s7 =>
    bk_Mo_build_78 a1 a2 a3 a4 200 s7 0
  else
    some s2
def fn_Mo_build (s : MS) (a1 : Int32) (a2 : Int32) (a3 : Int32) (a4 : Int32) : Option MS :=
  ct_ob (fn_Mo_noLine a1) fun x1 =>
  if ¬ x1 = 0 then
    bk_Mo_build_38 a1 a2 a3 a4 s 1
  else
    if a2 < 1 then
      bk_Mo_build_38 a1 a2 a3 a4 s 1
    else
      if 12 < a2 then
        bk_Mo_build_38 a1 a2 a3 a4 s 1
      else
        if a4 < 1 then
          bk_Mo_build_38 a1 a2 a3 a4 s 1
        else
          if a4 ≤ 6 then
            bk_Mo_build_38 a1 a2 a3 a4 s 0
          else
            bk_Mo_build_38 a1 a2 a3 a4 s 1
def bk_Mo_estimateOf_108 (a1 : Int32) (a2 : Int32) (k5 : MS → Int32 → Int32 → Option Int32) (s : MS) (t0 : Int32) (v4 : Int32) : Option Int32 :=
  k5 s t0 (v4 + 1)
def bk_Mo_estimateOf_75 (a1 : Int32) (a2 : Int32) (k5 : MS → Int32 → Int32 → Option Int32) (s : MS) (t0 : Int32) (v3 : Int32) (v4 : Int32) : Option Int32 :=
  if t0 = 0 then
    bk_Mo_estimateOf_108 a1 a2 k5 s v3 v4
  else
    if v3 < 0 then
      bk_Mo_estimateOf_108 a1 a2 k5 s v4 v4
    else
      ct_gd (ct_inR v4 60) <|
      ct_gd (ct_inR v3 60) <|
      if (ms_A s 2 v4.toNatClampNeg) < (ms_A s 2 v3.toNatClampNeg) then
        bk_Mo_estimateOf_108 a1 a2 k5 s v3 v4
      else
        bk_Mo_estimateOf_108 a1 a2 k5 s v4 v4
def bk_Mo_estimateOf_5_o (a1 : Int32) (a2 : Int32) (k5 : MS → Int32 → Int32 → Option Int32) (s : MS) (v3 : Int32) (v4 : Int32) : Option Int32 :=
  if (ms_I s 1) ≤ v4 then
    if 0 ≤ v3 then
      ct_gd (ct_inR v3 60) <|
      some (ms_A s 3 v3.toNatClampNeg)
    else
      some 0
  else
    ct_gd (ct_inR v4 60) <|
    if ¬ (ms_A s 4 v4.toNatClampNeg) = 0 then
      bk_Mo_estimateOf_75 a1 a2 k5 s 0 v3 v4
    else
      ct_gd (ct_inR v4 60) <|
      if ¬ (ms_A s 5 v4.toNatClampNeg) = 0 then
        bk_Mo_estimateOf_75 a1 a2 k5 s 0 v3 v4
      else
        ct_gd (ct_inR v4 60) <|
        if ¬ (ms_A s 0 v4.toNatClampNeg) = (ms_I s 2) then
          bk_Mo_estimateOf_75 a1 a2 k5 s 0 v3 v4
        else
          ct_gd (ct_inR v4 60) <|
          if ¬ (ms_A s 1 v4.toNatClampNeg) = a1 then
            bk_Mo_estimateOf_75 a1 a2 k5 s 0 v3 v4
          else
            ct_gd (ct_inR v4 60) <|
            if a2 ≤ (ms_A s 2 v4.toNatClampNeg) then
              bk_Mo_estimateOf_75 a1 a2 k5 s 0 v3 v4
            else
              bk_Mo_estimateOf_75 a1 a2 k5 s 1 v3 v4
def bk_Mo_estimateOf_5 (a1 : Int32) (a2 : Int32) : Nat → MS → Int32 → Int32 → Option Int32
  | 0 => fun _ _ _ => none
  | n + 1 => bk_Mo_estimateOf_5_o a1 a2 (bk_Mo_estimateOf_5 a1 a2 n)
def fn_Mo_estimateOf (s : MS) (a1 : Int32) (a2 : Int32) : Option Int32 :=
  bk_Mo_estimateOf_5 a1 a2 200 s (-1) 0
def bk_Mo_sumOf_129_o (a1 : Int32) (a2 : Int32) (k129 : MS → Int32 → Int32 → Int32 → Option Int32) (s : MS) (v3 : Int32) (v4 : Int32) (v5 : Int32) : Option Int32 :=
  if ((a1 * (ms_I s 3)) + (ms_I s 3)) ≤ v5 then
    some v4
  else
    if (ms_I s 4) = 0 then
      some v4
    else
      ct_ob (fn_Mo_estimateOf s v5 v3) fun x4 =>
      ct_nm (v4 + x4) fun x5 =>
      k129 s v3 x5 (v5 + 1)
def bk_Mo_sumOf_129 (a1 : Int32) (a2 : Int32) : Nat → MS → Int32 → Int32 → Int32 → Option Int32
  | 0 => fun _ _ _ _ => none
  | n + 1 => bk_Mo_sumOf_129_o a1 a2 (bk_Mo_sumOf_129 a1 a2 n)
def bk_Mo_sumOf_112 (a1 : Int32) (a2 : Int32) (k17 : MS → Int32 → Int32 → Int32 → Option Int32) (s : MS) (t0 : Int32) (t1 : Int32) (v3 : Int32) (v5 : Int32) : Option Int32 :=
  ct_nm (t0 + t1) fun x3 =>
  k17 s v3 x3 (v5 + 1)
def bk_Mo_sumOf_92 (a1 : Int32) (a2 : Int32) (k17 : MS → Int32 → Int32 → Int32 → Option Int32) (s : MS) (t0 : Int32) (v3 : Int32) (v4 : Int32) (v5 : Int32) : Option Int32 :=
  if t0 = 0 then
    bk_Mo_sumOf_112 a1 a2 k17 s v4 0 v3 v5
  else
    ct_gd (ct_inR v5 60) <|
    bk_Mo_sumOf_112 a1 a2 k17 s v4 (ms_A s 3 v5.toNatClampNeg) v3 v5
def bk_Mo_sumOf_17_o (a1 : Int32) (a2 : Int32) (k17 : MS → Int32 → Int32 → Int32 → Option Int32) (s : MS) (v3 : Int32) (v4 : Int32) (v5 : Int32) : Option Int32 :=
  if (ms_I s 1) ≤ v5 then
    ct_nm (a1 * (ms_I s 3)) fun x2 =>
    bk_Mo_sumOf_129 a1 a2 200 s v3 v4 x2
  else
    ct_gd (ct_inR v5 60) <|
    if (ms_A s 4 v5.toNatClampNeg) = 0 then
      bk_Mo_sumOf_92 a1 a2 k17 s 0 v3 v4 v5
    else
      ct_gd (ct_inR v5 60) <|
      if ¬ (ms_A s 5 v5.toNatClampNeg) = 0 then
        bk_Mo_sumOf_92 a1 a2 k17 s 0 v3 v4 v5
      else
        ct_gd (ct_inR v5 60) <|
        if ¬ (ms_A s 0 v5.toNatClampNeg) = (ms_I s 2) then
          bk_Mo_sumOf_92 a1 a2 k17 s 0 v3 v4 v5
        else
          ct_gd (ct_inR v5 60) <|
          ct_gd (ct_gzI (ms_I s 3)) <|
          if ¬ ((ms_A s 1 v5.toNatClampNeg) / (ms_I s 3)) = a1 then
            bk_Mo_sumOf_92 a1 a2 k17 s 0 v3 v4 v5
          else
            ct_gd (ct_inR v5 60) <|
            if v3 ≤ (ms_A s 2 v5.toNatClampNeg) then
              bk_Mo_sumOf_92 a1 a2 k17 s 0 v3 v4 v5
            else
              bk_Mo_sumOf_92 a1 a2 k17 s 1 v3 v4 v5
def bk_Mo_sumOf_17 (a1 : Int32) (a2 : Int32) : Nat → MS → Int32 → Int32 → Int32 → Option Int32
  | 0 => fun _ _ _ _ => none
  | n + 1 => bk_Mo_sumOf_17_o a1 a2 (bk_Mo_sumOf_17 a1 a2 n)
def fn_Mo_sumOf (s : MS) (a1 : Int32) (a2 : Int32) : Option Int32 :=
  ct_nm (((a1 + a2) + 1) * (ms_I s 3)) fun x1 =>
  bk_Mo_sumOf_17 a1 a2 200 s x1 0 0
def bk_Mo_look_12_o (k2 : MS → Int32 → Option MS) (k12 : MS → Int32 → Int32 → Option MS) (s : MS) (v1 : Int32) (v2 : Int32) : Option MS :=
  if (ms_I s 5) ≤ (v1 + v2) then
    k2 s (v1 + 1)
  else
    ct_ob (fn_Mo_sumOf s v1 v2) fun x2 =>
    ct_gd (ct_inR ((6 * v1) + v2) 36) <|
    ct_nm (ms_A' s 8 ((6 * v1) + v2).toNatClampNeg x2) fun s3 =>
    k12 s3 v1 (v2 + 1)
def bk_Mo_look_12 (k2 : MS → Int32 → Option MS) : Nat → MS → Int32 → Int32 → Option MS
  | 0 => fun _ _ _ => none
  | n + 1 => bk_Mo_look_12_o k2 (bk_Mo_look_12 k2 n)
def bk_Mo_look_2_o (k2 : MS → Int32 → Option MS) (s : MS) (v1 : Int32) : Option MS :=
  if (ms_I s 5) ≤ v1 then
    ct_nm (ms_I' s 8 0) fun s1 =>
    some s1
  else
    bk_Mo_look_12 k2 200 s v1 0
def bk_Mo_look_2 : Nat → MS → Int32 → Option MS
  | 0 => fun _ _ => none
  | n + 1 => bk_Mo_look_2_o (bk_Mo_look_2 n)
def fn_Mo_look (s : MS) : Option MS :=
  bk_Mo_look_2 200 s 0
def fn_Mo_left (s : MS) : Option Int32 :=
  some ((ms_I s 5) - (ms_I s 6))
def fn_Mo_noCell (a1 : Int32) (a2 : Int32) (a3 : Int32) : Option Int32 :=
  if a1 < 0 then
    some 1
  else
    if a2 < 0 then
      some 1
    else
      if a3 ≤ a1 then
        some 1
      else
        if a3 ≤ a2 then
          some 1
        else
          if (a1 + a2) < a3 then
            some 0
          else
            some 1
def bk_Mo_cell_19 (a1 : Int32) (a2 : Int32) (s : MS) (t1 : Int32) : Option (Int32 × MS) :=
  ct_nm (ms_I' s 0 t1) fun s3 =>
  if ¬ (ms_I s3 0) = 0 then
    some (0, s3)
  else
    ct_ob (fn_Mo_sumOf s3 a1 a2) fun x4 =>
    some (x4, s3)
def fn_Mo_cell (s : MS) (a1 : Int32) (a2 : Int32) : Option (Int32 × MS) :=
  ct_ob (fn_Mo_left s) fun x1 =>
  ct_ob (fn_Mo_noCell a1 a2 x1) fun x2 =>
  if x2 = 0 then
    bk_Mo_cell_19 a1 a2 s 0
  else
    bk_Mo_cell_19 a1 a2 s 1
def bk_Mo_leave_73 (a1 : Int32) (a2 : Int32) (a3 : Int32) (k49 : MS → Int32 → Int32 → Option (Int32 × MS)) (s : MS) (t0 : Int32) (t1 : Int32) (v5 : Int32) : Option (Int32 × MS) :=
  ct_nm (t0 + t1) fun x4 =>
  k49 s x4 (v5 + 1)
def bk_Mo_leave_49_o (a1 : Int32) (a2 : Int32) (a3 : Int32) (k49 : MS → Int32 → Int32 → Option (Int32 × MS)) (s : MS) (v4 : Int32) (v5 : Int32) : Option (Int32 × MS) :=
  if 36 ≤ v5 then
    some (v4, s)
  else
    ct_gd (ct_inR v5 36) <|
    if (ms_A s 7 v5.toNatClampNeg) = 0 then
      bk_Mo_leave_73 a1 a2 a3 k49 s v4 0 v5
    else
      bk_Mo_leave_73 a1 a2 a3 k49 s v4 1 v5
def bk_Mo_leave_49 (a1 : Int32) (a2 : Int32) (a3 : Int32) : Nat → MS → Int32 → Int32 → Option (Int32 × MS)
  | 0 => fun _ _ _ => none
  | n + 1 => bk_Mo_leave_49_o a1 a2 a3 (bk_Mo_leave_49 a1 a2 a3 n)
def bk_Mo_leave_19 (a1 : Int32) (a2 : Int32) (a3 : Int32) (s : MS) (t1 : Int32) : Option (Int32 × MS) :=
  ct_nm (ms_I' s 0 t1) fun s2 =>
  if (ms_I s2 0) = 0 then
    ct_gd (ct_inR ((6 * a1) + a2) 36) <|
    ct_nm (ms_A' s2 7 ((6 * a1) + a2).toNatClampNeg (vp_nar .boolean a3)) fun s3 =>
    bk_Mo_leave_49 a1 a2 a3 200 s3 0 0
  else
    some (0, s2)
def fn_Mo_leave (s : MS) (a1 : Int32) (a2 : Int32) (a3 : Int32) : Option (Int32 × MS) :=
  ct_ob (fn_Mo_noCell a1 a2 (ms_I s 5)) fun x1 =>
  if x1 = 0 then
    bk_Mo_leave_19 a1 a2 a3 s 0
  else
    bk_Mo_leave_19 a1 a2 a3 s 1
def bk_Mo_latest_17 (a1 : Int32) (s : MS) (t1 : Int32) : Option MS :=
  ct_nm (ms_I' s 0 t1) fun s1 =>
  if ¬ (ms_I s1 0) = 0 then
    some s1
  else
    ct_nm (ms_I' s1 7 a1) fun s2 =>
    some s2
def fn_Mo_latest (s : MS) (a1 : Int32) : Option MS :=
  if a1 < 1 then
    bk_Mo_latest_17 a1 s 1
  else
    if a1 ≤ 6 then
      bk_Mo_latest_17 a1 s 0
    else
      bk_Mo_latest_17 a1 s 1
def bk_Mo_hide_18 (a1 : Int32) (s : MS) (t1 : Int32) : Option (Int32 × MS) :=
  ct_nm (ms_I' s 0 t1) fun s1 =>
  if (ms_I s1 0) = 0 then
    ct_nm (ms_I' s1 6 a1) fun s2 =>
    ct_ob (fn_Mo_left s2) fun x3 =>
    some (x3, s2)
  else
    some (0, s1)
def fn_Mo_hide (s : MS) (a1 : Int32) : Option (Int32 × MS) :=
  if a1 < 0 then
    bk_Mo_hide_18 a1 s 1
  else
    if a1 < (ms_I s 5) then
      bk_Mo_hide_18 a1 s 0
    else
      bk_Mo_hide_18 a1 s 1
def fn_Mo_size (a1 : Int64) : Option Int64 :=
  if 0 ≤ (lg_cmp a1 0) then
    some a1
  else
    some (-a1)
def fn_Mo_isShort (a1 : Int64) (a2 : Int64) : Option Int32 :=
  if (lg_cmp a1 0) = 0 then
    some 1
  else
    if (lg_cmp a2 0) = 0 then
      some 1
    else
      ct_ob (fn_Mo_size a1) fun x1 =>
      ct_ob (fn_Mo_size a2) fun x2 =>
      ct_gd (ct_gzL x2) <|
      if 0 < (lg_cmp x1 (4611686018427387904 / x2)) then
        some 0
      else
        some 1
def fn_Mo_set (s : MS) (a1 : Int64) (a2 : Int64) : Option MS :=
  ct_nm (ms_L' s 0 a1) fun s1 =>
  ct_nm (ms_L' s1 1 a2) fun s2 =>
  some s2
def bk_Mo_times_88 (a1 : Int64) (a2 : Int64) (s : MS) (t1 : Int32) (v5 : Int64) (v7 : Int64) (v9 : Int64) (v11 : Int64) : Option MS :=
  ct_gd (ct_isB t1) <|
  ct_nm (ms_I' s 8 t1) fun s9 =>
  if ¬ (ms_I s9 8) = 0 then
    some s9
  else
    ct_gd (ct_gzL v7) <|
    ct_gd (ct_gzL v5) <|
    ct_ob (fn_Mo_set s9 (v9 * (a1 / v7)) (v11 * (a2 / v5))) fun s10 =>
    some s10
def fn_Mo_times (s : MS) (a1 : Int64) (a2 : Int64) : Option MS :=
  if (ms_I s 8) = 0 then
    ct_ob (fn_Mo_size (ms_L s 0)) fun x1 =>
    ct_ob (fn_Mo_divisor x1 a2) fun x2 =>
    ct_ob (fn_Mo_size a1) fun x3 =>
    ct_ob (fn_Mo_divisor x3 (ms_L s 1)) fun x4 =>
    ct_gd (ct_gzL x2) <|
    ct_nm ((ms_L s 0) / x2) fun x5 =>
    ct_gd (ct_gzL x4) <|
    ct_nm ((ms_L s 1) / x4) fun x6 =>
    ct_gd (ct_gzL x4) <|
    ct_ob (fn_Mo_isShort x5 (a1 / x4)) fun x7 =>
    if x7 = 0 then
      bk_Mo_times_88 a1 a2 s 1 x2 x4 x5 x6
    else
      ct_gd (ct_gzL x2) <|
      ct_ob (fn_Mo_isShort x6 (a2 / x2)) fun x8 =>
      if ¬ x8 = 0 then
        bk_Mo_times_88 a1 a2 s 0 x2 x4 x5 x6
      else
        bk_Mo_times_88 a1 a2 s 1 x2 x4 x5 x6
  else
    some s
def bk_Mo_plus_171 (a1 : Int64) (a2 : Int64) (s : MS) (t1 : Int32) (v7 : Int64) (v9 : Int64) (v11 : Int64) : Option MS :=
  ct_gd (ct_isB t1) <|
  ct_nm (ms_I' s 8 t1) fun s11 =>
  if ¬ (ms_I s11 8) = 0 then
    some s11
  else
    ct_ob (fn_Mo_size (v9 + v11)) fun x12 =>
    ct_ob (fn_Mo_divisor x12 v7) fun x13 =>
    ct_gd (ct_gzL x13) <|
    ct_gd (ct_gzL x13) <|
    ct_ob (fn_Mo_set s11 ((v9 + v11) / x13) (v7 / x13)) fun s14 =>
    some s14
def bk_Mo_plus_93 (a1 : Int64) (a2 : Int64) (s : MS) (t1 : Int32) (v7 : Int64) : Option MS :=
  ct_gd (ct_isB t1) <|
  ct_nm (ms_I' s 8 t1) fun s8 =>
  if (ms_I s8 8) = 0 then
    ct_gd (ct_gzL (ms_L s8 1)) <|
    ct_nm ((ms_L s8 0) * (v7 / (ms_L s8 1))) fun x9 =>
    ct_gd (ct_gzL a2) <|
    ct_nm (a1 * (v7 / a2)) fun x10 =>
    if (lg_cmp x10 0) ≤ 0 then
      if 0 ≤ (lg_cmp x9 ((-4611686018427387904) - x10)) then
        bk_Mo_plus_171 a1 a2 s8 0 v7 x9 x10
      else
        bk_Mo_plus_171 a1 a2 s8 1 v7 x9 x10
    else
      if (lg_cmp x9 (4611686018427387904 - x10)) ≤ 0 then
        bk_Mo_plus_171 a1 a2 s8 0 v7 x9 x10
      else
        bk_Mo_plus_171 a1 a2 s8 1 v7 x9 x10
  else
    some s8
def bk_Mo_plus_40 (a1 : Int64) (a2 : Int64) (s : MS) (t1 : Int32) (v5 : Int64) : Option MS :=
  ct_gd (ct_isB t1) <|
  ct_nm (ms_I' s 8 t1) fun s4 =>
  if (ms_I s4 8) = 0 then
    ct_nm (v5 * a2) fun x5 =>
    ct_gd (ct_gzL (ms_L s4 1)) <|
    ct_ob (fn_Mo_isShort (ms_L s4 0) (x5 / (ms_L s4 1))) fun x6 =>
    if x6 = 0 then
      bk_Mo_plus_93 a1 a2 s4 1 x5
    else
      ct_gd (ct_gzL a2) <|
      ct_ob (fn_Mo_isShort a1 (x5 / a2)) fun x7 =>
      if ¬ x7 = 0 then
        bk_Mo_plus_93 a1 a2 s4 0 x5
      else
        bk_Mo_plus_93 a1 a2 s4 1 x5
  else
    some s4
def fn_Mo_plus (s : MS) (a1 : Int64) (a2 : Int64) : Option MS :=
  if (ms_I s 8) = 0 then
    ct_ob (fn_Mo_divisor (ms_L s 1) a2) fun x1 =>
    ct_gd (ct_gzL x1) <|
    ct_nm ((ms_L s 1) / x1) fun x2 =>
    ct_ob (fn_Mo_isShort x2 a2) fun x3 =>
    if ¬ x3 = 0 then
      bk_Mo_plus_40 a1 a2 s 0 x2
    else
      bk_Mo_plus_40 a1 a2 s 1 x2
  else
    some s
def bk_Mo_turn_29 (s : MS) (t1 : Int64) : Option MS :=
  ct_ob (fn_Mo_size (ms_L s 0)) fun x1 =>
  ct_ob (fn_Mo_set s t1 x1) fun s2 =>
  some s2
def fn_Mo_turn (s : MS) : Option MS :=
  if ¬ (ms_I s 8) = 0 then
    some s
  else
    if 0 ≤ (lg_cmp (ms_L s 0) 0) then
      bk_Mo_turn_29 s (ms_L s 1)
    else
      bk_Mo_turn_29 s (-(ms_L s 1))
def fn_Mo_takes (s : MS) (a1 : Int32) (a2 : Int32) (a3 : Int32) : Option Int32 :=
  if a3 ≤ ((a1 + a2) + 1) then
    some 0
  else
    ct_gd (ct_inR ((6 * a1) + a2) 36) <|
    if ¬ (ms_A s 7 ((6 * a1) + a2).toNatClampNeg) = 0 then
      some 0
    else
      ct_gd (ct_inR (((6 * a1) + a2) + 1) 36) <|
      if ¬ (ms_A s 7 (((6 * a1) + a2) + 1).toNatClampNeg) = 0 then
        some 0
      else
        some 1
def bk_Mo_find_147 (a1 : Int32) (a2 : Int32) (s : MS) (t1 : Int64) (v6 : Int64) (v9 : Int64) : Option (Int32 × MS) :=
  ct_nm (ms_L' s 4 t1) fun s9 =>
  ct_ob (fn_Mo_size v6) fun x10 =>
  ct_gd (ct_gzL v9) <|
  ct_nm (ms_L' s9 5 (x10 / v9)) fun s11 =>
  some (1, s11)
def bk_Mo_find_92 (a1 : Int32) (a2 : Int32) (k21 : MS → Int32 → Int64 → Int64 → Int32 → Int32 → Option (Int32 × MS)) (s : MS) (v3 : Int32) (v4 : Int64) (v6 : Int64) (v8 : Int32) (v9 : Int32) : Option (Int32 × MS) :=
  k21 s v3 v4 v6 v8 (v9 + (-1))
def bk_Mo_find_51 (a1 : Int32) (a2 : Int32) (k21 : MS → Int32 → Int64 → Int64 → Int32 → Int32 → Option (Int32 × MS)) (s : MS) (v3 : Int32) (v4 : Int64) (v6 : Int64) (v8 : Int32) (v9 : Int32) : Option (Int32 × MS) :=
  ct_gd (ct_inR (((6 * v9) + a2) + 1) 36) <|
  ct_nm (v4 + ((ms_A s 8 (((6 * v9) + a2) + 1).toNatClampNeg).toInt64)) fun x7 =>
  ct_gd (ct_inR ((6 * v9) + a2) 36) <|
  ct_nm (v6 + ((ms_A s 8 ((6 * v9) + a2).toNatClampNeg).toInt64)) fun x8 =>
  bk_Mo_find_92 a1 a2 k21 s v3 x7 x8 (v8 + 1) v9
def bk_Mo_find_21_o (a1 : Int32) (a2 : Int32) (k21 : MS → Int32 → Int64 → Int64 → Int32 → Int32 → Option (Int32 × MS)) (s : MS) (v3 : Int32) (v4 : Int64) (v6 : Int64) (v8 : Int32) (v9 : Int32) : Option (Int32 × MS) :=
  if v9 < 0 then
    if ¬ (lg_cmp v6 0) = 0 then
      ct_ob (fn_Mo_size v4) fun x3 =>
      ct_ob (fn_Mo_size v6) fun x4 =>
      ct_ob (fn_Mo_divisor x3 x4) fun x5 =>
      if 0 ≤ (lg_cmp v6 0) then
        ct_gd (ct_gzL x5) <|
        bk_Mo_find_147 a1 a2 s (v4 / x5) v6 x5
      else
        ct_gd (ct_gzL x5) <|
        bk_Mo_find_147 a1 a2 s ((-v4) / x5) v6 x5
    else
      some (0, s)
  else
    ct_ob (fn_Mo_takes s v9 a2 v3) fun x6 =>
    if x6 = 0 then
      bk_Mo_find_92 a1 a2 k21 s v3 v4 v6 v8 v9
    else
      if ¬ a1 = 1 then
        bk_Mo_find_51 a1 a2 k21 s v3 v4 v6 v8 v9
      else
        if (ms_I s 7) ≤ v8 then
          bk_Mo_find_92 a1 a2 k21 s v3 v4 v6 v8 v9
        else
          bk_Mo_find_51 a1 a2 k21 s v3 v4 v6 v8 v9
def bk_Mo_find_21 (a1 : Int32) (a2 : Int32) : Nat → MS → Int32 → Int64 → Int64 → Int32 → Int32 → Option (Int32 × MS)
  | 0 => fun _ _ _ _ _ _ => none
  | n + 1 => bk_Mo_find_21_o a1 a2 (bk_Mo_find_21 a1 a2 n)
def fn_Mo_find (s : MS) (a1 : Int32) (a2 : Int32) : Option (Int32 × MS) :=
  ct_ob (fn_Mo_left s) fun x1 =>
  ct_nm ((x1 - 2) - a2) fun x2 =>
  bk_Mo_find_21 a1 a2 200 s x1 0 0 0 x2
def bk_Mo_areDefined_32 (a1 : Int32) (a2 : Int32) (a3 : Int32) (k6 : MS → Int32 → Int32 → Option (Int32 × MS)) (s : MS) (t0 : Int32) (v5 : Int32) : Option (Int32 × MS) :=
  k6 s t0 (v5 + 1)
def bk_Mo_areDefined_6_o (a1 : Int32) (a2 : Int32) (a3 : Int32) (k6 : MS → Int32 → Int32 → Option (Int32 × MS)) (s : MS) (v4 : Int32) (v5 : Int32) : Option (Int32 × MS) :=
  if a3 < v5 then
    ct_gd (ct_isB v4) <|
    some (v4, s)
  else
    if v4 = 0 then
      bk_Mo_areDefined_32 a1 a2 a3 k6 s 0 v5
    else
      ct_ob2 (fn_Mo_find s a1 v5) fun x1 s2 =>
      if x1 = 0 then
        bk_Mo_areDefined_32 a1 a2 a3 k6 s2 0 v5
      else
        bk_Mo_areDefined_32 a1 a2 a3 k6 s2 1 v5
def bk_Mo_areDefined_6 (a1 : Int32) (a2 : Int32) (a3 : Int32) : Nat → MS → Int32 → Int32 → Option (Int32 × MS)
  | 0 => fun _ _ _ => none
  | n + 1 => bk_Mo_areDefined_6_o a1 a2 a3 (bk_Mo_areDefined_6 a1 a2 a3 n)
def fn_Mo_areDefined (s : MS) (a1 : Int32) (a2 : Int32) (a3 : Int32) : Option (Int32 × MS) :=
  bk_Mo_areDefined_6 a1 a2 a3 200 s 1 a2
def bk_Mo_way_37 (a1 : Int32) (a2 : Int32) (a3 : Int32) (k9 : MS → Int32 → Option MS) (s : MS) (v4 : Int32) : Option MS :=
  k9 s (v4 + 1)
def bk_Mo_way_9_o (a1 : Int32) (a2 : Int32) (a3 : Int32) (k9 : MS → Int32 → Option MS) (s : MS) (v4 : Int32) : Option MS :=
  if a3 < v4 then
    some s
  else
    ct_ob2 (fn_Mo_find s a1 v4) fun x2 s3 =>
    if x2 = 0 then
      bk_Mo_way_37 a1 a2 a3 k9 s3 v4
    else
      ct_ob (fn_Mo_times s3 (ms_L s3 4) (ms_L s3 5)) fun s4 =>
      bk_Mo_way_37 a1 a2 a3 k9 s4 v4
def bk_Mo_way_9 (a1 : Int32) (a2 : Int32) (a3 : Int32) : Nat → MS → Int32 → Option MS
  | 0 => fun _ _ => none
  | n + 1 => bk_Mo_way_9_o a1 a2 a3 (bk_Mo_way_9 a1 a2 a3 n)
def fn_Mo_way (s : MS) (a1 : Int32) (a2 : Int32) (a3 : Int32) : Option MS :=
  ct_ob (fn_Mo_set s 1 1) fun s1 =>
  bk_Mo_way_9 a1 a2 a3 200 s1 a2
def fn_Mo_answer (s : MS) : Option Int32 :=
  if (ms_I s 8) = 0 then
    some 0
  else
    some 3
def fn_Mo_latestOf (s : MS) (a1 : Int32) : Option Int32 :=
  ct_ob (fn_Mo_left s) fun x1 =>
  ct_gd (ct_inR ((((6 * a1) + x1) - 1) - a1) 36) <|
  some (ms_A s 8 ((((6 * a1) + x1) - 1) - a1).toNatClampNeg)
def bk_Mo_expect_58 (a1 : Int32) (s : MS) (v2 : Int64) : Option MS :=
  ct_ob (fn_Mo_set s v2 1) fun s3 =>
  ct_gd (ct_inR (ms_I s3 2) 3) <|
  ct_gd (ct_inR (ms_I s3 2) 3) <|
  ct_ob (fn_Mo_times s3 (ms_B s3 0 (ms_I s3 2).toNatClampNeg) (ms_B s3 1 (ms_I s3 2).toNatClampNeg)) fun s4 =>
  ct_nm (ms_L' s4 2 (ms_L s4 0)) fun s5 =>
  ct_nm (ms_L' s5 3 (ms_L s5 1)) fun s6 =>
  some s6
def bk_Mo_expect_10_o (a1 : Int32) (k10 : MS → Int64 → Int32 → Option MS) (s : MS) (v2 : Int64) (v4 : Int32) : Option MS :=
  if ((a1 * (ms_I s 3)) + (ms_I s 3)) ≤ v4 then
    bk_Mo_expect_58 a1 s v2
  else
    if 72 ≤ v4 then
      bk_Mo_expect_58 a1 s v2
    else
      ct_gd (ct_inR ((72 * (ms_I s 2)) + v4) 144) <|
      ct_nm (v2 + ((ms_A s 6 ((72 * (ms_I s 2)) + v4).toNatClampNeg).toInt64)) fun x2 =>
      k10 s x2 (v4 + 1)
def bk_Mo_expect_10 (a1 : Int32) : Nat → MS → Int64 → Int32 → Option MS
  | 0 => fun _ _ _ => none
  | n + 1 => bk_Mo_expect_10_o a1 (bk_Mo_expect_10 a1 n)
def fn_Mo_expect (s : MS) (a1 : Int32) : Option MS :=
  ct_nm (a1 * (ms_I s 3)) fun x1 =>
  bk_Mo_expect_10 a1 200 s 0 x1
def bk_Mo_work_135 (a1 : Int32) (a2 : Int32) (s : MS) : Option (Int32 × MS) :=
  ct_ob (fn_Mo_turn s) fun s13 =>
  ct_nm (ms_L' s13 0 (-(ms_L s13 0))) fun s14 =>
  ct_ob (fn_Mo_plus s14 1 1) fun s15 =>
  ct_ob (fn_Mo_times s15 (ms_L s15 2) (ms_L s15 3)) fun s16 =>
  ct_ob (fn_Mo_latestOf s16 a2) fun x17 =>
  ct_ob (fn_Mo_plus s16 x17.toInt64 1) fun s18 =>
  ct_ob (fn_Mo_answer s18) fun x19 =>
  some (x19, s18)
def bk_Mo_work_66 (a1 : Int32) (a2 : Int32) (s : MS) (v3 : Int32) (v4 : Int32) : Option (Int32 × MS) :=
  ct_ob (fn_Mo_way s v4 ((v3 - 1) - a2) (v3 - 2)) fun s8 =>
  ct_gd (ct_inR 2 3) <|
  ct_gd (ct_inR 2 3) <|
  ct_ob (fn_Mo_times s8 (ms_B s8 0 (2 : Int32).toNatClampNeg) (ms_B s8 1 (2 : Int32).toNatClampNeg)) fun s9 =>
  if a1 = 3 then
    if ¬ (ms_I s9 8) = 0 then
      bk_Mo_work_135 a1 a2 s9
    else
      if ¬ (lg_cmp (ms_L s9 0) 0) = 0 then
        bk_Mo_work_135 a1 a2 s9
      else
        some (2, s9)
  else
    ct_ob (fn_Mo_latestOf s9 a2) fun x10 =>
    ct_ob (fn_Mo_times s9 x10.toInt64 1) fun s11 =>
    ct_ob (fn_Mo_answer s11) fun x12 =>
    some (x12, s11)
def bk_Mo_work_35 (a1 : Int32) (a2 : Int32) (s : MS) (t0 : Int32) (v3 : Int32) : Option (Int32 × MS) :=
  ct_ob2 (fn_Mo_areDefined s t0 ((v3 - 1) - a2) (v3 - 2)) fun x5 s6 =>
  if ¬ x5 = 0 then
    if ¬ a1 = 3 then
      bk_Mo_work_66 a1 a2 s6 v3 t0
    else
      ct_ob (fn_Mo_expect s6 a2) fun s7 =>
      bk_Mo_work_66 a1 a2 s7 v3 t0
  else
    some (2, s6)
def fn_Mo_work (s : MS) (a1 : Int32) (a2 : Int32) : Option (Int32 × MS) :=
  ct_ob (fn_Mo_left s) fun x1 =>
  ct_nm (ms_I' s 8 0) fun s2 =>
  if ¬ a1 = 2 then
    if ¬ a1 = 1 then
      bk_Mo_work_35 a1 a2 s2 0 x1
    else
      bk_Mo_work_35 a1 a2 s2 1 x1
  else
    ct_ob (fn_Mo_expect s2 a2) fun s3 =>
    ct_ob (fn_Mo_answer s3) fun x4 =>
    some (x4, s3)
def fn_Mo_workReserve (s : MS) (a1 : Int32) (a2 : Int32) : Option (Int32 × MS) :=
  ct_ob2 (fn_Mo_work s a1 a2) fun x1 s2 =>
  if x1 = 0 then
    ct_ob (fn_Mo_latestOf s2 a2) fun x3 =>
    ct_ob (fn_Mo_plus s2 ((-x3).toInt64) 1) fun s4 =>
    ct_ob (fn_Mo_answer s4) fun x5 =>
    some (x5, s4)
  else
    some (x1, s2)
def fn_Mo_told (s : MS) (a1 : Int32) (a2 : Int32) : Option (Int64 × MS) :=
  ct_nm (ms_I' s 0 a1) fun s1 =>
  if a1 = 0 then
    if a2 = 0 then
      some (ms_L s1 0, s1)
    else
      some (ms_L s1 1, s1)
  else
    some (0, s1)
def bk_Mo_factor_76 (a1 : Int32) (a2 : Int32) (a3 : Int32) (s : MS) (t1 : Int32) : Option (Int64 × MS) :=
  ct_ob2 (fn_Mo_told s t1 a3) fun x7 s8 =>
  some (x7, s8)
def bk_Mo_factor_29 (a1 : Int32) (a2 : Int32) (a3 : Int32) (s : MS) (t1 : Int32) : Option (Int64 × MS) :=
  ct_nm (ms_I' s 0 t1) fun s2 =>
  if (ms_I s2 0) = 0 then
    ct_ob (fn_Mo_look s2) fun s3 =>
    ct_ob2 (fn_Mo_find s3 a1 a2) fun x4 s5 =>
    ct_ob (fn_Mo_set s5 (ms_L s5 4) (ms_L s5 5)) fun s6 =>
    if x4 = 0 then
      bk_Mo_factor_76 a1 a2 a3 s6 2
    else
      bk_Mo_factor_76 a1 a2 a3 s6 0
  else
    some (0, s2)
def fn_Mo_factor (s : MS) (a1 : Int32) (a2 : Int32) (a3 : Int32) : Option (Int64 × MS) :=
  if a1 < 0 then
    bk_Mo_factor_29 a1 a2 a3 s 1
  else
    if 1 < a1 then
      bk_Mo_factor_29 a1 a2 a3 s 1
    else
      if a2 < 0 then
        bk_Mo_factor_29 a1 a2 a3 s 1
      else
        ct_ob (fn_Mo_left s) fun x1 =>
        if a2 ≤ (x1 - 2) then
          bk_Mo_factor_29 a1 a2 a3 s 0
        else
          bk_Mo_factor_29 a1 a2 a3 s 1
def fn_Mo_noRow (s : MS) (a1 : Int32) (a2 : Int32) : Option Int32 :=
  if a1 < 0 then
    some 1
  else
    if 3 < a1 then
      some 1
    else
      if a2 < 0 then
        some 1
      else
        ct_ob (fn_Mo_left s) fun x1 =>
        if a2 < x1 then
          some 0
        else
          some 1
def bk_Mo_ultimate_15 (a1 : Int32) (a2 : Int32) (a3 : Int32) (s : MS) (t1 : Int32) : Option (Int64 × MS) :=
  ct_nm (ms_I' s 0 t1) fun s2 =>
  if (ms_I s2 0) = 0 then
    ct_ob (fn_Mo_look s2) fun s3 =>
    ct_ob2 (fn_Mo_work s3 a1 a2) fun x4 s5 =>
    ct_ob2 (fn_Mo_told s5 x4 a3) fun x6 s7 =>
    some (x6, s7)
  else
    some (0, s2)
def fn_Mo_ultimate (s : MS) (a1 : Int32) (a2 : Int32) (a3 : Int32) : Option (Int64 × MS) :=
  ct_ob (fn_Mo_noRow s a1 a2) fun x1 =>
  if x1 = 0 then
    bk_Mo_ultimate_15 a1 a2 a3 s 0
  else
    bk_Mo_ultimate_15 a1 a2 a3 s 1
def bk_Mo_reserve_15 (a1 : Int32) (a2 : Int32) (a3 : Int32) (s : MS) (t1 : Int32) : Option (Int64 × MS) :=
  ct_nm (ms_I' s 0 t1) fun s2 =>
  if (ms_I s2 0) = 0 then
    ct_ob (fn_Mo_look s2) fun s3 =>
    ct_ob2 (fn_Mo_workReserve s3 a1 a2) fun x4 s5 =>
    ct_ob2 (fn_Mo_told s5 x4 a3) fun x6 s7 =>
    some (x6, s7)
  else
    some (0, s2)
def fn_Mo_reserve (s : MS) (a1 : Int32) (a2 : Int32) (a3 : Int32) : Option (Int64 × MS) :=
  ct_ob (fn_Mo_noRow s a1 a2) fun x1 =>
  if x1 = 0 then
    bk_Mo_reserve_15 a1 a2 a3 s 0
  else
    bk_Mo_reserve_15 a1 a2 a3 s 1
def bk_Mo_rounded_81 (a1 : Int32) (a2 : Int32) (s : MS) (t0 : Int64) : Option (Int64 × MS) :=
  ct_nm ((ms_L s 0) - (t0 * (ms_L s 1))) fun x8 =>
  if (lg_cmp x8 ((ms_L s 1) - x8)) < 0 then
    some (t0, s)
  else
    some (t0 + 1, s)
def bk_Mo_rounded_15 (a1 : Int32) (a2 : Int32) (s : MS) (t1 : Int32) : Option (Int64 × MS) :=
  ct_nm (ms_I' s 0 t1) fun s2 =>
  if (ms_I s2 0) = 0 then
    ct_ob (fn_Mo_look s2) fun s3 =>
    ct_ob2 (fn_Mo_workReserve s3 a1 a2) fun x4 s5 =>
    ct_nm (ms_I' s5 0 x4) fun s6 =>
    if (ms_I s6 0) = 0 then
      ct_gd (ct_gzL (ms_L s6 1)) <|
      ct_nm ((ms_L s6 0) / (ms_L s6 1)) fun x7 =>
      if (lg_cmp (x7 * (ms_L s6 1)) (ms_L s6 0)) ≤ 0 then
        bk_Mo_rounded_81 a1 a2 s6 x7
      else
        bk_Mo_rounded_81 a1 a2 s6 (x7 - 1)
    else
      some (0, s6)
  else
    some (0, s2)
def fn_Mo_rounded (s : MS) (a1 : Int32) (a2 : Int32) : Option (Int64 × MS) :=
  ct_ob (fn_Mo_noRow s a1 a2) fun x1 =>
  if x1 = 0 then
    bk_Mo_rounded_15 a1 a2 s 0
  else
    bk_Mo_rounded_15 a1 a2 s 1
def bk_Mo_total_130 (a1 : Int32) (a2 : Int32) (k92 : MS → Int64 → Int64 → Int32 → Option (Int64 × MS)) (s : MS) : Option (Int64 × MS) :=
  ct_ob2 (fn_Mo_told s 3 a2) fun x17 s18 =>
  some (x17, s18)
def bk_Mo_total_92_o (a1 : Int32) (a2 : Int32) (k92 : MS → Int64 → Int64 → Int32 → Option (Int64 × MS)) (s : MS) (v4 : Int64) (v6 : Int64) (v8 : Int32) : Option (Int64 × MS) :=
  ct_ob (fn_Mo_left s) fun x8 =>
  if x8 ≤ v8 then
    ct_ob (fn_Mo_set s v4 v6) fun s9 =>
    ct_ob2 (fn_Mo_told s9 0 a2) fun x10 s11 =>
    some (x10, s11)
  else
    ct_ob2 (fn_Mo_workReserve s a1 v8) fun x12 s13 =>
    ct_ob (fn_Mo_plus s13 v4 v6) fun s14 =>
    if ¬ x12 = 0 then
      bk_Mo_total_130 a1 a2 k92 s14
    else
      if (ms_I s14 8) = 0 then
        ct_nm (ms_L s14 0) fun x15 =>
        ct_nm (ms_L s14 1) fun x16 =>
        k92 s14 x15 x16 (v8 + 1)
      else
        bk_Mo_total_130 a1 a2 k92 s14
def bk_Mo_total_92 (a1 : Int32) (a2 : Int32) : Nat → MS → Int64 → Int64 → Int32 → Option (Int64 × MS)
  | 0 => fun _ _ _ _ => none
  | n + 1 => bk_Mo_total_92_o a1 a2 (bk_Mo_total_92 a1 a2 n)
def bk_Mo_total_65 (a1 : Int32) (a2 : Int32) (k36 : MS → Int32 → Int32 → Option (Int64 × MS)) (s : MS) (t0 : Int32) (v4 : Int32) : Option (Int64 × MS) :=
  k36 s t0 (v4 + 1)
def bk_Mo_total_36_o (a1 : Int32) (a2 : Int32) (k36 : MS → Int32 → Int32 → Option (Int64 × MS)) (s : MS) (v3 : Int32) (v4 : Int32) : Option (Int64 × MS) :=
  ct_ob (fn_Mo_left s) fun x3 =>
  if x3 ≤ v4 then
    if v3 = 0 then
      bk_Mo_total_92 a1 a2 200 s 0 1 0
    else
      ct_ob2 (fn_Mo_told s 2 a2) fun x4 s5 =>
      some (x4, s5)
  else
    if ¬ v3 = 0 then
      bk_Mo_total_65 a1 a2 k36 s 1 v4
    else
      ct_ob2 (fn_Mo_workReserve s a1 v4) fun x6 s7 =>
      if ¬ x6 = 2 then
        bk_Mo_total_65 a1 a2 k36 s7 0 v4
      else
        bk_Mo_total_65 a1 a2 k36 s7 1 v4
def bk_Mo_total_36 (a1 : Int32) (a2 : Int32) : Nat → MS → Int32 → Int32 → Option (Int64 × MS)
  | 0 => fun _ _ _ => none
  | n + 1 => bk_Mo_total_36_o a1 a2 (bk_Mo_total_36 a1 a2 n)
def bk_Mo_total_15 (a1 : Int32) (a2 : Int32) (s : MS) (t1 : Int32) : Option (Int64 × MS) :=
  ct_nm (ms_I' s 0 t1) fun s1 =>
  if (ms_I s1 0) = 0 then
    ct_ob (fn_Mo_look s1) fun s2 =>
    bk_Mo_total_36 a1 a2 200 s2 0 0
  else
    some (0, s1)
def fn_Mo_total (s : MS) (a1 : Int32) (a2 : Int32) : Option (Int64 × MS) :=
  if a1 < 0 then
    bk_Mo_total_15 a1 a2 s 1
  else
    if a1 ≤ 3 then
      bk_Mo_total_15 a1 a2 s 0
    else
      bk_Mo_total_15 a1 a2 s 1
def bk_Mo_marks_74 (a1 : Int32) (k35 : MS → Int32 → Int32 → Option (Int32 × MS)) (s : MS) (t0 : Int32) (t1 : Int32) (v3 : Int32) : Option (Int32 × MS) :=
  ct_nm (t0 + t1) fun x6 =>
  k35 s x6 (v3 + 1)
def bk_Mo_marks_35_o (a1 : Int32) (k35 : MS → Int32 → Int32 → Option (Int32 × MS)) (s : MS) (v2 : Int32) (v3 : Int32) : Option (Int32 × MS) :=
  ct_ob (fn_Mo_left s) fun x3 =>
  if x3 ≤ v3 then
    some (v2, s)
  else
    ct_ob2 (fn_Mo_workReserve s a1 v3) fun x4 s5 =>
    if ¬ x4 = 2 then
      if ¬ x4 = 3 then
        bk_Mo_marks_74 a1 k35 s5 v2 0 v3
      else
        bk_Mo_marks_74 a1 k35 s5 v2 10 v3
    else
      bk_Mo_marks_74 a1 k35 s5 v2 1 v3
def bk_Mo_marks_35 (a1 : Int32) : Nat → MS → Int32 → Int32 → Option (Int32 × MS)
  | 0 => fun _ _ _ => none
  | n + 1 => bk_Mo_marks_35_o a1 (bk_Mo_marks_35 a1 n)
def bk_Mo_marks_15 (a1 : Int32) (s : MS) (t1 : Int32) : Option (Int32 × MS) :=
  ct_nm (ms_I' s 0 t1) fun s1 =>
  if (ms_I s1 0) = 0 then
    ct_ob (fn_Mo_look s1) fun s2 =>
    bk_Mo_marks_35 a1 200 s2 0 0
  else
    some (0, s1)
def fn_Mo_marks (s : MS) (a1 : Int32) : Option (Int32 × MS) :=
  if a1 < 0 then
    bk_Mo_marks_15 a1 s 1
  else
    if a1 ≤ 3 then
      bk_Mo_marks_15 a1 s 0
    else
      bk_Mo_marks_15 a1 s 1
def bk_Mo_deviation_275 (a1 : Int32) (a2 : Int32) (k136 : MS → Int32 → Int32 → Int64 → Int64 → Int32 → Option (Int64 × MS)) (s : MS) (v3 : Int32) (v5 : Int32) (v6 : Int64) (v8 : Int64) (v10 : Int32) : Option (Int64 × MS) :=
  k136 s v3 v5 v6 v8 (v10 + 1)
def bk_Mo_deviation_245 (a1 : Int32) (a2 : Int32) (k136 : MS → Int32 → Int32 → Int64 → Int64 → Int32 → Option (Int64 × MS)) (s : MS) (t1 : Int64) (v3 : Int32) (v5 : Int32) (v6 : Int64) (v8 : Int64) (v10 : Int32) (v11 : Int32) : Option (Int64 × MS) :=
  ct_ob (fn_Mo_size v11.toInt64) fun x20 =>
  ct_ob (fn_Mo_times s t1 x20) fun s21 =>
  ct_ob (fn_Mo_plus s21 v6 v8) fun s22 =>
  ct_nm (ms_L s22 0) fun x23 =>
  ct_nm (ms_L s22 1) fun x24 =>
  bk_Mo_deviation_275 a1 a2 k136 s22 v3 v5 x23 x24 v10
def bk_Mo_deviation_136_o (a1 : Int32) (a2 : Int32) (k136 : MS → Int32 → Int32 → Int64 → Int64 → Int32 → Option (Int64 × MS)) (s : MS) (v3 : Int32) (v5 : Int32) (v6 : Int64) (v8 : Int64) (v10 : Int32) : Option (Int64 × MS) :=
  if v3 ≤ ((v10 + a1) + 1) then
    ct_ob (fn_Mo_times s 1 (v5.toInt64 - 1)) fun s9 =>
    ct_ob (fn_Mo_answer s9) fun x10 =>
    ct_ob2 (fn_Mo_told s9 x10 a2) fun x11 s12 =>
    some (x11, s12)
  else
    ct_ob (fn_Mo_takes s v10 a1 v3) fun x13 =>
    if x13 = 0 then
      bk_Mo_deviation_275 a1 a2 k136 s v3 v5 v6 v8 v10
    else
      ct_gd (ct_inR ((6 * v10) + a1) 36) <|
      ct_nm (ms_A s 8 ((6 * v10) + a1).toNatClampNeg) fun x14 =>
      ct_ob (fn_Mo_set s (ms_L s 4) (ms_L s 5)) fun s15 =>
      ct_ob (fn_Mo_times s15 x14.toInt64 1) fun s16 =>
      ct_nm (ms_L' s16 0 (-(ms_L s16 0))) fun s17 =>
      ct_gd (ct_inR (((6 * v10) + a1) + 1) 36) <|
      ct_ob (fn_Mo_plus s17 ((ms_A s17 8 (((6 * v10) + a1) + 1).toNatClampNeg).toInt64) 1) fun s18 =>
      ct_ob (fn_Mo_times s18 (ms_L s18 0) (ms_L s18 1)) fun s19 =>
      if 0 ≤ x14 then
        bk_Mo_deviation_245 a1 a2 k136 s19 1 v3 v5 v6 v8 v10 x14
      else
        bk_Mo_deviation_245 a1 a2 k136 s19 (-1) v3 v5 v6 v8 v10 x14
def bk_Mo_deviation_136 (a1 : Int32) (a2 : Int32) : Nat → MS → Int32 → Int32 → Int64 → Int64 → Int32 → Option (Int64 × MS)
  | 0 => fun _ _ _ _ _ _ => none
  | n + 1 => bk_Mo_deviation_136_o a1 a2 (bk_Mo_deviation_136 a1 a2 n)
def bk_Mo_deviation_120 (a1 : Int32) (a2 : Int32) (s : MS) : Option (Int64 × MS) :=
  ct_ob2 (fn_Mo_told s 2 a2) fun x7 s8 =>
  some (x7, s8)
def bk_Mo_deviation_103 (a1 : Int32) (a2 : Int32) (k52 : MS → Int32 → Int32 → Int32 → Int32 → Option (Int64 × MS)) (s : MS) (v3 : Int32) (v4 : Int32) (v5 : Int32) (v6 : Int32) : Option (Int64 × MS) :=
  k52 s v3 v4 v5 (v6 + 1)
def bk_Mo_deviation_52_o (a1 : Int32) (a2 : Int32) (k52 : MS → Int32 → Int32 → Int32 → Int32 → Option (Int64 × MS)) (s : MS) (v3 : Int32) (v4 : Int32) (v5 : Int32) (v6 : Int32) : Option (Int64 × MS) :=
  if v3 ≤ ((v6 + a1) + 1) then
    if v4 = 0 then
      bk_Mo_deviation_120 a1 a2 s
    else
      if 2 ≤ v5 then
        bk_Mo_deviation_136 a1 a2 200 s v3 v5 0 1 0
      else
        bk_Mo_deviation_120 a1 a2 s
  else
    ct_ob (fn_Mo_takes s v6 a1 v3) fun x6 =>
    if x6 = 0 then
      bk_Mo_deviation_103 a1 a2 k52 s v3 v4 v5 v6
    else
      if v4 = 0 then
        bk_Mo_deviation_103 a1 a2 k52 s v3 0 (v5 + 1) v6
      else
        ct_gd (ct_inR ((6 * v6) + a1) 36) <|
        if (ms_A s 8 ((6 * v6) + a1).toNatClampNeg) = 0 then
          bk_Mo_deviation_103 a1 a2 k52 s v3 0 (v5 + 1) v6
        else
          bk_Mo_deviation_103 a1 a2 k52 s v3 1 (v5 + 1) v6
def bk_Mo_deviation_52 (a1 : Int32) (a2 : Int32) : Nat → MS → Int32 → Int32 → Int32 → Int32 → Option (Int64 × MS)
  | 0 => fun _ _ _ _ _ => none
  | n + 1 => bk_Mo_deviation_52_o a1 a2 (bk_Mo_deviation_52 a1 a2 n)
def bk_Mo_deviation_22 (a1 : Int32) (a2 : Int32) (s : MS) (t1 : Int32) (v3 : Int32) : Option (Int64 × MS) :=
  ct_nm (ms_I' s 0 t1) fun s2 =>
  if (ms_I s2 0) = 0 then
    ct_ob (fn_Mo_look s2) fun s3 =>
    ct_ob2 (fn_Mo_find s3 0 a1) fun x4 s5 =>
    bk_Mo_deviation_52 a1 a2 200 s5 v3 x4 0 0
  else
    some (0, s2)
def fn_Mo_deviation (s : MS) (a1 : Int32) (a2 : Int32) : Option (Int64 × MS) :=
  ct_ob (fn_Mo_left s) fun x1 =>
  if a1 < 0 then
    bk_Mo_deviation_22 a1 a2 s 1 x1
  else
    if a1 ≤ (x1 - 2) then
      bk_Mo_deviation_22 a1 a2 s 0 x1
    else
      bk_Mo_deviation_22 a1 a2 s 1 x1
def bk_Mo_error_35 (a1 : Int32) (a2 : Int32) (a3 : Int32) (s : MS) (t1 : Int32) (v4 : Int32) : Option (Int64 × MS) :=
  ct_nm (ms_I' s 0 t1) fun s2 =>
  if (ms_I s2 0) = 0 then
    ct_ob (fn_Mo_look s2) fun s3 =>
    ct_nm ((v4 - 1) - a2) fun x4 =>
    ct_nm (((ms_I s3 5) - 2) - a2) fun x5 =>
    ct_ob2 (fn_Mo_areDefined s3 a1 x4 x5) fun x6 s7 =>
    if ¬ x6 = 0 then
      ct_ob (fn_Mo_way s7 a1 x4 x5) fun s8 =>
      ct_ob (fn_Mo_latestOf s8 a2) fun x9 =>
      ct_ob (fn_Mo_times s8 x9.toInt64 1) fun s10 =>
      ct_gd (ct_inR ((((6 * a2) + (ms_I s10 5)) - 1) - a2) 36) <|
      ct_ob (fn_Mo_plus s10 ((-(ms_A s10 8 ((((6 * a2) + (ms_I s10 5)) - 1) - a2).toNatClampNeg)).toInt64) 1) fun s11 =>
      ct_ob (fn_Mo_answer s11) fun x12 =>
      ct_ob2 (fn_Mo_told s11 x12 a3) fun x13 s14 =>
      some (x13, s14)
    else
      ct_ob2 (fn_Mo_told s7 2 a3) fun x15 s16 =>
      some (x15, s16)
  else
    some (0, s2)
def fn_Mo_error (s : MS) (a1 : Int32) (a2 : Int32) (a3 : Int32) : Option (Int64 × MS) :=
  ct_ob (fn_Mo_left s) fun x1 =>
  if a1 < 0 then
    bk_Mo_error_35 a1 a2 a3 s 1 x1
  else
    if 1 < a1 then
      bk_Mo_error_35 a1 a2 a3 s 1 x1
    else
      if a2 < (ms_I s 6) then
        bk_Mo_error_35 a1 a2 a3 s 1 x1
      else
        if a2 < x1 then
          bk_Mo_error_35 a1 a2 a3 s 0 x1
        else
          bk_Mo_error_35 a1 a2 a3 s 1 x1
def bk_Mo_diagonal_81 (a1 : Int32) (k38 : MS → Int32 → Int32 → Option (Int32 × MS)) (s : MS) (t0 : Int32) (t1 : Int32) (t2 : Int32) (v3 : Int32) : Option (Int32 × MS) :=
  ct_nm (t0 + (t1 - t2)) fun x4 =>
  k38 s x4 (v3 + 1)
def bk_Mo_diagonal_38_o (a1 : Int32) (k38 : MS → Int32 → Int32 → Option (Int32 × MS)) (s : MS) (v2 : Int32) (v3 : Int32) : Option (Int32 × MS) :=
  if a1 < v3 then
    some (v2, s)
  else
    ct_gd (ct_inR (((6 * v3) + a1) - v3) 36) <|
    if ¬ a1 = v3 then
      ct_gd (ct_inR ((((6 * v3) + a1) - v3) - 1) 36) <|
      bk_Mo_diagonal_81 a1 k38 s v2 (ms_A s 8 (((6 * v3) + a1) - v3).toNatClampNeg) (ms_A s 8 ((((6 * v3) + a1) - v3) - 1).toNatClampNeg) v3
    else
      bk_Mo_diagonal_81 a1 k38 s v2 (ms_A s 8 (((6 * v3) + a1) - v3).toNatClampNeg) 0 v3
def bk_Mo_diagonal_38 (a1 : Int32) : Nat → MS → Int32 → Int32 → Option (Int32 × MS)
  | 0 => fun _ _ _ => none
  | n + 1 => bk_Mo_diagonal_38_o a1 (bk_Mo_diagonal_38 a1 n)
def bk_Mo_diagonal_18 (a1 : Int32) (s : MS) (t1 : Int32) : Option (Int32 × MS) :=
  ct_nm (ms_I' s 0 t1) fun s2 =>
  if (ms_I s2 0) = 0 then
    ct_ob (fn_Mo_look s2) fun s3 =>
    bk_Mo_diagonal_38 a1 200 s3 0 0
  else
    some (0, s2)
def fn_Mo_diagonal (s : MS) (a1 : Int32) : Option (Int32 × MS) :=
  if a1 < 0 then
    bk_Mo_diagonal_18 a1 s 1
  else
    ct_ob (fn_Mo_left s) fun x1 =>
    if a1 < x1 then
      bk_Mo_diagonal_18 a1 s 0
    else
      bk_Mo_diagonal_18 a1 s 1
def bk_Mo_count_98 (a1 : Int32) (k25 : MS → Int32 → Int32 → Int32 → Option (Int32 × MS)) (s : MS) (t0 : Int32) (t1 : Int32) (v2 : Int32) (v4 : Int32) : Option (Int32 × MS) :=
  ct_nm (t0 + t1) fun x4 =>
  k25 s v2 x4 (v4 + 1)
def bk_Mo_count_50 (a1 : Int32) (k25 : MS → Int32 → Int32 → Int32 → Option (Int32 × MS)) (s : MS) (t0 : Int32) (t1 : Int32) (v3 : Int32) (v4 : Int32) : Option (Int32 × MS) :=
  ct_nm (t0 + t1) fun x3 =>
  ct_gd (ct_inR v4 60) <|
  if ¬ (ms_A s 5 v4.toNatClampNeg) = 0 then
    bk_Mo_count_98 a1 k25 s v3 0 x3 v4
  else
    ct_gd (ct_inR v4 60) <|
    if (ms_A s 4 v4.toNatClampNeg) = 0 then
      bk_Mo_count_98 a1 k25 s v3 0 x3 v4
    else
      ct_gd (ct_inR v4 60) <|
      if ¬ (ms_A s 0 v4.toNatClampNeg) = (ms_I s 2) then
        bk_Mo_count_98 a1 k25 s v3 0 x3 v4
      else
        ct_gd (ct_inR v4 60) <|
        bk_Mo_count_98 a1 k25 s v3 (ms_A s 3 v4.toNatClampNeg) x3 v4
def bk_Mo_count_25_o (a1 : Int32) (k25 : MS → Int32 → Int32 → Int32 → Option (Int32 × MS)) (s : MS) (v2 : Int32) (v3 : Int32) (v4 : Int32) : Option (Int32 × MS) :=
  if (ms_I s 1) ≤ v4 then
    if (ms_I s 0) = 0 then
      if a1 = 0 then
        some (ms_I s 1, s)
      else
      if a1 = 1 then
        some (v2, s)
      else
      if a1 = 2 then
        ct_ob (fn_Mo_left s) fun x2 =>
        some (x2, s)
      else
      if a1 = 3 then
        some (ms_I s 6, s)
      else
      some (v3, s)
    else
      some (0, s)
  else
    ct_gd (ct_inR v4 60) <|
    if (ms_A s 5 v4.toNatClampNeg) = 0 then
      bk_Mo_count_50 a1 k25 s v2 1 v3 v4
    else
      bk_Mo_count_50 a1 k25 s v2 0 v3 v4
def bk_Mo_count_25 (a1 : Int32) : Nat → MS → Int32 → Int32 → Int32 → Option (Int32 × MS)
  | 0 => fun _ _ _ _ => none
  | n + 1 => bk_Mo_count_25_o a1 (bk_Mo_count_25 a1 n)
def bk_Mo_count_15 (a1 : Int32) (s : MS) (t1 : Int32) : Option (Int32 × MS) :=
  ct_nm (ms_I' s 0 t1) fun s1 =>
  bk_Mo_count_25 a1 200 s1 0 0 0
def fn_Mo_count (s : MS) (a1 : Int32) : Option (Int32 × MS) :=
  if a1 < 0 then
    bk_Mo_count_15 a1 s 1
  else
    if a1 ≤ 4 then
      bk_Mo_count_15 a1 s 0
    else
      bk_Mo_count_15 a1 s 1
end
section
/-! whole numbers behind Int64; greatest common divisors; the two ways of reckoning in fractions as one (over Int) -/
theorem pa_bm {n : Int} (h1 : -9223372036854775808 ≤ n) (h2 : n < 9223372036854775808) : n.bmod (2 ^ 64) = n :=
  Int.bmod_eq_of_le (by simpa using h1) (by simpa using h2)
theorem pa_lo (x : Int64) : -9223372036854775808 ≤ x.toInt := by have h := x.le_toInt; simpa using h
theorem pa_hi (x : Int64) : x.toInt < 9223372036854775808 := by have h := x.toInt_lt; simpa using h
theorem pa_lo32 (x : Int32) : -2147483648 ≤ x.toInt := by have h := x.le_toInt; simpa using h
theorem pa_hi32 (x : Int32) : x.toInt < 2147483648 := by have h := x.toInt_lt; simpa using h
theorem pa_bm32 {n : Int} (h1 : -2147483648 ≤ n) (h2 : n < 2147483648) : n.bmod (2 ^ 32) = n :=
  Int.bmod_eq_of_le (by simpa using h1) (by simpa using h2)
theorem pa_mul {x y : Int64} (h1 : -9223372036854775808 ≤ x.toInt * y.toInt) (h2 : x.toInt * y.toInt < 9223372036854775808) : (x * y).toInt = x.toInt * y.toInt := by rw [Int64.toInt_mul, pa_bm h1 h2]
theorem pa_add {x y : Int64} (h1 : -9223372036854775808 ≤ x.toInt + y.toInt) (h2 : x.toInt + y.toInt < 9223372036854775808) : (x + y).toInt = x.toInt + y.toInt := by rw [Int64.toInt_add, pa_bm h1 h2]
theorem pa_sub {x y : Int64} (h1 : -9223372036854775808 ≤ x.toInt - y.toInt) (h2 : x.toInt - y.toInt < 9223372036854775808) : (x - y).toInt = x.toInt - y.toInt := by rw [Int64.toInt_sub, pa_bm h1 h2]
theorem pa_neg {x : Int64} (h : x.toInt ≠ -9223372036854775808) : (-x).toInt = -x.toInt := by
  have h1 := pa_lo x
  have h2 := pa_hi x
  rw [Int64.toInt_neg, pa_bm (by omega) (by omega)]
theorem pa_div {x y : Int64} (h : x.toInt ≠ -9223372036854775808) : (x / y).toInt = x.toInt.tdiv y.toInt :=
  Int64.toInt_div_of_ne_left x y (fun e => h (by rw [e]; rfl))
theorem pa_ediv {x y : Int64} (h : x.toInt ≠ -9223372036854775808) (hd : y.toInt ∣ x.toInt) : (x / y).toInt = x.toInt / y.toInt := by
  rw [pa_div h, Int.tdiv_eq_ediv_of_dvd hd]
theorem pa_eq0 {x : Int64} : x = 0 ↔ x.toInt = 0 := ⟨fun h => by rw [h]; rfl, fun h => Int64.toInt.inj (h.trans rfl)⟩
theorem pa_rem {x y : Int64} (hx : 0 ≤ x.toInt) (hy : 0 < y.toInt) : (x - x / y * y).toInt = x.toInt % y.toInt := by
  have h0 := pa_hi x
  have h1 : (x / y).toInt = x.toInt / y.toInt := by rw [pa_div (by omega), Int.tdiv_eq_ediv_of_nonneg hx]
  have h2 := Int.ediv_mul_add_emod x.toInt y.toInt
  have h3 := Int.emod_nonneg x.toInt (show y.toInt ≠ 0 by omega)
  have h4 : 0 ≤ x.toInt / y.toInt * y.toInt := Int.mul_nonneg (Int.ediv_nonneg hx (by omega)) (by omega)
  have h5 : (x / y * y).toInt = x.toInt / y.toInt * y.toInt := by rw [pa_mul (by rw [h1]; omega) (by rw [h1]; omega), h1]
  rw [pa_sub (by rw [h5]; omega) (by rw [h5]; omega), h5]
  omega
theorem pa_abs {x : Int64} (h : x.toInt ≠ -9223372036854775808) : (ct_abL x).toInt = x.toInt.natAbs := by
  unfold ct_abL
  split
  · rename_i q
    have q : (0 : Int64).toInt < x.toInt := Int64.lt_iff_toInt_lt.mp q
    have e : (0 : Int64).toInt = 0 := rfl
    omega
  · rename_i q
    have q : ¬ (0 : Int64).toInt < x.toInt := fun z => q (Int64.lt_iff_toInt_lt.mpr z)
    have e : (0 : Int64).toInt = 0 := rfl
    rw [pa_neg h]
    omega
/-! Euclid's turns -/
theorem pa_half {q r : Nat} (h0 : 0 < r) (h : r ≤ q) : 2 * (q % r) < q := by
  have h1 := Nat.mod_lt q h0
  have h2 := Nat.div_add_mod q r
  have h3 : 1 ≤ q / r := (Nat.le_div_iff_mul_le h0).mpr (by omega)
  have h4 : r * 1 ≤ r * (q / r) := Nat.mul_le_mul_left r h3
  omega
def pa_eu : Nat → Nat → Nat → Nat
  | 0, p, _ => p
  | n + 1, p, q => if q = 0 then p else pa_eu n q (p % q)
theorem pa_eu_gcd : ∀ (k p q : Nat), q < 2 ^ k → pa_eu (2 * k) p q = Nat.gcd p q := by
  intro k
  induction k with
  | zero =>
    intro p q h
    have h : q = 0 := by simpa using h
    rw [h, Nat.gcd_zero_right]
    rfl
  | succ k ih =>
    intro p q h
    rw [show 2 * (k + 1) = 2 * k + 1 + 1 by omega]
    unfold pa_eu
    by_cases hq : q = 0
    · rw [if_pos hq, hq, Nat.gcd_zero_right]
    · rw [if_neg hq]
      have e1 : Nat.gcd p q = Nat.gcd q (p % q) := by rw [Nat.gcd_comm p q, Nat.gcd_rec q p, Nat.gcd_comm]
      unfold pa_eu
      by_cases hr : p % q = 0
      · rw [if_pos hr, e1, hr, Nat.gcd_zero_right]
      · rw [if_neg hr]
        have e2 : Nat.gcd q (p % q) = Nat.gcd (p % q) (q % (p % q)) := by rw [Nat.gcd_comm q, Nat.gcd_rec (p % q) q, Nat.gcd_comm]
        have h1 := Nat.mod_lt p (Nat.pos_of_ne_zero hq)
        have h2 := pa_half (Nat.pos_of_ne_zero hr) (Nat.le_of_lt h1)
        rw [ih _ _ (by rw [Nat.pow_succ] at h; omega), e1, e2]
/-! times and plus over Int; L = 2 ^ 62 -/
def sp_ok (a b : Int) : Prop := a.natAbs ≤ 4611686018427387904 ∧ 0 < b ∧ b ≤ 4611686018427387904
def sp_times (a b c d : Int) : Option (Int × Int) :=
  if (a / (Int.gcd a d : Int) * (c / (Int.gcd c b : Int))).natAbs ≤ 4611686018427387904 ∧ b / (Int.gcd c b : Int) * (d / (Int.gcd a d : Int)) ≤ 4611686018427387904 then some (a / (Int.gcd a d : Int) * (c / (Int.gcd c b : Int)), b / (Int.gcd c b : Int) * (d / (Int.gcd a d : Int))) else none
def sp_plus (a b c d : Int) : Option (Int × Int) :=
  if b * (d / (Int.gcd b d : Int)) ≤ 4611686018427387904 ∧ (a * (d / (Int.gcd b d : Int))).natAbs ≤ 4611686018427387904 ∧ (c * (b / (Int.gcd b d : Int))).natAbs ≤ 4611686018427387904 ∧ (a * (d / (Int.gcd b d : Int)) + c * (b / (Int.gcd b d : Int))).natAbs ≤ 4611686018427387904 then
    some ((a * (d / (Int.gcd b d : Int)) + c * (b / (Int.gcd b d : Int))) / (Int.gcd (a * (d / (Int.gcd b d : Int)) + c * (b / (Int.gcd b d : Int))) (b * (d / (Int.gcd b d : Int))) : Int), b * (d / (Int.gcd b d : Int)) / (Int.gcd (a * (d / (Int.gcd b d : Int)) + c * (b / (Int.gcd b d : Int))) (b * (d / (Int.gcd b d : Int))) : Int)) else none
theorem sp_times_comm (a b c d : Int) : sp_times a b c d = sp_times c d a b := by
  unfold sp_times
  rw [Int.mul_comm (a / (Int.gcd a d : Int)), Int.mul_comm (b / (Int.gcd c b : Int))]
theorem sp_lcm (b d : Int) : b * (d / (Int.gcd b d : Int)) = d * (b / (Int.gcd b d : Int)) := by
  rw [← Int.mul_ediv_assoc b (Int.gcd_dvd_right b d), Int.mul_comm b d, Int.mul_ediv_assoc d (Int.gcd_dvd_left b d)]
theorem sp_plus_comm (a b c d : Int) : sp_plus a b c d = sp_plus c d a b := by
  unfold sp_plus
  rw [sp_lcm b d, Int.gcd_comm d b, Int.add_comm (a * (d / (Int.gcd b d : Int)))]
  have e : ∀ (P Q R S : Prop) [Decidable P] [Decidable Q] [Decidable R] [Decidable S] (x y : Option (Int × Int)), (if P ∧ Q ∧ R ∧ S then x else y) = (if P ∧ R ∧ Q ∧ S then x else y) := by
    intro P Q R S _ _ _ _ x y
    by_cases hP : P <;> by_cases hQ : Q <;> by_cases hR : R <;> by_cases hS : S <;> simp [hP, hQ, hR, hS]
  exact e _ _ _ _ _ _
theorem sp_times_ok {a b c d x y : Int} (hb : 0 < b) (hd : 0 < d) (h : sp_times a b c d = some (x, y)) : sp_ok x y := by
  unfold sp_times at h
  split at h
  · rename_i q
    have h := Option.some.inj h
    have h1 := (congrArg Prod.fst h).symm
    have h2 := (congrArg Prod.snd h).symm
    dsimp only at h1 h2
    rw [h1, h2]
    exact ⟨q.1, Int.mul_pos (Int.ediv_pos_of_pos_of_dvd hb (Int.natCast_nonneg _) (Int.gcd_dvd_right _ _)) (Int.ediv_pos_of_pos_of_dvd hd (Int.natCast_nonneg _) (Int.gcd_dvd_right _ _)), q.2⟩
  · cases h
theorem sp_plus_ok {a b c d x y : Int} (hb : 0 < b) (hd : 0 < d) (h : sp_plus a b c d = some (x, y)) : sp_ok x y := by
  unfold sp_plus at h
  split at h
  · rename_i q
    have h := Option.some.inj h
    have h1 := (congrArg Prod.fst h).symm
    have h2 := (congrArg Prod.snd h).symm
    dsimp only at h1 h2
    have hm : 0 < b * (d / (Int.gcd b d : Int)) := Int.mul_pos hb (Int.ediv_pos_of_pos_of_dvd hd (Int.natCast_nonneg _) (Int.gcd_dvd_right _ _))
    generalize b * (d / (Int.gcd b d : Int)) = m at *
    generalize a * (d / (Int.gcd b d : Int)) + c * (b / (Int.gcd b d : Int)) = n at *
    rw [h1, h2]
    refine ⟨Nat.le_trans (Int.natAbs_ediv_le_natAbs _ _) q.2.2.2, Int.ediv_pos_of_pos_of_dvd hm (Int.natCast_nonneg _) (Int.gcd_dvd_right _ _), ?_⟩
    have := Int.natAbs_ediv_le_natAbs m (Int.gcd n m : Int)
    have h3 := Int.ediv_nonneg (Int.le_of_lt hm) (Int.natCast_nonneg (Int.gcd n m))
    omega
  · cases h
/-! what fits: |x * y| ≤ L -/
theorem pa_fit {X Y : Nat} (h : Y ≠ 0) : X ≤ 4611686018427387904 / Y ↔ X * Y ≤ 4611686018427387904 := Nat.le_div_iff_mul_le (Nat.pos_of_ne_zero h)
/-! small numbers as Int32 -/
theorem pi_of {k : Nat} (h : k < 2147483648) : (Int32.ofNat k).toInt = k := Int32.toInt_ofNat_of_lt (by simpa using h)
theorem pi_lt {a b : Nat} (ha : a < 2147483648) (hb : b < 2147483648) : Int32.ofNat a < Int32.ofNat b ↔ a < b := by
  rw [Int32.lt_iff_toInt_lt, pi_of ha, pi_of hb]
  omega
theorem pi_le {a b : Nat} (ha : a < 2147483648) (hb : b < 2147483648) : Int32.ofNat a ≤ Int32.ofNat b ↔ a ≤ b := by
  rw [Int32.le_iff_toInt_le, pi_of ha, pi_of hb]
  omega
theorem pi_cl {k : Nat} (h : k < 2147483648) : (Int32.ofNat k).toNatClampNeg = k := Int32.toNatClampNeg_ofNat_of_lt (by simpa using h)
theorem pi_succ (k : Nat) : Int32.ofNat k + 1 = Int32.ofNat (k + 1) := by rw [Int32.ofNat_add]; rfl
theorem pi_inR {k n : Nat} (h : k < n) (hn : n ≤ 2147483648) : ct_inR (Int32.ofNat k) n = true := by
  unfold ct_inR
  rw [pi_of (by omega)]
  exact decide_eq_true ⟨by omega, by omega⟩
theorem pi_ex {x : Int32} (h : 0 ≤ x.toInt) : ∃ k : Nat, x = Int32.ofNat k ∧ k < 2147483648 ∧ (k : Int) = x.toInt := by
  have h2 := pa_hi32 x
  refine ⟨x.toInt.toNat, Int32.toInt.inj ?_, by omega, by omega⟩
  rw [pi_of (by omega)]
  omega
end
section
/-! sums of Int32 -/
def pu_s : Nat → (Nat → Int32) → Int32
  | 0, _ => 0
  | n + 1, f => pu_s n f + f n
theorem pu_ext {n : Nat} {f g : Nat → Int32} (h : ∀ k, k < n → f k = g k) : pu_s n f = pu_s n g := by
  induction n with
  | zero => rfl
  | succ n ih =>
    show pu_s n f + f n = pu_s n g + g n
    rw [ih (fun k hk => h k (by omega)), h n (by omega)]
theorem pu_ac (a b c d : Int32) : a + b + (c + d) = a + c + (b + d) := by
  rw [Int32.add_assoc, Int32.add_assoc, ← Int32.add_assoc b, Int32.add_comm b c, Int32.add_assoc c]
theorem pu_add (n : Nat) (f g : Nat → Int32) : pu_s n (fun k => f k + g k) = pu_s n f + pu_s n g := by
  induction n with
  | zero => rfl
  | succ n ih =>
    show pu_s n (fun k => f k + g k) + (f n + g n) = (pu_s n f + f n) + (pu_s n g + g n)
    rw [ih, pu_ac]
theorem pu_0 (n : Nat) : pu_s n (fun _ => 0) = 0 := by
  induction n with
  | zero => rfl
  | succ n ih =>
    show pu_s n (fun _ => 0) + 0 = 0
    rw [ih]
    rfl
theorem pu_z {n : Nat} {f : Nat → Int32} (h : ∀ k, k < n → f k = 0) : pu_s n f = 0 := (pu_ext h).trans (pu_0 n)
theorem pu_one {n m : Nat} {f : Nat → Int32} (hm : m < n) (h : ∀ k, k < n → k ≠ m → f k = 0) : pu_s n f = f m := by
  induction n with
  | zero => omega
  | succ n ih =>
    show pu_s n f + f n = f m
    by_cases e : m = n
    · subst e
      rw [pu_z (fun k hk => h k (by omega) (by omega)), Int32.zero_add]
    · rw [ih (by omega) (fun k hk => h k (by omega)), h n (by omega) (fun q => e q.symm), Int32.add_zero]
theorem pu_swap (n m : Nat) (f : Nat → Nat → Int32) : pu_s n (fun i => pu_s m (fun j => f i j)) = pu_s m (fun j => pu_s n (fun i => f i j)) := by
  induction n with
  | zero => exact (pu_0 m).symm
  | succ n ih =>
    show pu_s n (fun i => pu_s m (fun j => f i j)) + pu_s m (fun j => f n j) = pu_s m (fun j => pu_s n (fun i => f i j) + f n j)
    rw [pu_add, ih]
end
section
/-! estimates: the one that counts before B is the greatest (month, number); an estimate's own share is taken off from the month on in which another replaces it -/
def pe_lat (mo : Nat → Nat) (f e : Nat) : Prop := mo e < mo f ∨ (mo f = mo e ∧ e < f)
def pe_best (E : Nat → Bool) (og mo : Nat → Nat) (o B : Nat) : Nat → Option Nat
  | 0 => none
  | k + 1 => if E k = true ∧ og k = o ∧ mo k < B then (match pe_best E og mo o B k with
    | none => some k
    | some f => if mo f ≤ mo k then some k else some f) else pe_best E og mo o B k
def pe_rep (E : Nat → Bool) (og mo : Nat → Nat) (e : Nat) : Nat → Nat
  | 0 => 72
  | k + 1 => if (E k = true ∧ og k = og e ∧ (mo e < mo k ∨ (mo k = mo e ∧ e < k))) ∧ mo k < pe_rep E og mo e k then mo k else pe_rep E og mo e k
theorem pe_rep_lt (E : Nat → Bool) (og mo : Nat → Nat) (e B : Nat) (hB : B ≤ 72) : ∀ k, pe_rep E og mo e k < B ↔ ∃ f, f < k ∧ E f = true ∧ og f = og e ∧ pe_lat mo f e ∧ mo f < B := by
  intro k
  induction k with
  | zero =>
    constructor
    · intro h
      have h : 72 < B := h
      omega
    · rintro ⟨f, hf, -⟩
      omega
  | succ k ih =>
    unfold pe_rep
    by_cases c : (E k = true ∧ og k = og e ∧ (mo e < mo k ∨ (mo k = mo e ∧ e < k))) ∧ mo k < pe_rep E og mo e k
    · rw [if_pos c]
      constructor
      · intro h
        exact ⟨k, by omega, c.1.1, c.1.2.1, c.1.2.2, h⟩
      · rintro ⟨f, hf, h1, h2, h3, h4⟩
        by_cases hk : f = k
        · subst hk
          exact h4
        · have := ih.mpr ⟨f, by omega, h1, h2, h3, h4⟩
          omega
    · rw [if_neg c, ih]
      constructor
      · rintro ⟨f, hf, h⟩
        exact ⟨f, by omega, h⟩
      · rintro ⟨f, hf, h1, h2, h3, h4⟩
        by_cases hk : f = k
        · subst hk
          have h5 : pe_rep E og mo e f ≤ mo f := Nat.not_lt.mp fun q => c ⟨⟨h1, h2, h3⟩, q⟩
          exact ih.mp (by omega)
        · exact ⟨f, by omega, h1, h2, h3, h4⟩
theorem pe_best_none (E : Nat → Bool) (og mo : Nat → Nat) (o B : Nat) : ∀ k, pe_best E og mo o B k = none → ∀ e, e < k → ¬ (E e = true ∧ og e = o ∧ mo e < B) := by
  intro k
  induction k with
  | zero => intro _ e he; omega
  | succ k ih =>
    intro h e he
    unfold pe_best at h
    by_cases c : E k = true ∧ og k = o ∧ mo k < B
    · rw [if_pos c] at h
      split at h
      · cases h
      · split at h <;> cases h
    · rw [if_neg c] at h
      by_cases hk : e = k
      · subst hk; exact c
      · exact ih h e (by omega)
theorem pe_best_some (E : Nat → Bool) (og mo : Nat → Nat) (o B : Nat) : ∀ k f, pe_best E og mo o B k = some f → f < k ∧ (E f = true ∧ og f = o ∧ mo f < B) ∧ ∀ e, e < k → E e = true ∧ og e = o ∧ mo e < B → e = f ∨ pe_lat mo f e := by
  intro k
  induction k with
  | zero => intro f h; cases h
  | succ k ih =>
    intro f h
    unfold pe_best at h
    by_cases c : E k = true ∧ og k = o ∧ mo k < B
    · rw [if_pos c] at h
      split at h
      · rename_i h0
        cases h
        refine ⟨by omega, c, fun e he q => ?_⟩
        by_cases hk : e = k
        · exact Or.inl hk
        · exact absurd q (pe_best_none E og mo o B k h0 e (by omega))
      · rename_i f0 h0
        obtain ⟨a1, a2, a3⟩ := ih f0 h0
        split at h
        · rename_i hle
          cases h
          refine ⟨by omega, c, fun e he q => ?_⟩
          by_cases hk : e = k
          · exact Or.inl hk
          · right
            rcases a3 e (by omega) q with rfl | h1
            · unfold pe_lat; omega
            · unfold pe_lat at h1 ⊢; omega
        · rename_i hle
          cases h
          refine ⟨by omega, a2, fun e he q => ?_⟩
          by_cases hk : e = k
          · subst hk
            right
            unfold pe_lat
            omega
          · exact a3 e (by omega) q
    · rw [if_neg c] at h
      obtain ⟨a1, a2, a3⟩ := ih f h
      refine ⟨by omega, a2, fun e he q => ?_⟩
      by_cases hk : e = k
      · subst hk; exact absurd q c
      · exact a3 e (by omega) q
theorem pe_sum (E : Nat → Bool) (og mo : Nat → Nat) (am : Nat → Int32) (o B n : Nat) (hB : B ≤ 72) :
    pu_s n (fun e => if E e = true ∧ og e = o then (if mo e < B then am e else 0) + (if pe_rep E og mo e n < B then -(am e) else 0) else 0) = match pe_best E og mo o B n with
      | none => 0
      | some f => am f := by
  have zero : ∀ e, e < n → ¬ mo e < B → E e = true ∧ og e = o → (if mo e < B then am e else 0) + (if pe_rep E og mo e n < B then -(am e) else 0) = 0 := by
    intro e he h1 h2
    have h3 : ¬ pe_rep E og mo e n < B := by
      rw [pe_rep_lt E og mo e B hB n]
      rintro ⟨f, hf, -, -, h5, h6⟩
      unfold pe_lat at h5
      omega
    rw [if_neg h1, if_neg h3]
    rfl
  cases hb : pe_best E og mo o B n with
  | none =>
    have h0 := pe_best_none E og mo o B n hb
    refine pu_z (fun e he => ?_)
    by_cases c : E e = true ∧ og e = o
    · rw [if_pos c]
      exact zero e he (fun q => h0 e he ⟨c.1, c.2, q⟩) c
    · rw [if_neg c]
  | some f =>
    obtain ⟨a1, a2, a3⟩ := pe_best_some E og mo o B n f hb
    have hf : (if E f = true ∧ og f = o then (if mo f < B then am f else 0) + (if pe_rep E og mo f n < B then -(am f) else 0) else 0) = am f := by
      have h3 : ¬ pe_rep E og mo f n < B := by
        rw [pe_rep_lt E og mo f B hB n]
        rintro ⟨e, he, h4, h5, h6, h7⟩
        rcases a3 e he ⟨h4, h5.trans a2.2.1, h7⟩ with rfl | h8
        · unfold pe_lat at h6; omega
        · unfold pe_lat at h6 h8; omega
      rw [if_pos ⟨a2.1, a2.2.1⟩, if_pos a2.2.2, if_neg h3, Int32.add_zero]
    show _ = am f
    rw [← hf]
    refine pu_one (f := fun e => if E e = true ∧ og e = o then (if mo e < B then am e else 0) + (if pe_rep E og mo e n < B then -(am e) else 0) else 0) a1 (fun e he hne => ?_)
    by_cases c : E e = true ∧ og e = o
    · rw [if_pos c]
      by_cases h1 : mo e < B
      · have h2 : pe_rep E og mo e n < B := by
          rw [pe_rep_lt E og mo e B hB n]
          rcases a3 e he ⟨c.1, c.2, h1⟩ with h8 | h8
          · exact absurd h8 hne
          · exact ⟨f, a1, a2.1, a2.2.1.trans c.2.symm, h8, a2.2.2⟩
        rw [if_pos h1, if_pos h2, ← Int32.sub_eq_add_neg, Int32.sub_self]
      · exact zero e he h1 c
    · rw [if_neg c]
/-- the origins of a row -/
theorem pe_row {og i st : Nat} (hs : 0 < st) (x : Int32) : pu_s st (fun k => if og = i * st + k then x else 0) = if og / st = i then x else 0 := by
  by_cases h : og / st = i
  · rw [if_pos h]
    have h1 := Nat.div_add_mod og st
    have h2 := Nat.mod_lt og hs
    have h3 : og = i * st + og % st := by rw [← h, Nat.mul_comm]; omega
    have e : (if og = i * st + og % st then x else 0) = x := if_pos h3
    exact (pu_one (f := fun k => if og = i * st + k then x else 0) h2 (fun k hk hne => if_neg (fun q => hne (by omega)))).trans e
  · rw [if_neg h]
    refine pu_z (fun k hk => if_neg (fun q => h ?_))
    rw [q, Nat.mul_comm, Nat.mul_add_div hs, Nat.div_eq_of_lt hk, Nat.add_zero]
/-- all estimates of a row -/
theorem pe_all (E : Nat → Bool) (og mo : Nat → Nat) (am : Nat → Int32) (i st B n : Nat) (hs : 0 < st) (hB : B ≤ 72) :
    pu_s n (fun e => if E e = true ∧ og e / st = i then (if mo e < B then am e else 0) + (if pe_rep E og mo e n < B then -(am e) else 0) else 0) = pu_s st (fun k => match pe_best E og mo (i * st + k) B n with
      | none => 0
      | some f => am f) := by
  rw [← pu_ext (n := st) (fun k _ => pe_sum E og mo am (i * st + k) B n hB), ← pu_swap]
  refine pu_ext (fun e _ => ?_)
  show (if E e = true ∧ og e / st = i then (if mo e < B then am e else 0) + (if pe_rep E og mo e n < B then -(am e) else 0) else 0) = pu_s st (fun k => if E e = true ∧ og e = i * st + k then (if mo e < B then am e else 0) + (if pe_rep E og mo e n < B then -(am e) else 0) else 0)
  generalize (if mo e < B then am e else 0) + (if pe_rep E og mo e n < B then -(am e) else 0) = x
  by_cases c : E e = true
  · have h := pe_row (og := og e) (i := i) hs x
    have h2 : pu_s st (fun k => if E e = true ∧ og e = i * st + k then x else 0) = pu_s st (fun k => if og e = i * st + k then x else 0) := pu_ext (fun k _ => by
      by_cases q : og e = i * st + k
      · rw [if_pos q, if_pos ⟨c, q⟩]
      · rw [if_neg q, if_neg (fun z => q z.2)])
    rw [h2, h]
    by_cases d : og e / st = i
    · rw [if_pos ⟨c, d⟩, if_pos d]
    · rw [if_neg (fun z => d z.2), if_neg d]
  · rw [if_neg (fun z => c z.1)]
    exact (pu_z (fun k _ => if_neg (fun z => c z.1))).symm
end
section
/-! abstract values of fractions: (state, above, below); state 0 fine, 1 too long, 2 undefined (then 0, 0) -/
abbrev AV : Type := Nat × Int × Int
def av_op (f : Int → Int → Int → Int → Option (Int × Int)) (x y : AV) : AV :=
  if x.1 = 0 ∧ y.1 = 0 then (match f x.2.1 x.2.2 y.2.1 y.2.2 with
    | some q => (0, q.1, q.2)
    | none => (1, 0, 0)) else (max x.1 y.1, 0, 0)
def av_times (x y : AV) : AV := av_op sp_times x y
def av_plus (x y : AV) : AV := av_op sp_plus x y
def av_neg (x : AV) : AV := if x.1 = 0 then (0, -x.2.1, x.2.2) else x
def av_inv (x : AV) : AV := if x.1 = 0 then (if x.2.1 = 0 then (2, 0, 0) else if x.2.1 < 0 then (0, -x.2.2, -x.2.1) else (0, x.2.2, x.2.1)) else x
def av_quot (a b : Int) : AV := if b = 0 then (2, 0, 0) else if b < 0 then (0, -(a / (Int.gcd a b : Int)), -b / (Int.gcd a b : Int)) else (0, a / (Int.gcd a b : Int), b / (Int.gcd a b : Int))
def av_int (a : Int) : AV := (0, a, 1)
theorem av_op_comm {f : Int → Int → Int → Int → Option (Int × Int)} (hf : ∀ a b c d, f a b c d = f c d a b) (x y : AV) : av_op f x y = av_op f y x := by
  unfold av_op
  by_cases h : x.1 = 0 ∧ y.1 = 0
  · rw [if_pos h, if_pos ⟨h.2, h.1⟩, hf]
  · rw [if_neg h, if_neg (fun q => h ⟨q.2, q.1⟩), Nat.max_comm]
theorem av_times_comm (x y : AV) : av_times x y = av_times y x := av_op_comm sp_times_comm x y
theorem av_plus_comm (x y : AV) : av_plus x y = av_plus y x := av_op_comm sp_plus_comm x y
def av_ok (x : AV) : Prop := (x.1 = 0 ∧ sp_ok x.2.1 x.2.2) ∨ ((x.1 = 1 ∨ x.1 = 2) ∧ x.2 = (0, 0))
/-- the class's fraction as an abstract value; what is fine about it -/
def fv (t : Int64 × Int64 × Int32) : AV := if t.2.2 = 0 then (0, t.1.toInt, t.2.1.toInt) else if t.2.2 = 1 then (1, 0, 0) else (2, 0, 0)
def fr_ok (t : Int64 × Int64 × Int32) : Prop := (t.2.2 = 0 ∧ sp_ok t.1.toInt t.2.1.toInt) ∨ t.2.2 = 1 ∨ t.2.2 = 2
end
section
/-! the divisors, class and reference -/
theorem pf_eq0 (x : Int64) : lg_cmp x 0 = 0 ↔ x.toInt = 0 := (lg_cmp_eq x 0).trans pa_eq0
theorem pf_gz {x : Int64} (h : x.toInt ≠ 0) : ct_gzL x = true := decide_eq_true (fun e => h (pa_eq0.mp e))
theorem pf_of {n : Int} (h1 : -9223372036854775808 ≤ n) (h2 : n < 9223372036854775808) : (Int64.ofInt n).toInt = n := Int64.toInt_ofInt_of_le (by simpa using h1) (by simpa using h2)
/-- the greatest common divisor as an Int64 -/
def pf_g (a b : Int) : Int64 := Int64.ofInt (Int.gcd a b : Int)
theorem pf_gcd_le {a b : Int} (hb : b ≠ 0) : Int.gcd a b ≤ b.natAbs := Int.gcd_le_natAbs_right a hb
theorem pf_g_int {a b : Int} (ha : a.natAbs < 9223372036854775808) (hb : b.natAbs < 9223372036854775808) : (pf_g a b).toInt = Int.gcd a b := by
  unfold pf_g
  have h : Int.gcd a b < 9223372036854775808 := by
    by_cases h0 : b = 0
    · subst h0; simpa using ha
    · exact Nat.lt_of_le_of_lt (pf_gcd_le h0) hb
  exact pf_of (by omega) (by omega)
/-- the class's loop: k pairs of turns are left -/
theorem pf_div_loop (a1 a2 : Int64) : ∀ (k n : Nat) (p q : Int64) (v8 : Int32), 0 ≤ p.toInt → 0 ≤ q.toInt → q.toInt < 2 ^ k → 0 ≤ v8.toInt → v8.toInt + 2 * k ≤ 128 → 2 * k < n → bk_Fr_divisor_15 a1 a2 n p q v8 = some (ct_mxL (pf_g p.toInt q.toInt) 1) := by
  have hend : ∀ (n : Nat) (p q : Int64) (v8 : Int32), 0 ≤ p.toInt → q.toInt = 0 → 0 < n → bk_Fr_divisor_15 a1 a2 n p q v8 = some (ct_mxL (pf_g p.toInt q.toInt) 1) := by
    intro n p q v8 hp hq hn
    obtain ⟨n, rfl⟩ : ∃ z, n = z + 1 := ⟨n - 1, by omega⟩
    show bk_Fr_divisor_15_o a1 a2 (bk_Fr_divisor_15 a1 a2 n) p q v8 = _
    have e : pf_g p.toInt q.toInt = p := by
      unfold pf_g
      rw [hq, Int.gcd_zero]
      rw [Int.natAbs_of_nonneg hp, Int64.ofInt_toInt]
    unfold bk_Fr_divisor_15_o
    rw [if_pos ((pf_eq0 q).mpr hq), e]
    split <;> rfl
  intro k
  induction k with
  | zero =>
    intro n p q v8 hp hq h _ _ hn
    exact hend n p q v8 hp (by have : (2 : Int) ^ 0 = 1 := rfl; omega) (by omega)
  | succ k ih =>
    intro n p q v8 hp hq h hv1 hv2 hn
    by_cases hq0 : q.toInt = 0
    · exact hend n p q v8 hp hq0 (by omega)
    · obtain ⟨n, rfl⟩ : ∃ z, n = z + 2 := ⟨n - 2, by omega⟩
      have hc : ¬ (128 : Int32) ≤ v8 := fun z => by
        have z := Int32.le_iff_toInt_le.mp z
        have e : (128 : Int32).toInt = 128 := rfl
        omega
      have hr : (p - p / q * q).toInt = p.toInt % q.toInt := pa_rem hp (by omega)
      have hr1 := Int.emod_nonneg p.toInt hq0
      have hr2 := Int.emod_lt_of_pos p.toInt (show 0 < q.toInt by omega)
      have eg : pf_g p.toInt q.toInt = pf_g q.toInt (p - p / q * q).toInt := by
        unfold pf_g
        rw [hr, Int.gcd_comm p.toInt]
        congr 2
        rw [Int.emod_def, Int.gcd_sub_mul_left_right]
      show bk_Fr_divisor_15_o a1 a2 (bk_Fr_divisor_15 a1 a2 (n + 1)) p q v8 = _
      unfold bk_Fr_divisor_15_o
      rw [if_neg hc, if_neg (fun z => hq0 ((pf_eq0 q).mp z)), pf_gz hq0, ct_gd_t, ct_nm_eq, eg]
      generalize hrr : p - p / q * q = r at *
      by_cases hr0 : r.toInt = 0
      · exact hend (n + 1) q r (v8 + 1) (by omega) hr0 (by omega)
      · have hv3 : (v8 + 1).toInt = v8.toInt + 1 := by
          have h1 := pa_hi32 v8
          rw [Int32.toInt_add]
          exact Int.bmod_eq_of_le (by simp; omega) (by simp; omega)
        have hc2 : ¬ (128 : Int32) ≤ v8 + 1 := fun z => by
          have z := Int32.le_iff_toInt_le.mp z
          have e : (128 : Int32).toInt = 128 := rfl
          omega
        have hs : (q - q / r * r).toInt = q.toInt % r.toInt := pa_rem (by omega) (by omega)
        have hs1 := Int.emod_nonneg q.toInt hr0
        have hs2 := Int.emod_lt_of_pos q.toInt (show 0 < r.toInt by omega)
        have eg2 : pf_g q.toInt r.toInt = pf_g r.toInt (q - q / r * r).toInt := by
          unfold pf_g
          rw [hs, Int.gcd_comm q.toInt]
          congr 2
          rw [Int.emod_def, Int.gcd_sub_mul_left_right]
        have hhalf : 2 * (q.toInt % r.toInt) < q.toInt := by
          have h1 := pa_half (q := q.toInt.toNat) (r := r.toInt.toNat) (by omega) (by omega)
          have h2 : ((q.toInt.toNat % r.toInt.toNat : Nat) : Int) = q.toInt % r.toInt := by
            rw [Int.natCast_emod, Int.toNat_of_nonneg (by omega), Int.toNat_of_nonneg (by omega)]
          omega
        show bk_Fr_divisor_15_o a1 a2 (bk_Fr_divisor_15 a1 a2 n) q r (v8 + 1) = _
        unfold bk_Fr_divisor_15_o
        rw [if_neg hc2, if_neg (fun z => hr0 ((pf_eq0 r).mp z)), pf_gz hr0, ct_gd_t, ct_nm_eq, eg2]
        refine ih n r _ _ (by omega) (by omega) ?_ ?_ ?_ (by omega)
        · rw [hs]
          have : (2 : Int) ^ (k + 1) = 2 ^ k * 2 := Int.pow_succ 2 k
          omega
        · have h1 := pa_hi32 v8
          have : (v8 + 1 + 1).toInt = v8.toInt + 2 := by
            have e1 : (1 : Int32).toInt = 1 := rfl
            rw [Int32.toInt_add, hv3, e1, pa_bm32 (by omega) (by omega)]
            omega
          omega
        · have h1 := pa_hi32 v8
          have : (v8 + 1 + 1).toInt = v8.toInt + 2 := by
            have e1 : (1 : Int32).toInt = 1 := rfl
            rw [Int32.toInt_add, hv3, e1, pa_bm32 (by omega) (by omega)]
            omega
          omega
theorem pf_divisor {x y : Int64} (hx : x.toInt ≠ -9223372036854775808) (hy : y.toInt ≠ -9223372036854775808) (h0 : x.toInt ≠ 0 ∨ y.toInt ≠ 0) : fn_Fr_divisor x y = some (pf_g x.toInt y.toInt) := by
  have h1 := pa_lo x
  have h2 := pa_hi x
  have h3 := pa_lo y
  have h4 := pa_hi y
  unfold fn_Fr_divisor
  rw [ct_nm_eq, ct_nm_eq, pf_div_loop x y 63 200 _ _ _ (by rw [pa_abs hx]; omega) (by rw [pa_abs hy]; omega) (by rw [pa_abs hy]; have : (2 : Int) ^ 63 = 9223372036854775808 := rfl; omega) (by decide) (by decide) (by decide)]
  have e : pf_g (ct_abL x).toInt (ct_abL y).toInt = pf_g x.toInt y.toInt := by
    unfold pf_g
    rw [pa_abs hx, pa_abs hy]
    rfl
  rw [e]
  congr 1
  unfold ct_mxL
  have hg : (pf_g x.toInt y.toInt).toInt = Int.gcd x.toInt y.toInt := pf_g_int (by omega) (by omega)
  have hp : 0 < Int.gcd x.toInt y.toInt := Int.gcd_pos_iff.mpr h0
  by_cases c : (1 : Int64) < pf_g x.toInt y.toInt
  · rw [if_pos c]
  · rw [if_neg c]
    have c : ¬ (1 : Int64).toInt < (pf_g x.toInt y.toInt).toInt := fun z => c (Int64.lt_iff_toInt_lt.mpr z)
    have e1 : (1 : Int64).toInt = 1 := rfl
    exact Int64.toInt.inj (by rw [hg]; omega)
/-- the reference's loop -/
theorem pf_mdiv_loop (a1 a2 : Int64) : ∀ (k n : Nat) (p q : Int64), 0 ≤ p.toInt → 0 ≤ q.toInt → q.toInt < 2 ^ k → 2 * k < n → bk_Mo_divisor_6 a1 a2 n p q = some (pf_g p.toInt q.toInt) := by
  have hend : ∀ (n : Nat) (p q : Int64), 0 ≤ p.toInt → q.toInt = 0 → 0 < n → bk_Mo_divisor_6 a1 a2 n p q = some (pf_g p.toInt q.toInt) := by
    intro n p q hp hq hn
    obtain ⟨n, rfl⟩ : ∃ z, n = z + 1 := ⟨n - 1, by omega⟩
    show bk_Mo_divisor_6_o a1 a2 (bk_Mo_divisor_6 a1 a2 n) p q = _
    have e : pf_g p.toInt q.toInt = p := by
      unfold pf_g
      rw [hq, Int.gcd_zero]
      rw [Int.natAbs_of_nonneg hp, Int64.ofInt_toInt]
    unfold bk_Mo_divisor_6_o
    rw [if_pos ((pf_eq0 q).mpr hq), e]
  intro k
  induction k with
  | zero =>
    intro n p q hp hq h hn
    exact hend n p q hp (by have : (2 : Int) ^ 0 = 1 := rfl; omega) (by omega)
  | succ k ih =>
    intro n p q hp hq h hn
    by_cases hq0 : q.toInt = 0
    · exact hend n p q hp hq0 (by omega)
    · obtain ⟨n, rfl⟩ : ∃ z, n = z + 2 := ⟨n - 2, by omega⟩
      have hr : (p - p / q * q).toInt = p.toInt % q.toInt := pa_rem hp (by omega)
      have hr1 := Int.emod_nonneg p.toInt hq0
      have hr2 := Int.emod_lt_of_pos p.toInt (show 0 < q.toInt by omega)
      have eg : pf_g p.toInt q.toInt = pf_g q.toInt (p - p / q * q).toInt := by
        unfold pf_g
        rw [hr, Int.gcd_comm p.toInt]
        congr 2
        rw [Int.emod_def, Int.gcd_sub_mul_left_right]
      show bk_Mo_divisor_6_o a1 a2 (bk_Mo_divisor_6 a1 a2 (n + 1)) p q = _
      unfold bk_Mo_divisor_6_o
      rw [if_neg (fun z => hq0 ((pf_eq0 q).mp z)), pf_gz hq0, ct_gd_t, ct_nm_eq, eg]
      generalize hrr : p - p / q * q = r at *
      by_cases hr0 : r.toInt = 0
      · exact hend (n + 1) q r (by omega) hr0 (by omega)
      · have hs : (q - q / r * r).toInt = q.toInt % r.toInt := pa_rem (by omega) (by omega)
        have hs1 := Int.emod_nonneg q.toInt hr0
        have hs2 := Int.emod_lt_of_pos q.toInt (show 0 < r.toInt by omega)
        have eg2 : pf_g q.toInt r.toInt = pf_g r.toInt (q - q / r * r).toInt := by
          unfold pf_g
          rw [hs, Int.gcd_comm q.toInt]
          congr 2
          rw [Int.emod_def, Int.gcd_sub_mul_left_right]
        have hhalf : 2 * (q.toInt % r.toInt) < q.toInt := by
          have h1 := pa_half (q := q.toInt.toNat) (r := r.toInt.toNat) (by omega) (by omega)
          have h2 : ((q.toInt.toNat % r.toInt.toNat : Nat) : Int) = q.toInt % r.toInt := by
            rw [Int.natCast_emod, Int.toNat_of_nonneg (by omega), Int.toNat_of_nonneg (by omega)]
          omega
        show bk_Mo_divisor_6_o a1 a2 (bk_Mo_divisor_6 a1 a2 n) q r = _
        unfold bk_Mo_divisor_6_o
        rw [if_neg (fun z => hr0 ((pf_eq0 r).mp z)), pf_gz hr0, ct_gd_t, ct_nm_eq, eg2]
        refine ih n r _ (by omega) (by omega) ?_ (by omega)
        rw [hs]
        have : (2 : Int) ^ (k + 1) = 2 ^ k * 2 := Int.pow_succ 2 k
        omega
theorem pf_mdivisor {x y : Int64} (hx : 0 ≤ x.toInt) (hy : 0 ≤ y.toInt) : fn_Mo_divisor x y = some (pf_g x.toInt y.toInt) := by
  have h4 := pa_hi y
  unfold fn_Mo_divisor
  exact pf_mdiv_loop x y 63 200 x y hx hy (by have : (2 : Int) ^ 63 = 9223372036854775808 := rfl; omega) (by decide)
theorem pf_size {x : Int64} (hx : x.toInt ≠ -9223372036854775808) : ∃ z, fn_Mo_size x = some z ∧ z.toInt = x.toInt.natAbs := by
  unfold fn_Mo_size
  by_cases c : 0 ≤ lg_cmp x 0
  · rw [if_pos c]
    have c := Int64.le_iff_toInt_le.mp ((lg_cmp_ge x 0).mp c)
    have e : (0 : Int64).toInt = 0 := rfl
    exact ⟨x, rfl, by omega⟩
  · rw [if_neg c]
    have c : ¬ (0 : Int64).toInt ≤ x.toInt := fun z => c ((lg_cmp_ge x 0).mpr (Int64.le_iff_toInt_le.mpr z))
    have e : (0 : Int64).toInt = 0 := rfl
    exact ⟨-x, rfl, by rw [pa_neg hx]; omega⟩
/-! what fits -/
def pf_b (c : Prop) [Decidable c] : Int32 := if c then 1 else 0
theorem pf_quot {y : Int64} (hy : 0 < y.toInt) : ((4611686018427387904 : Int64) / y).toInt = 4611686018427387904 / y.toInt := by
  have e : (4611686018427387904 : Int64).toInt = 4611686018427387904 := rfl
  rw [pa_div (by rw [e]; decide), e, Int.tdiv_eq_ediv_of_nonneg (by decide)]
theorem pf_fits {x y : Int64} (hx : x.toInt ≠ -9223372036854775808) (hy : y.toInt ≠ -9223372036854775808) : fn_Fr_fits x y = some (pf_b ((x.toInt * y.toInt).natAbs ≤ 4611686018427387904)) := by
  unfold fn_Fr_fits pf_b
  by_cases h0 : y.toInt = 0
  · rw [if_pos ((pf_eq0 y).mpr h0), h0, Int.mul_zero]
    rfl
  · have ha := pa_abs hy
    have hb := pa_abs hx
    have hap : 0 < (ct_abL y).toInt := by omega
    rw [if_neg (fun z => h0 ((pf_eq0 y).mp z)), pf_gz (by omega), ct_gd_t]
    have e : (0 < lg_cmp (ct_abL x) (4611686018427387904 / ct_abL y)) ↔ ¬ (x.toInt * y.toInt).natAbs ≤ 4611686018427387904 := by
      rw [lg_cmp_gt, Int64.lt_iff_toInt_lt, pf_quot hap, ha, hb, Int.natAbs_mul, ← pa_fit (by omega), Nat.not_le, ← Int.ofNat_lt, Int.natCast_ediv]
      exact Iff.rfl
    by_cases c : (x.toInt * y.toInt).natAbs ≤ 4611686018427387904
    · rw [if_neg (fun z => e.mp z c), if_pos c]
    · rw [if_pos (e.mpr c), if_neg c]
theorem pf_short {x y : Int64} (hx : x.toInt ≠ -9223372036854775808) (hy : y.toInt ≠ -9223372036854775808) : fn_Mo_isShort x y = some (pf_b ((x.toInt * y.toInt).natAbs ≤ 4611686018427387904)) := by
  unfold fn_Mo_isShort pf_b
  by_cases h1 : x.toInt = 0
  · rw [if_pos ((pf_eq0 x).mpr h1), h1, Int.zero_mul]
    rfl
  rw [if_neg (fun z => h1 ((pf_eq0 x).mp z))]
  by_cases h0 : y.toInt = 0
  · rw [if_pos ((pf_eq0 y).mpr h0), h0, Int.mul_zero]
    rfl
  · obtain ⟨z1, e1, hb⟩ := pf_size hx
    obtain ⟨z2, e2, ha⟩ := pf_size hy
    have hap : 0 < z2.toInt := by omega
    rw [if_neg (fun z => h0 ((pf_eq0 y).mp z)), e1, ct_ob_s, e2, ct_ob_s, pf_gz (by omega), ct_gd_t]
    have e : (0 < lg_cmp z1 (4611686018427387904 / z2)) ↔ ¬ (x.toInt * y.toInt).natAbs ≤ 4611686018427387904 := by
      rw [lg_cmp_gt, Int64.lt_iff_toInt_lt, pf_quot hap, ha, hb, Int.natAbs_mul, ← pa_fit (by omega), Nat.not_le, ← Int.ofNat_lt, Int.natCast_ediv]
      exact Iff.rfl
    by_cases c : (x.toInt * y.toInt).natAbs ≤ 4611686018427387904
    · rw [if_neg (fun z => e.mp z c), if_pos c]
    · rw [if_pos (e.mpr c), if_neg c]
end
