section
/-- a private method of a class that the tables say can be made, by its rows of tables_1 -/
def lw_okq (q : MethodName × Nat) : Prop := (q.1.cls ≠ "java/lang/invoke/MethodHandle" ∧ q.1.cls ≠ "java/lang/invoke/VarHandle") ∧ Cond.instantiable q.1.cls q.2 ∈ tables_1 ∧ Cond.privateMethod q.1 ∈ tables_1 ∧ Cond.instanceMethod q.1 ∈ tables_1
theorem lw_p0 : lw_okq (⟨"java/lang/Throwable", "fillInStackTrace", "(I)Ljava/lang/Throwable;"⟩, 6) := ⟨⟨by decide +kernel, by decide +kernel⟩, List.mem_of_getElem? (i := 252) (by decide +kernel), List.mem_of_getElem? (i := 250) (by decide +kernel), List.mem_of_getElem? (i := 251) (by decide +kernel)⟩
theorem lw_p1 : lw_okq (⟨"ClaimTriangle", "enter", "(IIIIZ)I"⟩, 4) := ⟨⟨by decide +kernel, by decide +kernel⟩, List.mem_of_getElem? (i := 17) (by decide +kernel), List.mem_of_getElem? (i := 282) (by decide +kernel), List.mem_of_getElem? (i := 283) (by decide +kernel)⟩
theorem lw_p2 : lw_okq (⟨"ClaimTriangle$Triangle", "clear", "()V"⟩, 7) := ⟨⟨by decide +kernel, by decide +kernel⟩, List.mem_of_getElem? (i := 71) (by decide +kernel), List.mem_of_getElem? (i := 316) (by decide +kernel), List.mem_of_getElem? (i := 317) (by decide +kernel)⟩
theorem lw_p3 : lw_okq (⟨"ClaimTriangle$Triangle", "add", "(III)V"⟩, 7) := ⟨⟨by decide +kernel, by decide +kernel⟩, List.mem_of_getElem? (i := 71) (by decide +kernel), List.mem_of_getElem? (i := 324) (by decide +kernel), List.mem_of_getElem? (i := 325) (by decide +kernel)⟩
theorem lw_p4 : lw_okq (⟨"ClaimTriangle$Triangle", "addEstimate", "(LClaimTriangle$Ledger;I)V"⟩, 7) := ⟨⟨by decide +kernel, by decide +kernel⟩, List.mem_of_getElem? (i := 71) (by decide +kernel), List.mem_of_getElem? (i := 328) (by decide +kernel), List.mem_of_getElem? (i := 329) (by decide +kernel)⟩
theorem lw_p5 : lw_okq (⟨"ClaimTriangle$Ledger", "replaces", "(II)Z"⟩, 7) := ⟨⟨by decide +kernel, by decide +kernel⟩, List.mem_of_getElem? (i := 25) (by decide +kernel), List.mem_of_getElem? (i := 336) (by decide +kernel), List.mem_of_getElem? (i := 337) (by decide +kernel)⟩
theorem lw_p6 : lw_okq (⟨"ClaimTriangle$Triangle", "accumulate", "()V"⟩, 7) := ⟨⟨by decide +kernel, by decide +kernel⟩, List.mem_of_getElem? (i := 71) (by decide +kernel), List.mem_of_getElem? (i := 341) (by decide +kernel), List.mem_of_getElem? (i := 342) (by decide +kernel)⟩
theorem lw_p7 : lw_okq (⟨"ClaimTriangle", "checkEntry", "(I)V"⟩, 4) := ⟨⟨by decide +kernel, by decide +kernel⟩, List.mem_of_getElem? (i := 17) (by decide +kernel), List.mem_of_getElem? (i := 359) (by decide +kernel), List.mem_of_getElem? (i := 360) (by decide +kernel)⟩
theorem lw_p8 : lw_okq (⟨"ClaimTriangle", "checkLiving", "(I)V"⟩, 4) := ⟨⟨by decide +kernel, by decide +kernel⟩, List.mem_of_getElem? (i := 17) (by decide +kernel), List.mem_of_getElem? (i := 363) (by decide +kernel), List.mem_of_getElem? (i := 364) (by decide +kernel)⟩
theorem lw_p9 : lw_okq (⟨"ClaimTriangle$Reckoner", "linkUp", "(II)V"⟩, 7) := ⟨⟨by decide +kernel, by decide +kernel⟩, List.mem_of_getElem? (i := 65) (by decide +kernel), List.mem_of_getElem? (i := 473) (by decide +kernel), List.mem_of_getElem? (i := 474) (by decide +kernel)⟩
theorem lw_p10 : lw_okq (⟨"ClaimTriangle", "partOfAnswer", "(Z)J"⟩, 4) := ⟨⟨by decide +kernel, by decide +kernel⟩, List.mem_of_getElem? (i := 17) (by decide +kernel), List.mem_of_getElem? (i := 490) (by decide +kernel), List.mem_of_getElem? (i := 491) (by decide +kernel)⟩
theorem lw_p11 : lw_okq (⟨"ClaimTriangle", "checkAnswer", "()V"⟩, 4) := ⟨⟨by decide +kernel, by decide +kernel⟩, List.mem_of_getElem? (i := 17) (by decide +kernel), List.mem_of_getElem? (i := 494) (by decide +kernel), List.mem_of_getElem? (i := 495) (by decide +kernel)⟩
theorem lw_p12 : lw_okq (⟨"ClaimTriangle", "isRow", "(I)Z"⟩, 4) := ⟨⟨by decide +kernel, by decide +kernel⟩, List.mem_of_getElem? (i := 17) (by decide +kernel), List.mem_of_getElem? (i := 540) (by decide +kernel), List.mem_of_getElem? (i := 541) (by decide +kernel)⟩
theorem lw_p13 : lw_okq (⟨"ClaimTriangle$Reckoner", "expect", "(I)V"⟩, 7) := ⟨⟨by decide +kernel, by decide +kernel⟩, List.mem_of_getElem? (i := 65) (by decide +kernel), List.mem_of_getElem? (i := 548) (by decide +kernel), List.mem_of_getElem? (i := 549) (by decide +kernel)⟩
theorem lw_p14 : lw_okq (⟨"ClaimTriangle$Reckoner", "chain", "(II)V"⟩, 7) := ⟨⟨by decide +kernel, by decide +kernel⟩, List.mem_of_getElem? (i := 65) (by decide +kernel), List.mem_of_getElem? (i := 572) (by decide +kernel), List.mem_of_getElem? (i := 573) (by decide +kernel)⟩
theorem lw_p15 : lw_okq (⟨"ClaimTriangle$Reckoner", "blend", "(I)V"⟩, 7) := ⟨⟨by decide +kernel, by decide +kernel⟩, List.mem_of_getElem? (i := 65) (by decide +kernel), List.mem_of_getElem? (i := 576) (by decide +kernel), List.mem_of_getElem? (i := 577) (by decide +kernel)⟩
def lw_privs_1 : List (MethodName × Nat) := [(⟨"java/lang/Throwable", "fillInStackTrace", "(I)Ljava/lang/Throwable;"⟩, 6), (⟨"ClaimTriangle", "enter", "(IIIIZ)I"⟩, 4), (⟨"ClaimTriangle$Triangle", "clear", "()V"⟩, 7), (⟨"ClaimTriangle$Triangle", "add", "(III)V"⟩, 7), (⟨"ClaimTriangle$Triangle", "addEstimate", "(LClaimTriangle$Ledger;I)V"⟩, 7), (⟨"ClaimTriangle$Ledger", "replaces", "(II)Z"⟩, 7), (⟨"ClaimTriangle$Triangle", "accumulate", "()V"⟩, 7), (⟨"ClaimTriangle", "checkEntry", "(I)V"⟩, 4), (⟨"ClaimTriangle", "checkLiving", "(I)V"⟩, 4), (⟨"ClaimTriangle$Reckoner", "linkUp", "(II)V"⟩, 7), (⟨"ClaimTriangle", "partOfAnswer", "(Z)J"⟩, 4), (⟨"ClaimTriangle", "checkAnswer", "()V"⟩, 4), (⟨"ClaimTriangle", "isRow", "(I)Z"⟩, 4), (⟨"ClaimTriangle$Reckoner", "expect", "(I)V"⟩, 7), (⟨"ClaimTriangle$Reckoner", "chain", "(II)V"⟩, 7), (⟨"ClaimTriangle$Reckoner", "blend", "(I)V"⟩, 7)]
theorem lw_r1 : ∀ q ∈ lw_privs_1, lw_okq q := List.forall_mem_cons.mpr ⟨lw_p0, List.forall_mem_cons.mpr ⟨lw_p1, List.forall_mem_cons.mpr ⟨lw_p2, List.forall_mem_cons.mpr ⟨lw_p3, List.forall_mem_cons.mpr ⟨lw_p4, List.forall_mem_cons.mpr ⟨lw_p5, List.forall_mem_cons.mpr ⟨lw_p6, List.forall_mem_cons.mpr ⟨lw_p7, List.forall_mem_cons.mpr ⟨lw_p8, List.forall_mem_cons.mpr ⟨lw_p9, List.forall_mem_cons.mpr ⟨lw_p10, List.forall_mem_cons.mpr ⟨lw_p11, List.forall_mem_cons.mpr ⟨lw_p12, List.forall_mem_cons.mpr ⟨lw_p13, List.forall_mem_cons.mpr ⟨lw_p14, List.forall_mem_cons.mpr ⟨lw_p15, fun _ h => absurd h List.not_mem_nil⟩⟩⟩⟩⟩⟩⟩⟩⟩⟩⟩⟩⟩⟩⟩⟩
theorem lw_p16 : lw_okq (⟨"ClaimTriangle$Reckoner", "asWhole", "(J)LClaimTriangle$Fraction;"⟩, 7) := ⟨⟨by decide +kernel, by decide +kernel⟩, List.mem_of_getElem? (i := 65) (by decide +kernel), List.mem_of_getElem? (i := 588) (by decide +kernel), List.mem_of_getElem? (i := 589) (by decide +kernel)⟩
theorem lw_p17 : lw_okq (⟨"ClaimTriangle$Reckoner", "toSquare", "(II)V"⟩, 7) := ⟨⟨by decide +kernel, by decide +kernel⟩, List.mem_of_getElem? (i := 65) (by decide +kernel), List.mem_of_getElem? (i := 662) (by decide +kernel), List.mem_of_getElem? (i := 663) (by decide +kernel)⟩
theorem lw_p18 : lw_okq (⟨"ClaimTriangleModel", "enter", "(IIIIZ)I"⟩, 26) := ⟨⟨by decide +kernel, by decide +kernel⟩, List.mem_of_getElem? (i := 705) (by decide +kernel), List.mem_of_getElem? (i := 799) (by decide +kernel), List.mem_of_getElem? (i := 800) (by decide +kernel)⟩
theorem lw_p19 : lw_okq (⟨"ClaimTriangleModel", "noLine", "(I)Z"⟩, 26) := ⟨⟨by decide +kernel, by decide +kernel⟩, List.mem_of_getElem? (i := 705) (by decide +kernel), List.mem_of_getElem? (i := 803) (by decide +kernel), List.mem_of_getElem? (i := 804) (by decide +kernel)⟩
theorem lw_p20 : lw_okq (⟨"ClaimTriangleModel", "noMonths", "(II)Z"⟩, 26) := ⟨⟨by decide +kernel, by decide +kernel⟩, List.mem_of_getElem? (i := 705) (by decide +kernel), List.mem_of_getElem? (i := 807) (by decide +kernel), List.mem_of_getElem? (i := 808) (by decide +kernel)⟩
theorem lw_p21 : lw_okq (⟨"ClaimTriangleModel", "noEntry", "(I)Z"⟩, 26) := ⟨⟨by decide +kernel, by decide +kernel⟩, List.mem_of_getElem? (i := 705) (by decide +kernel), List.mem_of_getElem? (i := 819) (by decide +kernel), List.mem_of_getElem? (i := 820) (by decide +kernel)⟩
theorem lw_p22 : lw_okq (⟨"ClaimTriangleModel", "divisor", "(JJ)J"⟩, 26) := ⟨⟨by decide +kernel, by decide +kernel⟩, List.mem_of_getElem? (i := 705) (by decide +kernel), List.mem_of_getElem? (i := 835) (by decide +kernel), List.mem_of_getElem? (i := 836) (by decide +kernel)⟩
theorem lw_p23 : lw_okq (⟨"ClaimTriangleModel", "left", "()I"⟩, 26) := ⟨⟨by decide +kernel, by decide +kernel⟩, List.mem_of_getElem? (i := 705) (by decide +kernel), List.mem_of_getElem? (i := 847) (by decide +kernel), List.mem_of_getElem? (i := 848) (by decide +kernel)⟩
theorem lw_p24 : lw_okq (⟨"ClaimTriangleModel", "noCell", "(III)Z"⟩, 26) := ⟨⟨by decide +kernel, by decide +kernel⟩, List.mem_of_getElem? (i := 705) (by decide +kernel), List.mem_of_getElem? (i := 851) (by decide +kernel), List.mem_of_getElem? (i := 852) (by decide +kernel)⟩
theorem lw_p25 : lw_okq (⟨"ClaimTriangleModel", "sumOf", "(II)I"⟩, 26) := ⟨⟨by decide +kernel, by decide +kernel⟩, List.mem_of_getElem? (i := 705) (by decide +kernel), List.mem_of_getElem? (i := 855) (by decide +kernel), List.mem_of_getElem? (i := 856) (by decide +kernel)⟩
theorem lw_p26 : lw_okq (⟨"ClaimTriangleModel", "estimateOf", "(II)I"⟩, 26) := ⟨⟨by decide +kernel, by decide +kernel⟩, List.mem_of_getElem? (i := 705) (by decide +kernel), List.mem_of_getElem? (i := 859) (by decide +kernel), List.mem_of_getElem? (i := 860) (by decide +kernel)⟩
theorem lw_p27 : lw_okq (⟨"ClaimTriangleModel", "look", "()V"⟩, 26) := ⟨⟨by decide +kernel, by decide +kernel⟩, List.mem_of_getElem? (i := 705) (by decide +kernel), List.mem_of_getElem? (i := 879) (by decide +kernel), List.mem_of_getElem? (i := 880) (by decide +kernel)⟩
theorem lw_p28 : lw_okq (⟨"ClaimTriangleModel", "find", "(II)Z"⟩, 26) := ⟨⟨by decide +kernel, by decide +kernel⟩, List.mem_of_getElem? (i := 705) (by decide +kernel), List.mem_of_getElem? (i := 883) (by decide +kernel), List.mem_of_getElem? (i := 884) (by decide +kernel)⟩
theorem lw_p29 : lw_okq (⟨"ClaimTriangleModel", "takes", "(III)Z"⟩, 26) := ⟨⟨by decide +kernel, by decide +kernel⟩, List.mem_of_getElem? (i := 705) (by decide +kernel), List.mem_of_getElem? (i := 887) (by decide +kernel), List.mem_of_getElem? (i := 888) (by decide +kernel)⟩
theorem lw_p30 : lw_okq (⟨"ClaimTriangleModel", "size", "(J)J"⟩, 26) := ⟨⟨by decide +kernel, by decide +kernel⟩, List.mem_of_getElem? (i := 705) (by decide +kernel), List.mem_of_getElem? (i := 891) (by decide +kernel), List.mem_of_getElem? (i := 892) (by decide +kernel)⟩
theorem lw_p31 : lw_okq (⟨"ClaimTriangleModel", "set", "(JJ)V"⟩, 26) := ⟨⟨by decide +kernel, by decide +kernel⟩, List.mem_of_getElem? (i := 705) (by decide +kernel), List.mem_of_getElem? (i := 895) (by decide +kernel), List.mem_of_getElem? (i := 896) (by decide +kernel)⟩
def lw_privs_2 : List (MethodName × Nat) := [(⟨"ClaimTriangle$Reckoner", "asWhole", "(J)LClaimTriangle$Fraction;"⟩, 7), (⟨"ClaimTriangle$Reckoner", "toSquare", "(II)V"⟩, 7), (⟨"ClaimTriangleModel", "enter", "(IIIIZ)I"⟩, 26), (⟨"ClaimTriangleModel", "noLine", "(I)Z"⟩, 26), (⟨"ClaimTriangleModel", "noMonths", "(II)Z"⟩, 26), (⟨"ClaimTriangleModel", "noEntry", "(I)Z"⟩, 26), (⟨"ClaimTriangleModel", "divisor", "(JJ)J"⟩, 26), (⟨"ClaimTriangleModel", "left", "()I"⟩, 26), (⟨"ClaimTriangleModel", "noCell", "(III)Z"⟩, 26), (⟨"ClaimTriangleModel", "sumOf", "(II)I"⟩, 26), (⟨"ClaimTriangleModel", "estimateOf", "(II)I"⟩, 26), (⟨"ClaimTriangleModel", "look", "()V"⟩, 26), (⟨"ClaimTriangleModel", "find", "(II)Z"⟩, 26), (⟨"ClaimTriangleModel", "takes", "(III)Z"⟩, 26), (⟨"ClaimTriangleModel", "size", "(J)J"⟩, 26), (⟨"ClaimTriangleModel", "set", "(JJ)V"⟩, 26)]
theorem lw_r2 : ∀ q ∈ lw_privs_2, lw_okq q := List.forall_mem_cons.mpr ⟨lw_p16, List.forall_mem_cons.mpr ⟨lw_p17, List.forall_mem_cons.mpr ⟨lw_p18, List.forall_mem_cons.mpr ⟨lw_p19, List.forall_mem_cons.mpr ⟨lw_p20, List.forall_mem_cons.mpr ⟨lw_p21, List.forall_mem_cons.mpr ⟨lw_p22, List.forall_mem_cons.mpr ⟨lw_p23, List.forall_mem_cons.mpr ⟨lw_p24, List.forall_mem_cons.mpr ⟨lw_p25, List.forall_mem_cons.mpr ⟨lw_p26, List.forall_mem_cons.mpr ⟨lw_p27, List.forall_mem_cons.mpr ⟨lw_p28, List.forall_mem_cons.mpr ⟨lw_p29, List.forall_mem_cons.mpr ⟨lw_p30, List.forall_mem_cons.mpr ⟨lw_p31, fun _ h => absurd h List.not_mem_nil⟩⟩⟩⟩⟩⟩⟩⟩⟩⟩⟩⟩⟩⟩⟩⟩
theorem lw_p32 : lw_okq (⟨"ClaimTriangleModel", "told", "(IZ)J"⟩, 26) := ⟨⟨by decide +kernel, by decide +kernel⟩, List.mem_of_getElem? (i := 705) (by decide +kernel), List.mem_of_getElem? (i := 899) (by decide +kernel), List.mem_of_getElem? (i := 900) (by decide +kernel)⟩
theorem lw_p33 : lw_okq (⟨"ClaimTriangleModel", "noRow", "(II)Z"⟩, 26) := ⟨⟨by decide +kernel, by decide +kernel⟩, List.mem_of_getElem? (i := 705) (by decide +kernel), List.mem_of_getElem? (i := 907) (by decide +kernel), List.mem_of_getElem? (i := 908) (by decide +kernel)⟩
theorem lw_p34 : lw_okq (⟨"ClaimTriangleModel", "work", "(II)I"⟩, 26) := ⟨⟨by decide +kernel, by decide +kernel⟩, List.mem_of_getElem? (i := 705) (by decide +kernel), List.mem_of_getElem? (i := 911) (by decide +kernel), List.mem_of_getElem? (i := 912) (by decide +kernel)⟩
theorem lw_p35 : lw_okq (⟨"ClaimTriangleModel", "expect", "(I)V"⟩, 26) := ⟨⟨by decide +kernel, by decide +kernel⟩, List.mem_of_getElem? (i := 705) (by decide +kernel), List.mem_of_getElem? (i := 915) (by decide +kernel), List.mem_of_getElem? (i := 916) (by decide +kernel)⟩
theorem lw_p36 : lw_okq (⟨"ClaimTriangleModel", "times", "(JJ)V"⟩, 26) := ⟨⟨by decide +kernel, by decide +kernel⟩, List.mem_of_getElem? (i := 705) (by decide +kernel), List.mem_of_getElem? (i := 919) (by decide +kernel), List.mem_of_getElem? (i := 920) (by decide +kernel)⟩
theorem lw_p37 : lw_okq (⟨"ClaimTriangleModel", "isShort", "(JJ)Z"⟩, 26) := ⟨⟨by decide +kernel, by decide +kernel⟩, List.mem_of_getElem? (i := 705) (by decide +kernel), List.mem_of_getElem? (i := 923) (by decide +kernel), List.mem_of_getElem? (i := 924) (by decide +kernel)⟩
theorem lw_p38 : lw_okq (⟨"ClaimTriangleModel", "answer", "()I"⟩, 26) := ⟨⟨by decide +kernel, by decide +kernel⟩, List.mem_of_getElem? (i := 705) (by decide +kernel), List.mem_of_getElem? (i := 928) (by decide +kernel), List.mem_of_getElem? (i := 929) (by decide +kernel)⟩
theorem lw_p39 : lw_okq (⟨"ClaimTriangleModel", "areDefined", "(III)Z"⟩, 26) := ⟨⟨by decide +kernel, by decide +kernel⟩, List.mem_of_getElem? (i := 705) (by decide +kernel), List.mem_of_getElem? (i := 932) (by decide +kernel), List.mem_of_getElem? (i := 933) (by decide +kernel)⟩
theorem lw_p40 : lw_okq (⟨"ClaimTriangleModel", "way", "(III)V"⟩, 26) := ⟨⟨by decide +kernel, by decide +kernel⟩, List.mem_of_getElem? (i := 705) (by decide +kernel), List.mem_of_getElem? (i := 936) (by decide +kernel), List.mem_of_getElem? (i := 937) (by decide +kernel)⟩
theorem lw_p41 : lw_okq (⟨"ClaimTriangleModel", "latestOf", "(I)I"⟩, 26) := ⟨⟨by decide +kernel, by decide +kernel⟩, List.mem_of_getElem? (i := 705) (by decide +kernel), List.mem_of_getElem? (i := 940) (by decide +kernel), List.mem_of_getElem? (i := 941) (by decide +kernel)⟩
theorem lw_p42 : lw_okq (⟨"ClaimTriangleModel", "turn", "()V"⟩, 26) := ⟨⟨by decide +kernel, by decide +kernel⟩, List.mem_of_getElem? (i := 705) (by decide +kernel), List.mem_of_getElem? (i := 944) (by decide +kernel), List.mem_of_getElem? (i := 945) (by decide +kernel)⟩
theorem lw_p43 : lw_okq (⟨"ClaimTriangleModel", "plus", "(JJ)V"⟩, 26) := ⟨⟨by decide +kernel, by decide +kernel⟩, List.mem_of_getElem? (i := 705) (by decide +kernel), List.mem_of_getElem? (i := 948) (by decide +kernel), List.mem_of_getElem? (i := 949) (by decide +kernel)⟩
theorem lw_p44 : lw_okq (⟨"ClaimTriangleModel", "workReserve", "(II)I"⟩, 26) := ⟨⟨by decide +kernel, by decide +kernel⟩, List.mem_of_getElem? (i := 705) (by decide +kernel), List.mem_of_getElem? (i := 957) (by decide +kernel), List.mem_of_getElem? (i := 958) (by decide +kernel)⟩
def lw_privs_3 : List (MethodName × Nat) := [(⟨"ClaimTriangleModel", "told", "(IZ)J"⟩, 26), (⟨"ClaimTriangleModel", "noRow", "(II)Z"⟩, 26), (⟨"ClaimTriangleModel", "work", "(II)I"⟩, 26), (⟨"ClaimTriangleModel", "expect", "(I)V"⟩, 26), (⟨"ClaimTriangleModel", "times", "(JJ)V"⟩, 26), (⟨"ClaimTriangleModel", "isShort", "(JJ)Z"⟩, 26), (⟨"ClaimTriangleModel", "answer", "()I"⟩, 26), (⟨"ClaimTriangleModel", "areDefined", "(III)Z"⟩, 26), (⟨"ClaimTriangleModel", "way", "(III)V"⟩, 26), (⟨"ClaimTriangleModel", "latestOf", "(I)I"⟩, 26), (⟨"ClaimTriangleModel", "turn", "()V"⟩, 26), (⟨"ClaimTriangleModel", "plus", "(JJ)V"⟩, 26), (⟨"ClaimTriangleModel", "workReserve", "(II)I"⟩, 26)]
theorem lw_r3 : ∀ q ∈ lw_privs_3, lw_okq q := List.forall_mem_cons.mpr ⟨lw_p32, List.forall_mem_cons.mpr ⟨lw_p33, List.forall_mem_cons.mpr ⟨lw_p34, List.forall_mem_cons.mpr ⟨lw_p35, List.forall_mem_cons.mpr ⟨lw_p36, List.forall_mem_cons.mpr ⟨lw_p37, List.forall_mem_cons.mpr ⟨lw_p38, List.forall_mem_cons.mpr ⟨lw_p39, List.forall_mem_cons.mpr ⟨lw_p40, List.forall_mem_cons.mpr ⟨lw_p41, List.forall_mem_cons.mpr ⟨lw_p42, List.forall_mem_cons.mpr ⟨lw_p43, List.forall_mem_cons.mpr ⟨lw_p44, fun _ h => absurd h List.not_mem_nil⟩⟩⟩⟩⟩⟩⟩⟩⟩⟩⟩⟩⟩
def lw_privs : List (MethodName × Nat) := lw_privs_1 ++ (lw_privs_2 ++ (lw_privs_3))
def lw_tbl : List Cond := k2_sels lw_privs ++ tables_1
theorem lw_privs_ok : ∀ q ∈ lw_privs, lw_okq q := by
  show ∀ q ∈ lw_privs_1 ++ (lw_privs_2 ++ (lw_privs_3)), lw_okq q
  exact List.forall_mem_append.mpr ⟨lw_r1, List.forall_mem_append.mpr ⟨lw_r2, lw_r3⟩⟩
end
section
/-! my rows: pure combinators, the picture of the state, the world, starts, ends, calls. Stands behind the names (R_, T_, kl, Wds, NW, wd_). UNTRIED DRAFT. -/
def ct_nm {α β : Type} (a : α) (f : α → β) : β := f a
def ct_gd {α : Type} (b : Bool) (e : Option α) : Option α := if b = true then e else none
def ct_ob {α β : Type} (o : Option α) (f : α → Option β) : Option β := o.bind f
def ct_ob2 {α β γ : Type} (o : Option (α × β)) (f : α → β → Option γ) : Option γ := o.bind fun q => f q.1 q.2
def ct_xc {X α β : Type} (f : α → Option (X ⊕ β)) (r : X ⊕ α) : Option (X ⊕ β) := match r with
  | .inl x => some (.inl x)
  | .inr a => f a
def ct_xb {X α β : Type} (o : Option (X ⊕ α)) (f : α → Option (X ⊕ β)) : Option (X ⊕ β) := o.bind (ct_xc f)
def ct_xb2 {X α γ β : Type} (o : Option (X ⊕ (α × γ))) (f : α → γ → Option (X ⊕ β)) : Option (X ⊕ β) := o.bind (ct_xc fun q => f q.1 q.2)
def ct_inR (i : Int32) (n : Nat) : Bool := decide (0 ≤ i.toInt ∧ i.toInt < n)
def ct_gzI (y : Int32) : Bool := decide (¬ y = 0)
def ct_gzL (y : Int64) : Bool := decide (¬ y = 0)
def ct_isB (x : Int32) : Bool := decide (x = 0 ∨ x = 1)
def ct_mxI (x y : Int32) : Int32 := if x < y then y else x
def ct_mxL (x y : Int64) : Int64 := if y < x then x else y
def ct_abL (x : Int64) : Int64 := if 0 < x then x else -x
theorem ct_nm_ex {α β : Type} {a : α} {f : α → β} {r : β} (h : ct_nm a f = r) : ∃ x, x = a ∧ f x = r := ⟨a, rfl, h⟩
theorem ct_nm_at {α β : Type} {a x : α} {f : α → β} {r : β} (h : ct_nm a f = r) (e : x = a) : f x = r := by rw [e]; exact h
theorem ct_gd_some {α : Type} {b : Bool} {e : Option α} {r : α} (h : ct_gd b e = some r) : b = true ∧ e = some r := by
  unfold ct_gd at h
  split at h
  · exact ⟨by assumption, h⟩
  · cases h
theorem ct_ob_some {α β : Type} {o : Option α} {f : α → Option β} {r : β} (h : ct_ob o f = some r) : ∃ a, o = some a ∧ f a = some r := Option.bind_eq_some_iff.mp h
theorem ct_ob2_some {α β γ : Type} {o : Option (α × β)} {f : α → β → Option γ} {r : γ} (h : ct_ob2 o f = some r) : ∃ a b, o = some (a, b) ∧ f a b = some r := by
  obtain ⟨⟨a, b⟩, h1, h2⟩ := Option.bind_eq_some_iff.mp h
  exact ⟨a, b, h1, h2⟩
theorem ct_xb_some {X α β : Type} {o : Option (X ⊕ α)} {f : α → Option (X ⊕ β)} {r : X ⊕ β} (h : ct_xb o f = some r) : ∃ q, o = some q ∧ ct_xc f q = some r := Option.bind_eq_some_iff.mp h
theorem ct_xb2_some {X α γ β : Type} {o : Option (X ⊕ (α × γ))} {f : α → γ → Option (X ⊕ β)} {r : X ⊕ β} (h : ct_xb2 o f = some r) : ∃ q, o = some q ∧ ct_xc (fun z => f z.1 z.2) q = some r := Option.bind_eq_some_iff.mp h
theorem ct_inR_vp {i : Int32} {n : Nat} (h : ct_inR i n = true) : vp_in i n := vp_in_iff.mpr (of_decide_eq_true h)
theorem ct_inR_lt {i : Int32} {n : Nat} (h : ct_inR i n = true) : i.toNatClampNeg < n := Nat.not_le.mp fun q => ct_inR_vp h (Or.inr q)
theorem ct_gzI_ne {y : Int32} (h : ct_gzI y = true) : ¬ y = 0 := of_decide_eq_true h
theorem ct_gzL_ne {y : Int64} (h : ct_gzL y = true) : ¬ y = 0 := of_decide_eq_true h
theorem ct_isB_nar {x : Int32} (h : ct_isB x = true) : narrow .boolean (.int x) = .int x := by
  rcases of_decide_eq_true h with rfl | rfl <;> rfl
theorem ct_isB_fit {x : Int32} (h : ct_isB x = true) : fits .boolean (.int x) = true := by
  rcases of_decide_eq_true h with rfl | rfl <;> rfl

theorem ct_nm_eq {α β : Type} (a : α) (f : α → β) : ct_nm a f = f a := rfl
theorem ct_gd_t {α : Type} (e : Option α) : ct_gd true e = e := rfl
theorem ct_ob_s {α β : Type} (a : α) (f : α → Option β) : ct_ob (some a) f = f a := rfl
theorem ct_ob2_s {α β γ : Type} (a : α) (b : β) (f : α → β → Option γ) : ct_ob2 (some (a, b)) f = f a b := rfl
theorem ct_xb_r {X α β : Type} (a : α) (f : α → Option (X ⊕ β)) : ct_xb (some (.inr a)) f = f a := rfl
theorem ct_xb_l {X α β : Type} (x : X) (f : α → Option (X ⊕ β)) : ct_xb (some (.inl x)) f = some (.inl x) := rfl
theorem ct_xb2_r {X α γ β : Type} (a : α) (c : γ) (f : α → γ → Option (X ⊕ β)) : ct_xb2 (some (.inr (a, c))) f = f a c := rfl
theorem ct_xb2_l {X α γ β : Type} (x : X) (f : α → γ → Option (X ⊕ β)) : ct_xb2 (some (.inl x)) f = some (.inl x) := rfl

/-! the class's state: numbers, the ledger's arrays and 'out', the triangle's rows, the premiums' rows, the fractions -/
abbrev CS : Type := (Nat → Int32) × (Nat → Nat → Int32) × (Nat → Nat → Int32) × (Nat → Nat → Int32) × (Nat → Int64 × Int64 × Int32)
def cs_I (s : CS) (k : Nat) : Int32 := s.1 k
def cs_A (s : CS) (k : Nat) : Nat → Int32 := s.2.1 k
def cs_R (s : CS) (k : Nat) : Nat → Int32 := s.2.2.1 k
def cs_P (s : CS) (k : Nat) : Nat → Int32 := s.2.2.2.1 k
def cs_F (s : CS) (k : Nat) : Int64 × Int64 × Int32 := s.2.2.2.2 k
def cs_I' (s : CS) (k : Nat) (v : Int32) : CS := (va_up s.1 k v, s.2)
def cs_A' (s : CS) (k i : Nat) (v : Int32) : CS := (s.1, va_up s.2.1 k (upd (s.2.1 k) i v), s.2.2)
def cs_R' (s : CS) (k i : Nat) (v : Int32) : CS := (s.1, s.2.1, va_up s.2.2.1 k (upd (s.2.2.1 k) i v), s.2.2.2)
def cs_P' (s : CS) (k i : Nat) (v : Int32) : CS := (s.1, s.2.1, s.2.2.1, va_up s.2.2.2.1 k (upd (s.2.2.2.1 k) i v), s.2.2.2.2)
def cs_F' (s : CS) (k : Nat) (t : Int64 × Int64 × Int32) : CS := (s.1, s.2.1, s.2.2.1, s.2.2.2.1, va_up s.2.2.2.2 k t)
def cs_F0' (s : CS) (k : Nat) (v : Int64) : CS := cs_F' s k (v, (cs_F s k).2)
def cs_F1' (s : CS) (k : Nat) (v : Int64) : CS := cs_F' s k ((cs_F s k).1, v, (cs_F s k).2.2)
def cs_F2' (s : CS) (k : Nat) (v : Int32) : CS := cs_F' s k ((cs_F s k).1, (cs_F s k).2.1, v)
/-! the reference's state: numbers, longs, arrays, long arrays -/
abbrev MS : Type := (Nat → Int32) × (Nat → Int64) × (Nat → Nat → Int32) × (Nat → Nat → Int64)
def ms_I (s : MS) (k : Nat) : Int32 := s.1 k
def ms_L (s : MS) (k : Nat) : Int64 := s.2.1 k
def ms_A (s : MS) (k : Nat) : Nat → Int32 := s.2.2.1 k
def ms_B (s : MS) (k : Nat) : Nat → Int64 := s.2.2.2 k
def ms_I' (s : MS) (k : Nat) (v : Int32) : MS := (va_up s.1 k v, s.2)
def ms_L' (s : MS) (k : Nat) (v : Int64) : MS := (s.1, va_up s.2.1 k v, s.2.2)
def ms_A' (s : MS) (k i : Nat) (v : Int32) : MS := (s.1, s.2.1, va_up s.2.2.1 k (upd (s.2.2.1 k) i v), s.2.2.2)
def ms_B' (s : MS) (k i : Nat) (v : Int64) : MS := (s.1, s.2.1, s.2.2.1, va_up s.2.2.2 k (vp_updL (s.2.2.2 k) i v))
end
section
def fn_CT_within (a1 : Int32) (a2 : Int32) (a3 : Int32) : Option Int32 :=
  if a1 < a2 then
    some 0
  else
    if a3 < a1 then
      some 0
    else
      some 1
def fn_CT_check (s : CS) (a1 : Int32) : Option ((Nat × CS) ⊕ CS) :=
  if ¬ a1 = 0 then
    some (.inr s)
  else
    some (.inl (1, s))
def fn_CT_isLine (a1 : Int32) : Option Int32 :=
  ct_ob (fn_CT_within a1 0 1) fun x1 =>
  ct_gd (ct_isB x1) <|
  some x1
def bk_CT_checkMonths_25 (a1 : Int32) (a2 : Int32) (s : CS) (t0 : Int32) : Option ((Nat × CS) ⊕ CS) :=
  ct_xb (fn_CT_check s t0) fun s3 =>
  some (.inr s3)
def fn_CT_checkMonths (s : CS) (a1 : Int32) (a2 : Int32) : Option ((Nat × CS) ⊕ CS) :=
  ct_ob (fn_CT_within a1 0 71) fun x1 =>
  if x1 = 0 then
    bk_CT_checkMonths_25 a1 a2 s 0
  else
    ct_ob (fn_CT_within a2 a1 71) fun x2 =>
    if x2 = 0 then
      bk_CT_checkMonths_25 a1 a2 s 0
    else
      bk_CT_checkMonths_25 a1 a2 s 1
def fn_Le_append (s : CS) (a1 : Int32) (a2 : Int32) (a3 : Int32) (a4 : Int32) (a5 : Int32) : Option (Int32 × CS) :=
  ct_nm (cs_I s 0) fun x1 =>
  ct_gd (ct_inR x1 60) <|
  ct_nm (cs_A' s 0 x1.toNatClampNeg a1) fun s2 =>
  ct_gd (ct_inR x1 60) <|
  ct_nm (cs_A' s2 1 x1.toNatClampNeg a2) fun s3 =>
  ct_gd (ct_inR x1 60) <|
  ct_nm (cs_A' s3 2 x1.toNatClampNeg a3) fun s4 =>
  ct_gd (ct_inR x1 60) <|
  ct_nm (cs_A' s4 3 x1.toNatClampNeg a4) fun s5 =>
  ct_gd (ct_inR x1 60) <|
  ct_nm (cs_A' s5 4 x1.toNatClampNeg (vp_nar .boolean a5)) fun s6 =>
  ct_gd (ct_inR x1 60) <|
  ct_nm (cs_A' s6 5 x1.toNatClampNeg (vp_nar .boolean 1)) fun s7 =>
  ct_nm (cs_I' s7 0 ((cs_I s7 0) + 1)) fun s8 =>
  some (x1, s8)
def bk_Tr_clear_10_o (k2 : CS → Int32 → Option CS) (k10 : CS → Int32 → Int32 → Option CS) (s : CS) (v1 : Int32) (v2 : Int32) : Option CS :=
  if 6 ≤ v2 then
    k2 s (v1 + 1)
  else
    ct_gd (ct_inR v1 6) <|
    ct_gd (ct_inR v2 6) <|
    ct_nm (cs_R' s v1.toNatClampNeg v2.toNatClampNeg 0) fun s1 =>
    k10 s1 v1 (v2 + 1)
def bk_Tr_clear_10 (k2 : CS → Int32 → Option CS) : Nat → CS → Int32 → Int32 → Option CS
  | 0 => fun _ _ _ => none
  | n + 1 => bk_Tr_clear_10_o k2 (bk_Tr_clear_10 k2 n)
def bk_Tr_clear_2_o (k2 : CS → Int32 → Option CS) (s : CS) (v1 : Int32) : Option CS :=
  if 6 ≤ v1 then
    some s
  else
    bk_Tr_clear_10 k2 200 s v1 0
def bk_Tr_clear_2 : Nat → CS → Int32 → Option CS
  | 0 => fun _ _ => none
  | n + 1 => bk_Tr_clear_2_o (bk_Tr_clear_2 n)
def fn_Tr_clear (s : CS) : Option CS :=
  bk_Tr_clear_2 200 s 0
def fn_Le_livesIn (s : CS) (a1 : Int32) (a2 : Int32) : Option Int32 :=
  ct_gd (ct_inR a1 60) <|
  if (cs_A s 5 a1.toNatClampNeg) = 0 then
    some 0
  else
    ct_gd (ct_inR a1 60) <|
    if ¬ (cs_A s 0 a1.toNatClampNeg) = a2 then
      some 0
    else
      some 1
def fn_Tr_add (s : CS) (a1 : Int32) (a2 : Int32) (a3 : Int32) : Option CS :=
  ct_gd (ct_gzI (cs_I s 2)) <|
  ct_nm (a1 / (cs_I s 2)) fun x1 =>
  ct_gd (ct_gzI (cs_I s 2)) <|
  ct_nm (a2 / (cs_I s 2)) fun x2 =>
  if (cs_I s 4) ≤ x2 then
    some s
  else
    ct_gd (ct_inR x1 6) <|
    ct_gd (ct_inR (x2 - x1) 6) <|
    ct_gd (ct_inR (x2 - x1) 6) <|
    ct_nm (cs_R' s x1.toNatClampNeg (x2 - x1).toNatClampNeg ((cs_R s x1.toNatClampNeg (x2 - x1).toNatClampNeg) + a3)) fun s3 =>
    some s3
def fn_Le_replaces (s : CS) (a1 : Int32) (a2 : Int32) : Option Int32 :=
  ct_gd (ct_inR a1 60) <|
  if (cs_A s 4 a1.toNatClampNeg) = 0 then
    some 0
  else
    ct_gd (ct_inR a2 60) <|
    ct_ob (fn_Le_livesIn s a1 (cs_A s 0 a2.toNatClampNeg)) fun x1 =>
    if ¬ x1 = 0 then
      ct_gd (ct_inR a1 60) <|
      ct_gd (ct_inR a2 60) <|
      if (cs_A s 1 a1.toNatClampNeg) = (cs_A s 1 a2.toNatClampNeg) then
        ct_gd (ct_inR a1 60) <|
        ct_gd (ct_inR a2 60) <|
        if (cs_A s 2 a2.toNatClampNeg) < (cs_A s 2 a1.toNatClampNeg) then
          some 1
        else
          ct_gd (ct_inR a1 60) <|
          ct_gd (ct_inR a2 60) <|
          if ¬ (cs_A s 2 a1.toNatClampNeg) = (cs_A s 2 a2.toNatClampNeg) then
            some 0
          else
            if a1 ≤ a2 then
              some 0
            else
              some 1
      else
        some 0
    else
      some 0
def bk_Le_replacedIn_39 (a1 : Int32) (k5 : CS → Int32 → Int32 → Option Int32) (s : CS) (v2 : Int32) (v3 : Int32) : Option Int32 :=
  k5 s v2 (v3 + 1)
def bk_Le_replacedIn_5_o (a1 : Int32) (k5 : CS → Int32 → Int32 → Option Int32) (s : CS) (v2 : Int32) (v3 : Int32) : Option Int32 :=
  if (cs_I s 0) ≤ v3 then
    some v2
  else
    ct_ob (fn_Le_replaces s v3 a1) fun x1 =>
    if x1 = 0 then
      bk_Le_replacedIn_39 a1 k5 s v2 v3
    else
      ct_gd (ct_inR v3 60) <|
      if v2 ≤ (cs_A s 2 v3.toNatClampNeg) then
        bk_Le_replacedIn_39 a1 k5 s v2 v3
      else
        ct_gd (ct_inR v3 60) <|
        ct_nm (cs_A s 2 v3.toNatClampNeg) fun x2 =>
        bk_Le_replacedIn_39 a1 k5 s x2 v3
def bk_Le_replacedIn_5 (a1 : Int32) : Nat → CS → Int32 → Int32 → Option Int32
  | 0 => fun _ _ _ => none
  | n + 1 => bk_Le_replacedIn_5_o a1 (bk_Le_replacedIn_5 a1 n)
def fn_Le_replacedIn (s : CS) (a1 : Int32) : Option Int32 :=
  bk_Le_replacedIn_5 a1 200 s 72 0
def fn_Tr_addEstimate (s : CS) (a2 : Int32) : Option CS :=
  ct_gd (ct_inR a2 60) <|
  ct_nm (cs_A s 1 a2.toNatClampNeg) fun x1 =>
  ct_gd (ct_inR a2 60) <|
  ct_nm (cs_A s 3 a2.toNatClampNeg) fun x2 =>
  ct_gd (ct_inR a2 60) <|
  ct_ob (fn_Tr_add s x1 (cs_A s 2 a2.toNatClampNeg) x2) fun s3 =>
  ct_ob (fn_Le_replacedIn s3 a2) fun x4 =>
  ct_ob (fn_Tr_add s3 x1 x4 (-x2)) fun s5 =>
  some s5
def bk_Tr_accumulate_12_o (k2 : CS → Int32 → Option CS) (k12 : CS → Int32 → Int32 → Option CS) (s : CS) (v1 : Int32) (v2 : Int32) : Option CS :=
  if ((cs_I s 4) - v1) ≤ v2 then
    k2 s (v1 + 1)
  else
    ct_gd (ct_inR v1 6) <|
    ct_gd (ct_inR v2 6) <|
    ct_gd (ct_inR v1 6) <|
    ct_gd (ct_inR (v2 - 1) 6) <|
    ct_gd (ct_inR v2 6) <|
    ct_nm (cs_R' s v1.toNatClampNeg v2.toNatClampNeg ((cs_R s v1.toNatClampNeg v2.toNatClampNeg) + (cs_R s v1.toNatClampNeg (v2 - 1).toNatClampNeg))) fun s1 =>
    k12 s1 v1 (v2 + 1)
def bk_Tr_accumulate_12 (k2 : CS → Int32 → Option CS) : Nat → CS → Int32 → Int32 → Option CS
  | 0 => fun _ _ _ => none
  | n + 1 => bk_Tr_accumulate_12_o k2 (bk_Tr_accumulate_12 k2 n)
def bk_Tr_accumulate_2_o (k2 : CS → Int32 → Option CS) (s : CS) (v1 : Int32) : Option CS :=
  if (cs_I s 4) ≤ v1 then
    some s
  else
    bk_Tr_accumulate_12 k2 200 s v1 1
def bk_Tr_accumulate_2 : Nat → CS → Int32 → Option CS
  | 0 => fun _ _ => none
  | n + 1 => bk_Tr_accumulate_2_o (bk_Tr_accumulate_2 n)
def fn_Tr_accumulate (s : CS) : Option CS :=
  bk_Tr_accumulate_2 200 s 0
def bk_Tr_fill_76 (k6 : CS → Int32 → Option CS) (s : CS) (v2 : Int32) : Option CS :=
  k6 s (v2 + 1)
def bk_Tr_fill_6_o (k6 : CS → Int32 → Option CS) (s : CS) (v2 : Int32) : Option CS :=
  if (cs_I s 0) ≤ v2 then
    ct_ob (fn_Tr_accumulate s) fun s2 =>
    some s2
  else
    ct_ob (fn_Le_livesIn s v2 (cs_I s 1)) fun x3 =>
    if ¬ x3 = 0 then
      ct_gd (ct_inR v2 60) <|
      if ¬ (cs_A s 4 v2.toNatClampNeg) = 0 then
        if (cs_I s 3) = 0 then
          bk_Tr_fill_76 k6 s v2
        else
          ct_ob (fn_Tr_addEstimate s v2) fun s4 =>
          bk_Tr_fill_76 k6 s4 v2
      else
        ct_gd (ct_inR v2 60) <|
        ct_gd (ct_inR v2 60) <|
        ct_gd (ct_inR v2 60) <|
        ct_ob (fn_Tr_add s (cs_A s 1 v2.toNatClampNeg) (cs_A s 2 v2.toNatClampNeg) (cs_A s 3 v2.toNatClampNeg)) fun s5 =>
        bk_Tr_fill_76 k6 s5 v2
    else
      bk_Tr_fill_76 k6 s v2
def bk_Tr_fill_6 : Nat → CS → Int32 → Option CS
  | 0 => fun _ _ => none
  | n + 1 => bk_Tr_fill_6_o (bk_Tr_fill_6 n)
def fn_Tr_fill (s : CS) : Option CS :=
  ct_ob (fn_Tr_clear s) fun s1 =>
  bk_Tr_fill_6 200 s1 0
def fn_CT_enter (s : CS) (a1 : Int32) (a2 : Int32) (a3 : Int32) (a4 : Int32) (a5 : Int32) : Option ((Nat × CS) ⊕ (Int32 × CS)) :=
  ct_ob (fn_CT_isLine a1) fun x1 =>
  ct_xb (fn_CT_check s x1) fun s2 =>
  ct_xb (fn_CT_checkMonths s2 a2 a3) fun s3 =>
  if (cs_I s3 0) < 60 then
    ct_ob2 (fn_Le_append s3 a1 a2 a3 a4 a5) fun x4 s5 =>
    ct_ob (fn_Tr_fill s5) fun s6 =>
    some (.inr (x4, s6))
  else
    some (.inl (2, s3))
def fn_CT_pay (s : CS) (a1 : Int32) (a2 : Int32) (a3 : Int32) (a4 : Int32) : Option ((Nat × CS) ⊕ (Int32 × CS)) :=
  ct_ob (fn_CT_within a4 (-9999) 9999) fun x1 =>
  ct_xb (fn_CT_check s x1) fun s2 =>
  ct_xb2 (fn_CT_enter s2 a1 a2 a3 a4 0) fun x3 s4 =>
  some (.inr (x3, s4))
def fn_CT_estimate (s : CS) (a1 : Int32) (a2 : Int32) (a3 : Int32) (a4 : Int32) : Option ((Nat × CS) ⊕ (Int32 × CS)) :=
  ct_ob (fn_CT_within a4 0 9999) fun x1 =>
  ct_xb (fn_CT_check s x1) fun s2 =>
  ct_xb2 (fn_CT_enter s2 a1 a2 a3 a4 1) fun x3 s4 =>
  some (.inr (x3, s4))
def fn_CT_checkEntry (s : CS) (a1 : Int32) : Option ((Nat × CS) ⊕ CS) :=
  ct_ob (fn_CT_within a1 0 ((cs_I s 0) - 1)) fun x1 =>
  ct_xb (fn_CT_check s x1) fun s2 =>
  some (.inr s2)
def fn_CT_checkLiving (s : CS) (a1 : Int32) : Option ((Nat × CS) ⊕ CS) :=
  ct_gd (ct_inR a1 60) <|
  if ¬ (cs_A s 5 a1.toNatClampNeg) = 0 then
    some (.inr s)
  else
    some (.inl (2, s))
def fn_CT_strike (s : CS) (a1 : Int32) : Option ((Nat × CS) ⊕ (Int32 × CS)) :=
  ct_xb (fn_CT_checkEntry s a1) fun s1 =>
  ct_xb (fn_CT_checkLiving s1 a1) fun s2 =>
  ct_gd (ct_inR a1 60) <|
  ct_nm (cs_A' s2 5 a1.toNatClampNeg (vp_nar .boolean 0)) fun s3 =>
  ct_ob (fn_Tr_fill s3) fun s4 =>
  ct_gd (ct_inR a1 60) <|
  some (.inr (cs_A s4 3 a1.toNatClampNeg, s4))
def fn_CT_move (s : CS) (a1 : Int32) (a2 : Int32) (a3 : Int32) : Option ((Nat × CS) ⊕ CS) :=
  ct_xb (fn_CT_checkEntry s a1) fun s1 =>
  ct_xb (fn_CT_checkMonths s1 a2 a3) fun s2 =>
  ct_xb (fn_CT_checkLiving s2 a1) fun s3 =>
  ct_gd (ct_inR a1 60) <|
  ct_nm (cs_A' s3 1 a1.toNatClampNeg a2) fun s4 =>
  ct_gd (ct_inR a1 60) <|
  ct_nm (cs_A' s4 2 a1.toNatClampNeg a3) fun s5 =>
  ct_ob (fn_Tr_fill s5) fun s6 =>
  some (.inr s6)
def bk_CT_premium_33 (a1 : Int32) (a2 : Int32) (a3 : Int32) (s : CS) (t0 : Int32) : Option ((Nat × CS) ⊕ CS) :=
  ct_xb (fn_CT_check s t0) fun s4 =>
  ct_gd (ct_inR a1 2) <|
  ct_gd (ct_inR a2 72) <|
  ct_nm (cs_P' s4 a1.toNatClampNeg a2.toNatClampNeg a3) fun s5 =>
  some (.inr s5)
def fn_CT_premium (s : CS) (a1 : Int32) (a2 : Int32) (a3 : Int32) : Option ((Nat × CS) ⊕ CS) :=
  ct_ob (fn_CT_isLine a1) fun x1 =>
  if x1 = 0 then
    bk_CT_premium_33 a1 a2 a3 s 0
  else
    ct_ob (fn_CT_within a2 0 71) fun x2 =>
    if x2 = 0 then
      bk_CT_premium_33 a1 a2 a3 s 0
    else
      ct_ob (fn_CT_within a3 0 9999) fun x3 =>
      if x3 = 0 then
        bk_CT_premium_33 a1 a2 a3 s 0
      else
        bk_CT_premium_33 a1 a2 a3 s 1
def bk_Fr_divisor_51 (a1 : Int64) (a2 : Int64) (v4 : Int64) : Option Int64 :=
  some (ct_mxL v4 1)
def bk_Fr_divisor_15_o (a1 : Int64) (a2 : Int64) (k15 : Int64 → Int64 → Int32 → Option Int64) (v4 : Int64) (v6 : Int64) (v8 : Int32) : Option Int64 :=
  if 128 ≤ v8 then
    bk_Fr_divisor_51 a1 a2 v4
  else
    if (lg_cmp v6 0) = 0 then
      bk_Fr_divisor_51 a1 a2 v4
    else
      ct_gd (ct_gzL v6) <|
      ct_nm (v4 - v4 / v6 * v6) fun x3 =>
      k15 v6 x3 (v8 + 1)
def bk_Fr_divisor_15 (a1 : Int64) (a2 : Int64) : Nat → Int64 → Int64 → Int32 → Option Int64
  | 0 => fun _ _ _ => none
  | n + 1 => bk_Fr_divisor_15_o a1 a2 (bk_Fr_divisor_15 a1 a2 n)
def fn_Fr_divisor (a1 : Int64) (a2 : Int64) : Option Int64 :=
  ct_nm (ct_abL a1) fun x1 =>
  ct_nm (ct_abL a2) fun x2 =>
  bk_Fr_divisor_15 a1 a2 200 x1 x2 0
def bk_Fr_become_33 (f : Nat) (a1 : Int64) (a2 : Int64) (s : CS) (t0 : Int64) : Option CS :=
  ct_gd (ct_gzL t0) <|
  ct_nm (cs_F0' s f (a1 / t0)) fun s3 =>
  ct_gd (ct_gzL t0) <|
  ct_nm (cs_F1' s3 f (a2 / t0)) fun s4 =>
  ct_nm (cs_F2' s4 f 0) fun s5 =>
  some s5
def fn_Fr_become (s : CS) (f : Nat) (a1 : Int64) (a2 : Int64) : Option CS :=
  if ¬ (lg_cmp a2 0) = 0 then
    ct_ob (fn_Fr_divisor a1 a2) fun x1 =>
    if 0 ≤ (lg_cmp a2 0) then
      bk_Fr_become_33 f a1 a2 s x1
    else
      bk_Fr_become_33 f a1 a2 s (-x1)
  else
    ct_nm (cs_F2' s f 2) fun s2 =>
    some s2
def fn_Te_ratioOf (s : CS) (a1 : Int32) : Option Nat :=
  if ¬ a1 = 0 then
    some 1
  else
    some 0
theorem lt_Te_ratioOf {s : CS} {a1 : Int32} {x : Nat} (h : fn_Te_ratioOf s a1 = some x) : x < 12 := by
  unfold fn_Te_ratioOf at h
  split at h <;> (obtain rfl := Option.some.inj h; decide)
def bk_CT_ratio_47 (a1 : Int32) (a2 : Int32) (a3 : Int32) (s : CS) (t0 : Int32) : Option ((Nat × CS) ⊕ CS) :=
  ct_xb (fn_CT_check s t0) fun s5 =>
  if ¬ a1 = (-1) then
    ct_ob (fn_Te_ratioOf s5 a1) fun x6 =>
    ct_ob (fn_Fr_become s5 x6 a2.toInt64 a3.toInt64) fun s7 =>
    some (.inr s7)
  else
    ct_ob (fn_Fr_become s5 2 a2.toInt64 a3.toInt64) fun s8 =>
    some (.inr s8)
def bk_CT_ratio_17 (a1 : Int32) (a2 : Int32) (a3 : Int32) (s : CS) (t0 : Int32) : Option ((Nat × CS) ⊕ CS) :=
  ct_xb (fn_CT_check s t0) fun s2 =>
  ct_ob (fn_CT_within a2 0 9999) fun x3 =>
  if x3 = 0 then
    bk_CT_ratio_47 a1 a2 a3 s2 0
  else
    ct_ob (fn_CT_within a3 1 9999) fun x4 =>
    if x4 = 0 then
      bk_CT_ratio_47 a1 a2 a3 s2 0
    else
      bk_CT_ratio_47 a1 a2 a3 s2 1
def fn_CT_ratio (s : CS) (a1 : Int32) (a2 : Int32) (a3 : Int32) : Option ((Nat × CS) ⊕ CS) :=
  if a1 = (-1) then
    bk_CT_ratio_17 a1 a2 a3 s 1
  else
    ct_ob (fn_CT_isLine a1) fun x1 =>
    if x1 = 0 then
      bk_CT_ratio_17 a1 a2 a3 s 0
    else
      bk_CT_ratio_17 a1 a2 a3 s 1
def bk_Tr_reshape_29_o (a1 : Int32) (a2 : Int32) (a3 : Int32) (a4 : Int32) (k29 : CS → Int32 → Option CS) (s : CS) (v5 : Int32) : Option CS :=
  if 36 ≤ v5 then
    some s
  else
    ct_gd (ct_inR v5 36) <|
    ct_nm (cs_A' s 6 v5.toNatClampNeg (vp_nar .boolean 0)) fun s6 =>
    k29 s6 (v5 + 1)
def bk_Tr_reshape_29 (a1 : Int32) (a2 : Int32) (a3 : Int32) (a4 : Int32) : Nat → CS → Int32 → Option CS
  | 0 => fun _ _ => none
  | n + 1 => bk_Tr_reshape_29_o a1 a2 a3 a4 (bk_Tr_reshape_29 a1 a2 a3 a4 n)
def fn_Tr_reshape (s : CS) (a1 : Int32) (a2 : Int32) (a3 : Int32) (a4 : Int32) : Option CS :=
  ct_nm (cs_I' s 1 a1) fun s1 =>
  ct_nm (cs_I' s1 2 a2) fun s2 =>
  ct_gd (ct_isB a3) <|
  ct_nm (cs_I' s2 3 a3) fun s3 =>
  ct_nm (cs_I' s3 4 a4) fun s4 =>
  ct_nm (cs_I' s4 5 0) fun s5 =>
  bk_Tr_reshape_29 a1 a2 a3 a4 200 s5 0
def bk_CT_build_33 (a1 : Int32) (a2 : Int32) (a3 : Int32) (a4 : Int32) (s : CS) (t0 : Int32) : Option ((Nat × CS) ⊕ CS) :=
  ct_xb (fn_CT_check s t0) fun s4 =>
  ct_ob (fn_Tr_reshape s4 a1 a2 a3 a4) fun s5 =>
  ct_ob (fn_Tr_fill s5) fun s6 =>
  some (.inr s6)
def fn_CT_build (s : CS) (a1 : Int32) (a2 : Int32) (a3 : Int32) (a4 : Int32) : Option ((Nat × CS) ⊕ CS) :=
  ct_ob (fn_CT_isLine a1) fun x1 =>
  if x1 = 0 then
    bk_CT_build_33 a1 a2 a3 a4 s 0
  else
    ct_ob (fn_CT_within a2 1 12) fun x2 =>
    if x2 = 0 then
      bk_CT_build_33 a1 a2 a3 a4 s 0
    else
      ct_ob (fn_CT_within a4 1 6) fun x3 =>
      if x3 = 0 then
        bk_CT_build_33 a1 a2 a3 a4 s 0
      else
        bk_CT_build_33 a1 a2 a3 a4 s 1
def fn_Tr_shown (s : CS) : Option Int32 :=
  some ((cs_I s 4) - (cs_I s 5))
def fn_CT_isCell (a1 : Int32) (a2 : Int32) (a3 : Int32) : Option Int32 :=
  ct_ob (fn_CT_within a1 0 (a3 - 1)) fun x1 =>
  if x1 = 0 then
    some 0
  else
    ct_ob (fn_CT_within a2 0 ((a3 - 1) - a1)) fun x2 =>
    if x2 = 0 then
      some 0
    else
      some 1
def fn_CT_cell (s : CS) (a1 : Int32) (a2 : Int32) : Option ((Nat × CS) ⊕ (Int32 × CS)) :=
  ct_ob (fn_Tr_shown s) fun x1 =>
  ct_ob (fn_CT_isCell a1 a2 x1) fun x2 =>
  ct_xb (fn_CT_check s x2) fun s3 =>
  ct_gd (ct_inR a1 6) <|
  ct_gd (ct_inR a2 6) <|
  some (.inr (cs_R s3 a1.toNatClampNeg a2.toNatClampNeg, s3))
def bk_Tr_mark_41 (a1 : Int32) (a2 : Int32) (a3 : Int32) (k18 : CS → Int32 → Int32 → Option (Int32 × CS)) (s : CS) (v4 : Int32) (v5 : Int32) : Option (Int32 × CS) :=
  k18 s v4 (v5 + 1)
def bk_Tr_mark_18_o (a1 : Int32) (a2 : Int32) (a3 : Int32) (k18 : CS → Int32 → Int32 → Option (Int32 × CS)) (s : CS) (v4 : Int32) (v5 : Int32) : Option (Int32 × CS) :=
  if 36 ≤ v5 then
    some (v4, s)
  else
    ct_gd (ct_inR v5 36) <|
    if (cs_A s 6 v5.toNatClampNeg) = 0 then
      bk_Tr_mark_41 a1 a2 a3 k18 s v4 v5
    else
      bk_Tr_mark_41 a1 a2 a3 k18 s (v4 + 1) v5
def bk_Tr_mark_18 (a1 : Int32) (a2 : Int32) (a3 : Int32) : Nat → CS → Int32 → Int32 → Option (Int32 × CS)
  | 0 => fun _ _ _ => none
  | n + 1 => bk_Tr_mark_18_o a1 a2 a3 (bk_Tr_mark_18 a1 a2 a3 n)
def fn_Tr_mark (s : CS) (a1 : Int32) (a2 : Int32) (a3 : Int32) : Option (Int32 × CS) :=
  ct_gd (ct_inR ((a1 * 6) + a2) 36) <|
  ct_nm (cs_A' s 6 ((a1 * 6) + a2).toNatClampNeg (vp_nar .boolean a3)) fun s1 =>
  bk_Tr_mark_18 a1 a2 a3 200 s1 0 0
def fn_CT_leave (s : CS) (a1 : Int32) (a2 : Int32) (a3 : Int32) : Option ((Nat × CS) ⊕ (Int32 × CS)) :=
  ct_ob (fn_CT_isCell a1 a2 (cs_I s 4)) fun x1 =>
  ct_xb (fn_CT_check s x1) fun s2 =>
  ct_ob2 (fn_Tr_mark s2 a1 a2 a3) fun x3 s4 =>
  some (.inr (x3, s4))
def fn_CT_latest (s : CS) (a1 : Int32) : Option ((Nat × CS) ⊕ CS) :=
  ct_ob (fn_CT_within a1 1 6) fun x1 =>
  ct_xb (fn_CT_check s x1) fun s2 =>
  ct_nm (cs_I' s2 6 a1) fun s3 =>
  some (.inr s3)
def fn_CT_hide (s : CS) (a1 : Int32) : Option ((Nat × CS) ⊕ (Int32 × CS)) :=
  ct_ob (fn_CT_within a1 0 ((cs_I s 4) - 1)) fun x1 =>
  ct_xb (fn_CT_check s x1) fun s2 =>
  ct_nm (cs_I' s2 5 a1) fun s3 =>
  ct_ob (fn_Tr_shown s3) fun x4 =>
  some (.inr (x4, s3))
def fn_CT_isChain (a1 : Int32) : Option Int32 :=
  if a1 = 0 then
    some 1
  else
    if ¬ a1 = 1 then
      some 0
    else
      some 1
def fn_Tr_takes (s : CS) (a1 : Int32) (a2 : Int32) : Option Int32 :=
  ct_gd (ct_inR ((a1 * 6) + a2) 36) <|
  if ¬ (cs_A s 6 ((a1 * 6) + a2).toNatClampNeg) = 0 then
    some 0
  else
    ct_gd (ct_inR (((a1 * 6) + a2) + 1) 36) <|
    if ¬ (cs_A s 6 (((a1 * 6) + a2) + 1).toNatClampNeg) = 0 then
      some 0
    else
      some 1
def bk_Re_linkUp_90 (a1 : Int32) (a2 : Int32) (s : CS) (v3 : Int64) (v5 : Int64) : Option CS :=
  ct_gd (ct_inR a1 5) <|
  ct_ob (fn_Fr_become s (3 + a1.toNatClampNeg) v3 v5) fun s6 =>
  some s6
def bk_Re_linkUp_84 (a1 : Int32) (a2 : Int32) (k21 : CS → Int64 → Int64 → Int32 → Int32 → Option CS) (s : CS) (v3 : Int64) (v5 : Int64) (v7 : Int32) (v8 : Int32) : Option CS :=
  k21 s v3 v5 v7 (v8 + (-1))
def bk_Re_linkUp_21_o (a1 : Int32) (a2 : Int32) (k21 : CS → Int64 → Int64 → Int32 → Int32 → Option CS) (s : CS) (v3 : Int64) (v5 : Int64) (v7 : Int32) (v8 : Int32) : Option CS :=
  if v8 < 0 then
    bk_Re_linkUp_90 a1 a2 s v3 v5
  else
    if a2 ≤ v7 then
      bk_Re_linkUp_90 a1 a2 s v3 v5
    else
      ct_ob (fn_Tr_takes s v8 a1) fun x3 =>
      if x3 = 0 then
        bk_Re_linkUp_84 a1 a2 k21 s v3 v5 v7 v8
      else
        ct_gd (ct_inR v8 6) <|
        ct_gd (ct_inR (a1 + 1) 6) <|
        ct_nm (v3 + ((cs_R s v8.toNatClampNeg (a1 + 1).toNatClampNeg).toInt64)) fun x4 =>
        ct_gd (ct_inR v8 6) <|
        ct_gd (ct_inR a1 6) <|
        ct_nm (v5 + ((cs_R s v8.toNatClampNeg a1.toNatClampNeg).toInt64)) fun x5 =>
        bk_Re_linkUp_84 a1 a2 k21 s x4 x5 (v7 + 1) v8
def bk_Re_linkUp_21 (a1 : Int32) (a2 : Int32) : Nat → CS → Int64 → Int64 → Int32 → Int32 → Option CS
  | 0 => fun _ _ _ _ _ => none
  | n + 1 => bk_Re_linkUp_21_o a1 a2 (bk_Re_linkUp_21 a1 a2 n)
def fn_Re_linkUp (s : CS) (a1 : Int32) (a2 : Int32) : Option CS :=
  ct_ob (fn_Tr_shown s) fun x1 =>
  ct_nm ((x1 - 2) - a1) fun x2 =>
  bk_Re_linkUp_21 a1 a2 200 s 0 0 0 x2
def bk_Re_prepare_20_o (a1 : Int32) (k20 : CS → Int32 → Int32 → Option CS) (s : CS) (v2 : Int32) (v3 : Int32) : Option CS :=
  ct_ob (fn_Tr_shown s) fun x1 =>
  if (x1 - 1) ≤ v3 then
    some s
  else
    ct_ob (fn_Re_linkUp s v3 v2) fun s2 =>
    k20 s2 v2 (v3 + 1)
def bk_Re_prepare_20 (a1 : Int32) : Nat → CS → Int32 → Int32 → Option CS
  | 0 => fun _ _ _ => none
  | n + 1 => bk_Re_prepare_20_o a1 (bk_Re_prepare_20 a1 n)
def bk_Re_prepare_17 (a1 : Int32) (s : CS) (t0 : Int32) : Option CS :=
  bk_Re_prepare_20 a1 200 s t0 0
def fn_Re_prepare (s : CS) (a1 : Int32) : Option CS :=
  if ¬ a1 = 1 then
    bk_Re_prepare_17 a1 s 6
  else
    bk_Re_prepare_17 a1 s (cs_I s 6)
def fn_Fr_copy (s : CS) (f : Nat) (a1 : Nat) : Option CS :=
  ct_nm (cs_F0' s f ((cs_F s a1).1)) fun s1 =>
  ct_nm (cs_F1' s1 f ((cs_F s1 a1).2.1)) fun s2 =>
  ct_nm (cs_F2' s2 f ((cs_F s2 a1).2.2)) fun s3 =>
  some s3
def fn_Re_toLink (s : CS) (a1 : Int32) : Option CS :=
  ct_gd (ct_inR a1 5) <|
  ct_ob (fn_Fr_copy s 8 (3 + a1.toNatClampNeg)) fun s1 =>
  some s1
def fn_CT_checkAnswer (s : CS) : Option ((Nat × CS) ⊕ CS) :=
  if ¬ ((cs_F s 8).2.2) = 2 then
    if ¬ ((cs_F s 8).2.2) = 1 then
      some (.inr s)
    else
      some (.inl (4, s))
  else
    some (.inl (3, s))
def fn_CT_partOfAnswer (s : CS) (a1 : Int32) : Option ((Nat × CS) ⊕ (Int64 × CS)) :=
  ct_xb (fn_CT_checkAnswer s) fun s1 =>
  if a1 = 0 then
    some (.inr ((cs_F s1 8).1, s1))
  else
    some (.inr ((cs_F s1 8).2.1, s1))
def bk_CT_factor_29 (a1 : Int32) (a2 : Int32) (a3 : Int32) (s : CS) (t0 : Int32) : Option ((Nat × CS) ⊕ (Int64 × CS)) :=
  ct_xb (fn_CT_check s t0) fun s4 =>
  ct_ob (fn_Re_prepare s4 a1) fun s5 =>
  ct_ob (fn_Re_toLink s5 a2) fun s6 =>
  ct_xb2 (fn_CT_partOfAnswer s6 a3) fun x7 s8 =>
  some (.inr (x7, s8))
def fn_CT_factor (s : CS) (a1 : Int32) (a2 : Int32) (a3 : Int32) : Option ((Nat × CS) ⊕ (Int64 × CS)) :=
  ct_ob (fn_CT_isChain a1) fun x1 =>
  if x1 = 0 then
    bk_CT_factor_29 a1 a2 a3 s 0
  else
    ct_ob (fn_Tr_shown s) fun x2 =>
    ct_ob (fn_CT_within a2 0 (x2 - 2)) fun x3 =>
    if x3 = 0 then
      bk_CT_factor_29 a1 a2 a3 s 0
    else
      bk_CT_factor_29 a1 a2 a3 s 1
def fn_CT_isMethod (a1 : Int32) : Option Int32 :=
  ct_ob (fn_CT_within a1 0 3) fun x1 =>
  ct_gd (ct_isB x1) <|
  some x1
def fn_CT_isRow (s : CS) (a1 : Int32) : Option Int32 :=
  ct_ob (fn_Tr_shown s) fun x1 =>
  ct_ob (fn_CT_within a1 0 (x1 - 1)) fun x2 =>
  ct_gd (ct_isB x2) <|
  some x2
def bk_Te_sumPremiums_12_o (a1 : Int32) (a2 : Int32) (a3 : Int32) (k12 : CS → Int32 → Int32 → Int32 → Option Int32) (s : CS) (v4 : Int32) (v5 : Int32) (v6 : Int32) : Option Int32 :=
  if (v4 + a2) ≤ v6 then
    some v5
  else
    if 72 ≤ v6 then
      some v5
    else
      ct_gd (ct_inR a1 2) <|
      ct_gd (ct_inR v6 72) <|
      ct_nm (v5 + (cs_P s a1.toNatClampNeg v6.toNatClampNeg)) fun x2 =>
      k12 s v4 x2 (v6 + 1)
def bk_Te_sumPremiums_12 (a1 : Int32) (a2 : Int32) (a3 : Int32) : Nat → CS → Int32 → Int32 → Int32 → Option Int32
  | 0 => fun _ _ _ _ => none
  | n + 1 => bk_Te_sumPremiums_12_o a1 a2 a3 (bk_Te_sumPremiums_12 a1 a2 a3 n)
def fn_Te_sumPremiums (s : CS) (a1 : Int32) (a2 : Int32) (a3 : Int32) : Option Int32 :=
  ct_nm (a3 * a2) fun x1 =>
  bk_Te_sumPremiums_12 a1 a2 a3 200 s x1 0 x1
def fn_Fr_becomeWhole (s : CS) (f : Nat) (a1 : Int64) : Option CS :=
  ct_nm (cs_F0' s f a1) fun s1 =>
  ct_nm (cs_F1' s1 f 1) fun s2 =>
  ct_nm (cs_F2' s2 f 0) fun s3 =>
  some s3
def fn_Fr_fits (a1 : Int64) (a2 : Int64) : Option Int32 :=
  if (lg_cmp a2 0) = 0 then
    some 1
  else
    ct_gd (ct_gzL (ct_abL a2)) <|
    if 0 < (lg_cmp (ct_abL a1) (4611686018427387904 / (ct_abL a2))) then
      some 0
    else
      some 1
def bk_Fr_times_102 (f : Nat) (a1 : Nat) (s : CS) : Option CS :=
  ct_nm (cs_F2' s f 1) fun s12 =>
  some s12
def fn_Fr_times (s : CS) (f : Nat) (a1 : Nat) : Option CS :=
  ct_nm (cs_F2' s f (ct_mxI ((cs_F s f).2.2) ((cs_F s a1).2.2))) fun s1 =>
  if ((cs_F s1 f).2.2) = 0 then
    ct_ob (fn_Fr_divisor ((cs_F s1 f).1) ((cs_F s1 a1).2.1)) fun x2 =>
    ct_ob (fn_Fr_divisor ((cs_F s1 a1).1) ((cs_F s1 f).2.1)) fun x3 =>
    ct_gd (ct_gzL x2) <|
    ct_nm (((cs_F s1 f).1) / x2) fun x4 =>
    ct_gd (ct_gzL x3) <|
    ct_nm (((cs_F s1 f).2.1) / x3) fun x5 =>
    ct_gd (ct_gzL x3) <|
    ct_nm (((cs_F s1 a1).1) / x3) fun x6 =>
    ct_gd (ct_gzL x2) <|
    ct_nm (((cs_F s1 a1).2.1) / x2) fun x7 =>
    ct_ob (fn_Fr_fits x4 x6) fun x8 =>
    if x8 = 0 then
      bk_Fr_times_102 f a1 s1
    else
      ct_ob (fn_Fr_fits x5 x7) fun x9 =>
      if ¬ x9 = 0 then
        ct_nm (cs_F0' s1 f (x4 * x6)) fun s10 =>
        ct_nm (cs_F1' s10 f (x5 * x7)) fun s11 =>
        some s11
      else
        bk_Fr_times_102 f a1 s1
  else
    some s1
def fn_Re_expect (s : CS) (a1 : Int32) : Option CS :=
  ct_ob (fn_Te_sumPremiums s (cs_I s 1) (cs_I s 2) a1) fun x1 =>
  ct_ob (fn_Fr_becomeWhole s 10 x1.toInt64) fun s2 =>
  ct_ob (fn_Te_ratioOf s2 (cs_I s2 1)) fun x3 =>
  ct_ob (fn_Fr_times s2 10 x3) fun s4 =>
  some s4
def bk_Re_chain_10_o (a1 : Int32) (a2 : Int32) (k10 : CS → Int32 → Option CS) (s : CS) (v3 : Int32) : Option CS :=
  if a2 < v3 then
    some s
  else
    ct_gd (ct_inR v3 5) <|
    ct_ob (fn_Fr_times s 8 (3 + v3.toNatClampNeg)) fun s2 =>
    k10 s2 (v3 + 1)
def bk_Re_chain_10 (a1 : Int32) (a2 : Int32) : Nat → CS → Int32 → Option CS
  | 0 => fun _ _ => none
  | n + 1 => bk_Re_chain_10_o a1 a2 (bk_Re_chain_10 a1 a2 n)
def fn_Re_chain (s : CS) (a1 : Int32) (a2 : Int32) : Option CS :=
  ct_ob (fn_Fr_becomeWhole s 8 1) fun s1 =>
  bk_Re_chain_10 a1 a2 200 s1 a1
def bk_Fr_invert_44 (f : Nat) (s : CS) (t0 : Int64) : Option CS :=
  ct_nm (cs_F1' s f (ct_abL ((cs_F s f).1))) fun s2 =>
  ct_nm (cs_F0' s2 f t0) fun s3 =>
  some s3
def fn_Fr_invert (s : CS) (f : Nat) : Option CS :=
  if ((cs_F s f).2.2) = 0 then
    if ¬ (lg_cmp ((cs_F s f).1) 0) = 0 then
      if 0 ≤ (lg_cmp ((cs_F s f).1) 0) then
        bk_Fr_invert_44 f s ((cs_F s f).2.1)
      else
        bk_Fr_invert_44 f s (-((cs_F s f).2.1))
    else
      ct_nm (cs_F2' s f 2) fun s1 =>
      some s1
  else
    some s
def fn_Fr_negate (s : CS) (f : Nat) : Option CS :=
  ct_nm (cs_F0' s f (-((cs_F s f).1))) fun s1 =>
  some s1
def fn_Re_asWhole (s : CS) (a1 : Int64) : Option (Nat × CS) :=
  ct_ob (fn_Fr_becomeWhole s 9 a1) fun s1 =>
  some (9, s1)
theorem lt_Re_asWhole {s s1 : CS} {a1 : Int64} {x : Nat} (h : fn_Re_asWhole s a1 = some (x, s1)) : x < 12 := by
  unfold fn_Re_asWhole at h
  obtain ⟨a, -, h⟩ := ct_ob_some h
  have h := congrArg Prod.fst (Option.some.inj h)
  simp only at h
  omega
def bk_Fr_plus_151 (f : Nat) (a1 : Nat) (s : CS) (v4 : Int64) (v8 : Int64) (v10 : Int64) : Option CS :=
  ct_nm (((cs_F s f).2.1) * v4) fun x12 =>
  ct_ob (fn_Fr_divisor (v8 + v10) x12) fun x13 =>
  ct_gd (ct_gzL x13) <|
  ct_nm (cs_F0' s f ((v8 + v10) / x13)) fun s14 =>
  ct_gd (ct_gzL x13) <|
  ct_nm (cs_F1' s14 f (x12 / x13)) fun s15 =>
  some s15
def bk_Fr_plus_145 (f : Nat) (a1 : Nat) (s : CS) : Option CS :=
  ct_nm (cs_F2' s f 1) fun s11 =>
  some s11
def bk_Fr_plus_87 (f : Nat) (a1 : Nat) (s : CS) : Option CS :=
  ct_nm (cs_F2' s f 1) fun s10 =>
  some s10
def fn_Fr_plus (s : CS) (f : Nat) (a1 : Nat) : Option CS :=
  ct_nm (cs_F2' s f (ct_mxI ((cs_F s f).2.2) ((cs_F s a1).2.2))) fun s1 =>
  if ((cs_F s1 f).2.2) = 0 then
    ct_ob (fn_Fr_divisor ((cs_F s1 f).2.1) ((cs_F s1 a1).2.1)) fun x2 =>
    ct_gd (ct_gzL x2) <|
    ct_nm (((cs_F s1 a1).2.1) / x2) fun x3 =>
    ct_gd (ct_gzL x2) <|
    ct_nm (((cs_F s1 f).2.1) / x2) fun x4 =>
    ct_ob (fn_Fr_fits ((cs_F s1 f).2.1) x3) fun x5 =>
    if x5 = 0 then
      bk_Fr_plus_87 f a1 s1
    else
      ct_ob (fn_Fr_fits ((cs_F s1 f).1) x3) fun x6 =>
      if x6 = 0 then
        bk_Fr_plus_87 f a1 s1
      else
        ct_ob (fn_Fr_fits ((cs_F s1 a1).1) x4) fun x7 =>
        if ¬ x7 = 0 then
          ct_nm (((cs_F s1 f).1) * x3) fun x8 =>
          ct_nm (((cs_F s1 a1).1) * x4) fun x9 =>
          if (lg_cmp x8 0) ≤ 0 then
            if 0 ≤ (lg_cmp x9 ((-4611686018427387904) - x8)) then
              bk_Fr_plus_151 f a1 s1 x3 x8 x9
            else
              bk_Fr_plus_145 f a1 s1
          else
            if (lg_cmp x9 (4611686018427387904 - x8)) ≤ 0 then
              bk_Fr_plus_151 f a1 s1 x3 x8 x9
            else
              bk_Fr_plus_145 f a1 s1
        else
          bk_Fr_plus_87 f a1 s1
  else
    some s1
def fn_Tr_latestOf (s : CS) (a1 : Int32) : Option Int32 :=
  ct_gd (ct_inR a1 6) <|
  ct_ob (fn_Tr_shown s) fun x1 =>
  ct_gd (ct_inR ((x1 - 1) - a1) 6) <|
  some (cs_R s a1.toNatClampNeg ((x1 - 1) - a1).toNatClampNeg)
def fn_Re_blend (s : CS) (a1 : Int32) : Option CS :=
  ct_ob (fn_Fr_invert s 8) fun s1 =>
  ct_ob (fn_Fr_negate s1 8) fun s2 =>
  ct_ob2 (fn_Re_asWhole s2 1) fun x3 s4 =>
  ct_ob (fn_Fr_plus s4 8 x3) fun s5 =>
  ct_ob (fn_Fr_times s5 8 10) fun s6 =>
  ct_ob (fn_Tr_latestOf s6 a1) fun x7 =>
  ct_ob2 (fn_Re_asWhole s6 x7.toInt64) fun x8 s9 =>
  ct_ob (fn_Fr_plus s9 8 x8) fun s10 =>
  some s10
def bk_Re_toUltimate_15 (a1 : Int32) (a2 : Int32) (s : CS) : Option CS :=
  if ¬ a1 = 2 then
    ct_ob (fn_Tr_shown s) fun x2 =>
    ct_ob (fn_Tr_shown s) fun x3 =>
    ct_ob (fn_Re_chain s ((x2 - 1) - a2) (x3 - 2)) fun s4 =>
    ct_ob (fn_Fr_times s4 8 2) fun s5 =>
    if ¬ a1 = 3 then
      ct_ob (fn_Tr_latestOf s5 a2) fun x6 =>
      ct_ob2 (fn_Re_asWhole s5 x6.toInt64) fun x7 s8 =>
      ct_ob (fn_Fr_times s8 8 x7) fun s9 =>
      some s9
    else
      ct_ob (fn_Re_blend s5 a2) fun s10 =>
      some s10
  else
    ct_ob (fn_Fr_copy s 8 10) fun s11 =>
    some s11
def bk_Re_toUltimate_10 (a1 : Int32) (a2 : Int32) (s : CS) : Option CS :=
  ct_ob (fn_Re_expect s a2) fun s1 =>
  bk_Re_toUltimate_15 a1 a2 s1
def fn_Re_toUltimate (s : CS) (a1 : Int32) (a2 : Int32) : Option CS :=
  if a1 = 2 then
    bk_Re_toUltimate_10 a1 a2 s
  else
    if ¬ a1 = 3 then
      bk_Re_toUltimate_15 a1 a2 s
    else
      bk_Re_toUltimate_10 a1 a2 s
def bk_CT_ultimate_20 (a1 : Int32) (a2 : Int32) (a3 : Int32) (s : CS) (t0 : Int32) : Option ((Nat × CS) ⊕ (Int64 × CS)) :=
  ct_xb (fn_CT_check s t0) fun s3 =>
  ct_ob (fn_Re_prepare s3 a1) fun s4 =>
  ct_ob (fn_Re_toUltimate s4 a1 a2) fun s5 =>
  ct_xb2 (fn_CT_partOfAnswer s5 a3) fun x6 s7 =>
  some (.inr (x6, s7))
def fn_CT_ultimate (s : CS) (a1 : Int32) (a2 : Int32) (a3 : Int32) : Option ((Nat × CS) ⊕ (Int64 × CS)) :=
  ct_ob (fn_CT_isMethod a1) fun x1 =>
  if x1 = 0 then
    bk_CT_ultimate_20 a1 a2 a3 s 0
  else
    ct_ob (fn_CT_isRow s a2) fun x2 =>
    if x2 = 0 then
      bk_CT_ultimate_20 a1 a2 a3 s 0
    else
      bk_CT_ultimate_20 a1 a2 a3 s 1
def fn_Re_toReserve (s : CS) (a1 : Int32) (a2 : Int32) : Option CS :=
  ct_ob (fn_Re_toUltimate s a1 a2) fun s1 =>
  ct_ob (fn_Tr_latestOf s1 a2) fun x2 =>
  ct_ob2 (fn_Re_asWhole s1 ((-x2).toInt64)) fun x3 s4 =>
  ct_ob (fn_Fr_plus s4 8 x3) fun s5 =>
  some s5
def bk_CT_reserve_20 (a1 : Int32) (a2 : Int32) (a3 : Int32) (s : CS) (t0 : Int32) : Option ((Nat × CS) ⊕ (Int64 × CS)) :=
  ct_xb (fn_CT_check s t0) fun s3 =>
  ct_ob (fn_Re_prepare s3 a1) fun s4 =>
  ct_ob (fn_Re_toReserve s4 a1 a2) fun s5 =>
  ct_xb2 (fn_CT_partOfAnswer s5 a3) fun x6 s7 =>
  some (.inr (x6, s7))
def fn_CT_reserve (s : CS) (a1 : Int32) (a2 : Int32) (a3 : Int32) : Option ((Nat × CS) ⊕ (Int64 × CS)) :=
  ct_ob (fn_CT_isMethod a1) fun x1 =>
  if x1 = 0 then
    bk_CT_reserve_20 a1 a2 a3 s 0
  else
    ct_ob (fn_CT_isRow s a2) fun x2 =>
    if x2 = 0 then
      bk_CT_reserve_20 a1 a2 a3 s 0
    else
      bk_CT_reserve_20 a1 a2 a3 s 1
def fn_Ma_floorDiv (a1 : Int64) (a2 : Int64) : Option Int64 :=
  ct_gd (ct_gzL a2) <|
  ct_nm (a1 / a2) fun x1 =>
  if 0 ≤ (lg_cmp (a1 ^^^ a2) 0) then
    some x1
  else
    if (lg_cmp (x1 * a2) a1) = 0 then
      some x1
    else
      ct_nm (x1 - 1) fun x2 =>
      some x2
def fn_Fr_nearest (s : CS) (f : Nat) : Option Int64 :=
  ct_ob (fn_Ma_floorDiv ((cs_F s f).1) ((cs_F s f).2.1)) fun x1 =>
  ct_nm (((cs_F s f).1) - (x1 * ((cs_F s f).2.1))) fun x2 =>
  if (lg_cmp x2 (((cs_F s f).2.1) - x2)) < 0 then
    some x1
  else
    some (x1 + 1)
def bk_CT_rounded_20 (a1 : Int32) (a2 : Int32) (s : CS) (t0 : Int32) : Option ((Nat × CS) ⊕ (Int64 × CS)) :=
  ct_xb (fn_CT_check s t0) fun s3 =>
  ct_ob (fn_Re_prepare s3 a1) fun s4 =>
  ct_ob (fn_Re_toReserve s4 a1 a2) fun s5 =>
  ct_xb (fn_CT_checkAnswer s5) fun s6 =>
  ct_ob (fn_Fr_nearest s6 8) fun x7 =>
  some (.inr (x7, s6))
def fn_CT_rounded (s : CS) (a1 : Int32) (a2 : Int32) : Option ((Nat × CS) ⊕ (Int64 × CS)) :=
  ct_ob (fn_CT_isMethod a1) fun x1 =>
  if x1 = 0 then
    bk_CT_rounded_20 a1 a2 s 0
  else
    ct_ob (fn_CT_isRow s a2) fun x2 =>
    if x2 = 0 then
      bk_CT_rounded_20 a1 a2 s 0
    else
      bk_CT_rounded_20 a1 a2 s 1
def bk_Re_toTotal_10_o (a1 : Int32) (k10 : CS → Int32 → Option CS) (s : CS) (v2 : Int32) : Option CS :=
  ct_ob (fn_Tr_shown s) fun x2 =>
  if x2 ≤ v2 then
    ct_ob (fn_Fr_copy s 8 11) fun s3 =>
    some s3
  else
    ct_ob (fn_Re_toReserve s a1 v2) fun s4 =>
    ct_ob (fn_Fr_plus s4 11 8) fun s5 =>
    k10 s5 (v2 + 1)
def bk_Re_toTotal_10 (a1 : Int32) : Nat → CS → Int32 → Option CS
  | 0 => fun _ _ => none
  | n + 1 => bk_Re_toTotal_10_o a1 (bk_Re_toTotal_10 a1 n)
def fn_Re_toTotal (s : CS) (a1 : Int32) : Option CS :=
  ct_ob (fn_Fr_becomeWhole s 11 0) fun s1 =>
  bk_Re_toTotal_10 a1 200 s1 0
def fn_CT_total (s : CS) (a1 : Int32) (a2 : Int32) : Option ((Nat × CS) ⊕ (Int64 × CS)) :=
  ct_ob (fn_CT_isMethod a1) fun x1 =>
  ct_xb (fn_CT_check s x1) fun s2 =>
  ct_ob (fn_Re_prepare s2 a1) fun s3 =>
  ct_ob (fn_Re_toTotal s3 a1) fun s4 =>
  ct_xb2 (fn_CT_partOfAnswer s4 a2) fun x5 s6 =>
  some (.inr (x5, s6))
def bk_Re_markRows_52 (a1 : Int32) (k4 : CS → Int32 → Int32 → Option (Int32 × CS)) (s : CS) (v2 : Int32) (v3 : Int32) : Option (Int32 × CS) :=
  k4 s v2 (v3 + 1)
def bk_Re_markRows_4_o (a1 : Int32) (k4 : CS → Int32 → Int32 → Option (Int32 × CS)) (s : CS) (v2 : Int32) (v3 : Int32) : Option (Int32 × CS) :=
  ct_ob (fn_Tr_shown s) fun x1 =>
  if x1 ≤ v3 then
    some (v2, s)
  else
    ct_ob (fn_Re_toReserve s a1 v3) fun s2 =>
    if ¬ ((cs_F s2 8).2.2) = 2 then
      if ¬ ((cs_F s2 8).2.2) = 1 then
        bk_Re_markRows_52 a1 k4 s2 v2 v3
      else
        bk_Re_markRows_52 a1 k4 s2 (v2 + 10) v3
    else
      bk_Re_markRows_52 a1 k4 s2 (v2 + 1) v3
def bk_Re_markRows_4 (a1 : Int32) : Nat → CS → Int32 → Int32 → Option (Int32 × CS)
  | 0 => fun _ _ _ => none
  | n + 1 => bk_Re_markRows_4_o a1 (bk_Re_markRows_4 a1 n)
def fn_Re_markRows (s : CS) (a1 : Int32) : Option (Int32 × CS) :=
  bk_Re_markRows_4 a1 200 s 0 0
def fn_CT_marks (s : CS) (a1 : Int32) : Option ((Nat × CS) ⊕ (Int32 × CS)) :=
  ct_ob (fn_CT_isMethod a1) fun x1 =>
  ct_xb (fn_CT_check s x1) fun s2 =>
  ct_ob (fn_Re_prepare s2 a1) fun s3 =>
  ct_ob2 (fn_Re_markRows s3 a1) fun x4 s5 =>
  some (.inr (x4, s5))
def fn_Re_toSquare (s : CS) (a1 : Int32) (a2 : Int32) : Option CS :=
  ct_gd (ct_inR a2 5) <|
  ct_ob (fn_Fr_copy s 8 (3 + a2.toNatClampNeg)) fun s1 =>
  ct_gd (ct_inR a1 6) <|
  ct_gd (ct_inR a2 6) <|
  ct_ob2 (fn_Re_asWhole s1 ((cs_R s1 a1.toNatClampNeg a2.toNatClampNeg).toInt64)) fun x2 s3 =>
  ct_ob (fn_Fr_times s3 8 x2) fun s4 =>
  ct_ob (fn_Fr_negate s4 8) fun s5 =>
  ct_gd (ct_inR a1 6) <|
  ct_gd (ct_inR (a2 + 1) 6) <|
  ct_ob2 (fn_Re_asWhole s5 ((cs_R s5 a1.toNatClampNeg (a2 + 1).toNatClampNeg).toInt64)) fun x6 s7 =>
  ct_ob (fn_Fr_plus s7 8 x6) fun s8 =>
  ct_ob (fn_Fr_times s8 8 8) fun s9 =>
  ct_gd (ct_inR a1 6) <|
  ct_gd (ct_inR a2 6) <|
  ct_ob (fn_Fr_become s9 9 1 ((cs_R s9 a1.toNatClampNeg a2.toNatClampNeg).toInt64)) fun s10 =>
  ct_ob (fn_Fr_times s10 8 9) fun s11 =>
  some s11
def bk_Re_toDeviation_59 (a1 : Int32) (k12 : CS → Int32 → Int32 → Option CS) (s : CS) (v2 : Int32) (v3 : Int32) : Option CS :=
  k12 s v2 (v3 + 1)
def bk_Re_toDeviation_12_o (a1 : Int32) (k12 : CS → Int32 → Int32 → Option CS) (s : CS) (v2 : Int32) (v3 : Int32) : Option CS :=
  ct_ob (fn_Tr_shown s) fun x2 =>
  if ((x2 - 1) - a1) ≤ v3 then
    ct_ob (fn_Fr_become s 8 1 ((ct_mxI (v2 - 1) 0).toInt64)) fun s3 =>
    ct_ob (fn_Fr_times s3 8 11) fun s4 =>
    some s4
  else
    ct_ob (fn_Tr_takes s v3 a1) fun x5 =>
    if x5 = 0 then
      bk_Re_toDeviation_59 a1 k12 s v2 v3
    else
      ct_ob (fn_Re_toSquare s v3 a1) fun s6 =>
      ct_ob (fn_Fr_plus s6 11 8) fun s7 =>
      bk_Re_toDeviation_59 a1 k12 s7 (v2 + 1) v3
def bk_Re_toDeviation_12 (a1 : Int32) : Nat → CS → Int32 → Int32 → Option CS
  | 0 => fun _ _ _ => none
  | n + 1 => bk_Re_toDeviation_12_o a1 (bk_Re_toDeviation_12 a1 n)
def fn_Re_toDeviation (s : CS) (a1 : Int32) : Option CS :=
  ct_ob (fn_Fr_becomeWhole s 11 0) fun s1 =>
  bk_Re_toDeviation_12 a1 200 s1 0 0
def fn_CT_deviation (s : CS) (a1 : Int32) (a2 : Int32) : Option ((Nat × CS) ⊕ (Int64 × CS)) :=
  ct_ob (fn_Tr_shown s) fun x1 =>
  ct_ob (fn_CT_within a1 0 (x1 - 2)) fun x2 =>
  ct_xb (fn_CT_check s x2) fun s3 =>
  ct_ob (fn_Re_prepare s3 0) fun s4 =>
  ct_ob (fn_Re_toDeviation s4 a1) fun s5 =>
  ct_xb2 (fn_CT_partOfAnswer s5 a2) fun x6 s7 =>
  some (.inr (x6, s7))
def fn_Re_toError (s : CS) (a1 : Int32) : Option CS :=
  ct_ob (fn_Tr_shown s) fun x1 =>
  ct_ob (fn_Re_chain s ((x1 - 1) - a1) (((cs_I s 4) - 2) - a1)) fun s2 =>
  ct_ob (fn_Tr_latestOf s2 a1) fun x3 =>
  ct_ob2 (fn_Re_asWhole s2 x3.toInt64) fun x4 s5 =>
  ct_ob (fn_Fr_times s5 8 x4) fun s6 =>
  ct_gd (ct_inR a1 6) <|
  ct_gd (ct_inR (((cs_I s6 4) - 1) - a1) 6) <|
  ct_ob2 (fn_Re_asWhole s6 ((-(cs_R s6 a1.toNatClampNeg (((cs_I s6 4) - 1) - a1).toNatClampNeg)).toInt64)) fun x7 s8 =>
  ct_ob (fn_Fr_plus s8 8 x7) fun s9 =>
  some s9
def bk_CT_error_35 (a1 : Int32) (a2 : Int32) (a3 : Int32) (s : CS) (t0 : Int32) : Option ((Nat × CS) ⊕ (Int64 × CS)) :=
  ct_xb (fn_CT_check s t0) fun s4 =>
  ct_ob (fn_Re_prepare s4 a1) fun s5 =>
  ct_ob (fn_Re_toError s5 a2) fun s6 =>
  ct_xb2 (fn_CT_partOfAnswer s6 a3) fun x7 s8 =>
  some (.inr (x7, s8))
def fn_CT_error (s : CS) (a1 : Int32) (a2 : Int32) (a3 : Int32) : Option ((Nat × CS) ⊕ (Int64 × CS)) :=
  ct_ob (fn_CT_isChain a1) fun x1 =>
  if x1 = 0 then
    bk_CT_error_35 a1 a2 a3 s 0
  else
    ct_ob (fn_Tr_shown s) fun x2 =>
    ct_ob (fn_CT_within a2 (cs_I s 5) (x2 - 1)) fun x3 =>
    if x3 = 0 then
      bk_CT_error_35 a1 a2 a3 s 0
    else
      bk_CT_error_35 a1 a2 a3 s 1
def bk_Tr_growth_52 (a1 : Int32) (k4 : CS → Int32 → Int32 → Option Int32) (s : CS) (t0 : Int32) (t1 : Int32) (v3 : Int32) : Option Int32 :=
  ct_nm (t0 + t1) fun x2 =>
  k4 s x2 (v3 + 1)
def bk_Tr_growth_4_o (a1 : Int32) (k4 : CS → Int32 → Int32 → Option Int32) (s : CS) (v2 : Int32) (v3 : Int32) : Option Int32 :=
  if a1 < v3 then
    some v2
  else
    ct_nm (a1 - v3) fun x1 =>
    if ¬ x1 = 0 then
      ct_gd (ct_inR v3 6) <|
      ct_gd (ct_inR x1 6) <|
      ct_gd (ct_inR v3 6) <|
      ct_gd (ct_inR (x1 - 1) 6) <|
      bk_Tr_growth_52 a1 k4 s v2 ((cs_R s v3.toNatClampNeg x1.toNatClampNeg) - (cs_R s v3.toNatClampNeg (x1 - 1).toNatClampNeg)) v3
    else
      ct_gd (ct_inR v3 6) <|
      ct_gd (ct_inR 0 6) <|
      bk_Tr_growth_52 a1 k4 s v2 (cs_R s v3.toNatClampNeg (0 : Int32).toNatClampNeg) v3
def bk_Tr_growth_4 (a1 : Int32) : Nat → CS → Int32 → Int32 → Option Int32
  | 0 => fun _ _ _ => none
  | n + 1 => bk_Tr_growth_4_o a1 (bk_Tr_growth_4 a1 n)
def fn_Tr_growth (s : CS) (a1 : Int32) : Option Int32 :=
  bk_Tr_growth_4 a1 200 s 0 0
def fn_CT_diagonal (s : CS) (a1 : Int32) : Option ((Nat × CS) ⊕ (Int32 × CS)) :=
  ct_ob (fn_Tr_shown s) fun x1 =>
  ct_ob (fn_CT_within a1 0 (x1 - 1)) fun x2 =>
  ct_xb (fn_CT_check s x2) fun s3 =>
  ct_ob (fn_Tr_growth s3 a1) fun x4 =>
  some (.inr (x4, s3))
def bk_Le_countLiving_24 (k4 : CS → Int32 → Int32 → Option Int32) (s : CS) (v1 : Int32) (v2 : Int32) : Option Int32 :=
  k4 s v1 (v2 + 1)
def bk_Le_countLiving_4_o (k4 : CS → Int32 → Int32 → Option Int32) (s : CS) (v1 : Int32) (v2 : Int32) : Option Int32 :=
  if (cs_I s 0) ≤ v2 then
    some v1
  else
    ct_gd (ct_inR v2 60) <|
    if (cs_A s 5 v2.toNatClampNeg) = 0 then
      bk_Le_countLiving_24 k4 s v1 v2
    else
      bk_Le_countLiving_24 k4 s (v1 + 1) v2
def bk_Le_countLiving_4 : Nat → CS → Int32 → Int32 → Option Int32
  | 0 => fun _ _ _ => none
  | n + 1 => bk_Le_countLiving_4_o (bk_Le_countLiving_4 n)
def fn_Le_countLiving (s : CS) : Option Int32 :=
  bk_Le_countLiving_4 200 s 0 0
def bk_Le_sumPayments_39 (a1 : Int32) (k4 : CS → Int32 → Int32 → Option Int32) (s : CS) (v2 : Int32) (v3 : Int32) : Option Int32 :=
  k4 s v2 (v3 + 1)
def bk_Le_sumPayments_4_o (a1 : Int32) (k4 : CS → Int32 → Int32 → Option Int32) (s : CS) (v2 : Int32) (v3 : Int32) : Option Int32 :=
  if (cs_I s 0) ≤ v3 then
    some v2
  else
    ct_ob (fn_Le_livesIn s v3 a1) fun x1 =>
    if x1 = 0 then
      bk_Le_sumPayments_39 a1 k4 s v2 v3
    else
      ct_gd (ct_inR v3 60) <|
      if ¬ (cs_A s 4 v3.toNatClampNeg) = 0 then
        bk_Le_sumPayments_39 a1 k4 s v2 v3
      else
        ct_gd (ct_inR v3 60) <|
        ct_nm (v2 + (cs_A s 3 v3.toNatClampNeg)) fun x2 =>
        bk_Le_sumPayments_39 a1 k4 s x2 v3
def bk_Le_sumPayments_4 (a1 : Int32) : Nat → CS → Int32 → Int32 → Option Int32
  | 0 => fun _ _ _ => none
  | n + 1 => bk_Le_sumPayments_4_o a1 (bk_Le_sumPayments_4 a1 n)
def fn_Le_sumPayments (s : CS) (a1 : Int32) : Option Int32 :=
  bk_Le_sumPayments_4 a1 200 s 0 0
def fn_CT_count (s : CS) (a1 : Int32) : Option ((Nat × CS) ⊕ (Int32 × CS)) :=
  if a1 = 0 then
    some (.inr (cs_I s 0, s))
  else
  if a1 = 1 then
    ct_ob (fn_Le_countLiving s) fun x1 =>
    some (.inr (x1, s))
  else
  if a1 = 2 then
    ct_ob (fn_Tr_shown s) fun x2 =>
    some (.inr (x2, s))
  else
  if a1 = 3 then
    some (.inr (cs_I s 5, s))
  else
  if a1 = 4 then
    ct_ob (fn_Le_sumPayments s (cs_I s 1)) fun x3 =>
    some (.inr (x3, s))
  else
  some (.inl (1, s))
def fn_Mo_thrown (s : MS) : Option Int32 :=
  some (ms_I s 0)
def fn_Mo_noLine (a1 : Int32) : Option Int32 :=
  if a1 < 0 then
    some 1
  else
    if a1 ≤ 1 then
      some 0
    else
      some 1
def fn_Mo_noMonths (a1 : Int32) (a2 : Int32) : Option Int32 :=
  if a1 < 0 then
    some 1
  else
    if 71 < a1 then
      some 1
    else
      if a2 < a1 then
        some 1
      else
        if a2 ≤ 71 then
          some 0
        else
          some 1
def bk_Mo_enter_73 (a1 : Int32) (a2 : Int32) (a3 : Int32) (a4 : Int32) (a5 : Int32) (s : MS) (t1 : Int32) : Option (Int32 × MS) :=
  ct_nm (ms_I' s 0 t1) fun s3 =>
  if (ms_I s3 0) = 0 then
    ct_gd (ct_inR (ms_I s3 1) 60) <|
    ct_nm (ms_A' s3 0 (ms_I s3 1).toNatClampNeg a1) fun s4 =>
    ct_gd (ct_inR (ms_I s4 1) 60) <|
    ct_nm (ms_A' s4 1 (ms_I s4 1).toNatClampNeg a2) fun s5 =>
    ct_gd (ct_inR (ms_I s5 1) 60) <|
    ct_nm (ms_A' s5 2 (ms_I s5 1).toNatClampNeg a3) fun s6 =>
    ct_gd (ct_inR (ms_I s6 1) 60) <|
    ct_nm (ms_A' s6 3 (ms_I s6 1).toNatClampNeg a4) fun s7 =>
    ct_gd (ct_inR (ms_I s7 1) 60) <|
    ct_nm (ms_A' s7 4 (ms_I s7 1).toNatClampNeg (vp_nar .boolean a5)) fun s8 =>
    ct_gd (ct_inR (ms_I s8 1) 60) <|
    ct_nm (ms_A' s8 5 (ms_I s8 1).toNatClampNeg (vp_nar .boolean 0)) fun s9 =>
    ct_nm (ms_I' s9 1 ((ms_I s9 1) + 1)) fun s10 =>
    some ((ms_I s10 1) - 1, s10)
  else
    some (0, s3)
def bk_Mo_enter_47 (a1 : Int32) (a2 : Int32) (a3 : Int32) (a4 : Int32) (a5 : Int32) (s : MS) (t0 : Int32) : Option (Int32 × MS) :=
  if t0 = 0 then
    if ¬ (ms_I s 1) = 60 then
      bk_Mo_enter_73 a1 a2 a3 a4 a5 s 0
    else
      bk_Mo_enter_73 a1 a2 a3 a4 a5 s 2
  else
    bk_Mo_enter_73 a1 a2 a3 a4 a5 s 1
def bk_Mo_enter_39 (a1 : Int32) (a2 : Int32) (a3 : Int32) (a4 : Int32) (a5 : Int32) (s : MS) (t0 : Int32) (t1 : Int32) : Option (Int32 × MS) :=
  if t1 ≤ t0 then
    bk_Mo_enter_47 a1 a2 a3 a4 a5 s 0
  else
    bk_Mo_enter_47 a1 a2 a3 a4 a5 s 1
def fn_Mo_enter (s : MS) (a1 : Int32) (a2 : Int32) (a3 : Int32) (a4 : Int32) (a5 : Int32) : Option (Int32 × MS) :=
  ct_ob (fn_Mo_noLine a1) fun x1 =>
  if ¬ x1 = 0 then
    bk_Mo_enter_47 a1 a2 a3 a4 a5 s 1
  else
    ct_ob (fn_Mo_noMonths a2 a3) fun x2 =>
    if ¬ x2 = 0 then
      bk_Mo_enter_47 a1 a2 a3 a4 a5 s 1
    else
      if 9999 < a4 then
        bk_Mo_enter_47 a1 a2 a3 a4 a5 s 1
      else
        if a5 = 0 then
          bk_Mo_enter_39 a1 a2 a3 a4 a5 s a4 0
        else
          bk_Mo_enter_39 a1 a2 a3 a4 a5 s a4 (-9999)
def fn_Mo_pay (s : MS) (a1 : Int32) (a2 : Int32) (a3 : Int32) (a4 : Int32) : Option (Int32 × MS) :=
  ct_ob2 (fn_Mo_enter s a1 a2 a3 a4 1) fun x1 s2 =>
  some (x1, s2)
def fn_Mo_estimate (s : MS) (a1 : Int32) (a2 : Int32) (a3 : Int32) (a4 : Int32) : Option (Int32 × MS) :=
  ct_ob2 (fn_Mo_enter s a1 a2 a3 a4 0) fun x1 s2 =>
  some (x1, s2)
def fn_Mo_noEntry (s : MS) (a1 : Int32) : Option Int32 :=
  if a1 < 0 then
    some 1
  else
    if a1 < (ms_I s 1) then
      some 0
    else
      some 1
def bk_Mo_strike_27 (a1 : Int32) (s : MS) (t1 : Int32) : Option (Int32 × MS) :=
  ct_nm (ms_I' s 0 t1) fun s2 =>
  if (ms_I s2 0) = 0 then
    ct_gd (ct_inR a1 60) <|
    ct_nm (ms_A' s2 5 a1.toNatClampNeg (vp_nar .boolean 1)) fun s3 =>
    ct_gd (ct_inR a1 60) <|
    some (ms_A s3 3 a1.toNatClampNeg, s3)
  else
    some (0, s2)
def fn_Mo_strike (s : MS) (a1 : Int32) : Option (Int32 × MS) :=
  ct_ob (fn_Mo_noEntry s a1) fun x1 =>
  if x1 = 0 then
    ct_gd (ct_inR a1 60) <|
    if (ms_A s 5 a1.toNatClampNeg) = 0 then
      bk_Mo_strike_27 a1 s 0
    else
      bk_Mo_strike_27 a1 s 2
  else
    bk_Mo_strike_27 a1 s 1
def bk_Mo_move_36 (a1 : Int32) (a2 : Int32) (a3 : Int32) (s : MS) (t1 : Int32) : Option MS :=
  ct_nm (ms_I' s 0 t1) fun s3 =>
  if ¬ (ms_I s3 0) = 0 then
    some s3
  else
    ct_gd (ct_inR a1 60) <|
    ct_nm (ms_A' s3 1 a1.toNatClampNeg a2) fun s4 =>
    ct_gd (ct_inR a1 60) <|
    ct_nm (ms_A' s4 2 a1.toNatClampNeg a3) fun s5 =>
    some s5
def fn_Mo_move (s : MS) (a1 : Int32) (a2 : Int32) (a3 : Int32) : Option MS :=
  ct_ob (fn_Mo_noEntry s a1) fun x1 =>
  if ¬ x1 = 0 then
    bk_Mo_move_36 a1 a2 a3 s 1
  else
    ct_ob (fn_Mo_noMonths a2 a3) fun x2 =>
    if x2 = 0 then
      ct_gd (ct_inR a1 60) <|
      if (ms_A s 5 a1.toNatClampNeg) = 0 then
        bk_Mo_move_36 a1 a2 a3 s 0
      else
        bk_Mo_move_36 a1 a2 a3 s 2
    else
      bk_Mo_move_36 a1 a2 a3 s 1
def bk_Mo_premium_35 (a1 : Int32) (a2 : Int32) (a3 : Int32) (s : MS) (t1 : Int32) : Option MS :=
  ct_nm (ms_I' s 0 t1) fun s2 =>
  if ¬ (ms_I s2 0) = 0 then
    some s2
  else
    ct_gd (ct_inR ((72 * a1) + a2) 144) <|
    ct_nm (ms_A' s2 6 ((72 * a1) + a2).toNatClampNeg a3) fun s3 =>
    some s3
def fn_Mo_premium (s : MS) (a1 : Int32) (a2 : Int32) (a3 : Int32) : Option MS :=
  ct_ob (fn_Mo_noLine a1) fun x1 =>
  if ¬ x1 = 0 then
    bk_Mo_premium_35 a1 a2 a3 s 1
  else
    if a2 < 0 then
      bk_Mo_premium_35 a1 a2 a3 s 1
    else
      if 71 < a2 then
        bk_Mo_premium_35 a1 a2 a3 s 1
      else
        if a3 < 0 then
          bk_Mo_premium_35 a1 a2 a3 s 1
        else
          if a3 ≤ 9999 then
            bk_Mo_premium_35 a1 a2 a3 s 0
          else
            bk_Mo_premium_35 a1 a2 a3 s 1
def bk_Mo_divisor_6_o (a1 : Int64) (a2 : Int64) (k6 : Int64 → Int64 → Option Int64) (v5 : Int64) (v7 : Int64) : Option Int64 :=
  if (lg_cmp v7 0) = 0 then
    some v5
  else
    ct_gd (ct_gzL v7) <|
    ct_nm (v5 - v5 / v7 * v7) fun x1 =>
    k6 v7 x1
def bk_Mo_divisor_6 (a1 : Int64) (a2 : Int64) : Nat → Int64 → Int64 → Option Int64
  | 0 => fun _ _ => none
  | n + 1 => bk_Mo_divisor_6_o a1 a2 (bk_Mo_divisor_6 a1 a2 n)
def fn_Mo_divisor (a1 : Int64) (a2 : Int64) : Option Int64 :=
  bk_Mo_divisor_6 a1 a2 200 a1 a2
def bk_Mo_ratio_58 (a1 : Int32) (a2 : Int32) (a3 : Int32) (s : MS) (t0 : Int32) : Option MS :=
  ct_ob (fn_Mo_divisor a2.toInt64 a3.toInt64) fun x2 =>
  ct_gd (ct_gzL x2) <|
  ct_gd (ct_inR t0 3) <|
  ct_nm (ms_B' s 0 t0.toNatClampNeg (a2.toInt64 / x2)) fun s3 =>
  ct_gd (ct_gzL x2) <|
  ct_gd (ct_inR t0 3) <|
  ct_nm (ms_B' s3 1 t0.toNatClampNeg (a3.toInt64 / x2)) fun s4 =>
  some s4
def bk_Mo_ratio_39 (a1 : Int32) (a2 : Int32) (a3 : Int32) (s : MS) (t1 : Int32) : Option MS :=
  ct_nm (ms_I' s 0 t1) fun s1 =>
  if ¬ (ms_I s1 0) = 0 then
    some s1
  else
    if 0 ≤ a1 then
      bk_Mo_ratio_58 a1 a2 a3 s1 a1
    else
      bk_Mo_ratio_58 a1 a2 a3 s1 2
def fn_Mo_ratio (s : MS) (a1 : Int32) (a2 : Int32) (a3 : Int32) : Option MS :=
  if a1 < (-1) then
    bk_Mo_ratio_39 a1 a2 a3 s 1
  else
    if 1 < a1 then
      bk_Mo_ratio_39 a1 a2 a3 s 1
    else
      if a2 < 0 then
        bk_Mo_ratio_39 a1 a2 a3 s 1
      else
        if 9999 < a2 then
          bk_Mo_ratio_39 a1 a2 a3 s 1
        else
          if a3 < 1 then
            bk_Mo_ratio_39 a1 a2 a3 s 1
          else
            if a3 ≤ 9999 then
              bk_Mo_ratio_39 a1 a2 a3 s 0
            else
              bk_Mo_ratio_39 a1 a2 a3 s 1
def bk_Mo_build_78_o (a1 : Int32) (a2 : Int32) (a3 : Int32) (a4 : Int32) (k78 : MS → Int32 → Option MS) (s : MS) (v5 : Int32) : Option MS :=
  if 36 ≤ v5 then
    some s
  else
    ct_gd (ct_inR v5 36) <|
    ct_nm (ms_A' s 7 v5.toNatClampNeg (vp_nar .boolean 0)) fun s8 =>
    k78 s8 (v5 + 1)
def bk_Mo_build_78 (a1 : Int32) (a2 : Int32) (a3 : Int32) (a4 : Int32) : Nat → MS → Int32 → Option MS
  | 0 => fun _ _ => none
  | n + 1 => bk_Mo_build_78_o a1 a2 a3 a4 (bk_Mo_build_78 a1 a2 a3 a4 n)
def bk_Mo_build_38 (a1 : Int32) (a2 : Int32) (a3 : Int32) (a4 : Int32) (s : MS) (t1 : Int32) : Option MS :=
  ct_nm (ms_I' s 0 t1) fun s2 =>
  if (ms_I s2 0) = 0 then
    ct_nm (ms_I' s2 2 a1) fun s3 =>
    ct_nm (ms_I' s3 3 a2) fun s4 =>
    ct_gd (ct_isB a3) <|
    ct_nm (ms_I' s4 4 a3) fun s5 =>
    ct_nm (ms_I' s5 5 a4) fun s6 =>
    ct_nm (ms_I' s6 6 0) fun s7 =>
    bk_Mo_build_78 a1 a2 a3 a4 200 s7 0
  else
    some s2
def fn_Mo_build (s : MS) (a1 : Int32) (a2 : Int32) (a3 : Int32) (a4 : Int32) : Option MS :=
  ct_ob (fn_Mo_noLine a1) fun x1 =>
  if ¬ x1 = 0 then
    bk_Mo_build_38 a1 a2 a3 a4 s 1
  else
    if a2 < 1 then
      bk_Mo_build_38 a1 a2 a3 a4 s 1
    else
      if 12 < a2 then
        bk_Mo_build_38 a1 a2 a3 a4 s 1
      else
        if a4 < 1 then
          bk_Mo_build_38 a1 a2 a3 a4 s 1
        else
          if a4 ≤ 6 then
            bk_Mo_build_38 a1 a2 a3 a4 s 0
          else
            bk_Mo_build_38 a1 a2 a3 a4 s 1
def bk_Mo_estimateOf_108 (a1 : Int32) (a2 : Int32) (k5 : MS → Int32 → Int32 → Option Int32) (s : MS) (t0 : Int32) (v4 : Int32) : Option Int32 :=
  k5 s t0 (v4 + 1)
def bk_Mo_estimateOf_75 (a1 : Int32) (a2 : Int32) (k5 : MS → Int32 → Int32 → Option Int32) (s : MS) (t0 : Int32) (v3 : Int32) (v4 : Int32) : Option Int32 :=
  if t0 = 0 then
    bk_Mo_estimateOf_108 a1 a2 k5 s v3 v4
  else
    if v3 < 0 then
      bk_Mo_estimateOf_108 a1 a2 k5 s v4 v4
    else
      ct_gd (ct_inR v4 60) <|
      ct_gd (ct_inR v3 60) <|
      if (ms_A s 2 v4.toNatClampNeg) < (ms_A s 2 v3.toNatClampNeg) then
        bk_Mo_estimateOf_108 a1 a2 k5 s v3 v4
      else
        bk_Mo_estimateOf_108 a1 a2 k5 s v4 v4
def bk_Mo_estimateOf_5_o (a1 : Int32) (a2 : Int32) (k5 : MS → Int32 → Int32 → Option Int32) (s : MS) (v3 : Int32) (v4 : Int32) : Option Int32 :=
  if (ms_I s 1) ≤ v4 then
    if 0 ≤ v3 then
      ct_gd (ct_inR v3 60) <|
      some (ms_A s 3 v3.toNatClampNeg)
    else
      some 0
  else
    ct_gd (ct_inR v4 60) <|
    if ¬ (ms_A s 4 v4.toNatClampNeg) = 0 then
      bk_Mo_estimateOf_75 a1 a2 k5 s 0 v3 v4
    else
      ct_gd (ct_inR v4 60) <|
      if ¬ (ms_A s 5 v4.toNatClampNeg) = 0 then
        bk_Mo_estimateOf_75 a1 a2 k5 s 0 v3 v4
      else
        ct_gd (ct_inR v4 60) <|
        if ¬ (ms_A s 0 v4.toNatClampNeg) = (ms_I s 2) then
          bk_Mo_estimateOf_75 a1 a2 k5 s 0 v3 v4
        else
          ct_gd (ct_inR v4 60) <|
          if ¬ (ms_A s 1 v4.toNatClampNeg) = a1 then
            bk_Mo_estimateOf_75 a1 a2 k5 s 0 v3 v4
          else
            ct_gd (ct_inR v4 60) <|
            if a2 ≤ (ms_A s 2 v4.toNatClampNeg) then
              bk_Mo_estimateOf_75 a1 a2 k5 s 0 v3 v4
            else
              bk_Mo_estimateOf_75 a1 a2 k5 s 1 v3 v4
def bk_Mo_estimateOf_5 (a1 : Int32) (a2 : Int32) : Nat → MS → Int32 → Int32 → Option Int32
  | 0 => fun _ _ _ => none
  | n + 1 => bk_Mo_estimateOf_5_o a1 a2 (bk_Mo_estimateOf_5 a1 a2 n)
def fn_Mo_estimateOf (s : MS) (a1 : Int32) (a2 : Int32) : Option Int32 :=
  bk_Mo_estimateOf_5 a1 a2 200 s (-1) 0
def bk_Mo_sumOf_129_o (a1 : Int32) (a2 : Int32) (k129 : MS → Int32 → Int32 → Int32 → Option Int32) (s : MS) (v3 : Int32) (v4 : Int32) (v5 : Int32) : Option Int32 :=
  if ((a1 * (ms_I s 3)) + (ms_I s 3)) ≤ v5 then
    some v4
  else
    if (ms_I s 4) = 0 then
      some v4
    else
      ct_ob (fn_Mo_estimateOf s v5 v3) fun x4 =>
      ct_nm (v4 + x4) fun x5 =>
      k129 s v3 x5 (v5 + 1)
def bk_Mo_sumOf_129 (a1 : Int32) (a2 : Int32) : Nat → MS → Int32 → Int32 → Int32 → Option Int32
  | 0 => fun _ _ _ _ => none
  | n + 1 => bk_Mo_sumOf_129_o a1 a2 (bk_Mo_sumOf_129 a1 a2 n)
def bk_Mo_sumOf_112 (a1 : Int32) (a2 : Int32) (k17 : MS → Int32 → Int32 → Int32 → Option Int32) (s : MS) (t0 : Int32) (t1 : Int32) (v3 : Int32) (v5 : Int32) : Option Int32 :=
  ct_nm (t0 + t1) fun x3 =>
  k17 s v3 x3 (v5 + 1)
def bk_Mo_sumOf_92 (a1 : Int32) (a2 : Int32) (k17 : MS → Int32 → Int32 → Int32 → Option Int32) (s : MS) (t0 : Int32) (v3 : Int32) (v4 : Int32) (v5 : Int32) : Option Int32 :=
  if t0 = 0 then
    bk_Mo_sumOf_112 a1 a2 k17 s v4 0 v3 v5
  else
    ct_gd (ct_inR v5 60) <|
    bk_Mo_sumOf_112 a1 a2 k17 s v4 (ms_A s 3 v5.toNatClampNeg) v3 v5
def bk_Mo_sumOf_17_o (a1 : Int32) (a2 : Int32) (k17 : MS → Int32 → Int32 → Int32 → Option Int32) (s : MS) (v3 : Int32) (v4 : Int32) (v5 : Int32) : Option Int32 :=
  if (ms_I s 1) ≤ v5 then
    ct_nm (a1 * (ms_I s 3)) fun x2 =>
    bk_Mo_sumOf_129 a1 a2 200 s v3 v4 x2
  else
    ct_gd (ct_inR v5 60) <|
    if (ms_A s 4 v5.toNatClampNeg) = 0 then
      bk_Mo_sumOf_92 a1 a2 k17 s 0 v3 v4 v5
    else
      ct_gd (ct_inR v5 60) <|
      if ¬ (ms_A s 5 v5.toNatClampNeg) = 0 then
        bk_Mo_sumOf_92 a1 a2 k17 s 0 v3 v4 v5
      else
        ct_gd (ct_inR v5 60) <|
        if ¬ (ms_A s 0 v5.toNatClampNeg) = (ms_I s 2) then
          bk_Mo_sumOf_92 a1 a2 k17 s 0 v3 v4 v5
        else
          ct_gd (ct_inR v5 60) <|
          ct_gd (ct_gzI (ms_I s 3)) <|
          if ¬ ((ms_A s 1 v5.toNatClampNeg) / (ms_I s 3)) = a1 then
            bk_Mo_sumOf_92 a1 a2 k17 s 0 v3 v4 v5
          else
            ct_gd (ct_inR v5 60) <|
            if v3 ≤ (ms_A s 2 v5.toNatClampNeg) then
              bk_Mo_sumOf_92 a1 a2 k17 s 0 v3 v4 v5
            else
              bk_Mo_sumOf_92 a1 a2 k17 s 1 v3 v4 v5
def bk_Mo_sumOf_17 (a1 : Int32) (a2 : Int32) : Nat → MS → Int32 → Int32 → Int32 → Option Int32
  | 0 => fun _ _ _ _ => none
  | n + 1 => bk_Mo_sumOf_17_o a1 a2 (bk_Mo_sumOf_17 a1 a2 n)
def fn_Mo_sumOf (s : MS) (a1 : Int32) (a2 : Int32) : Option Int32 :=
  ct_nm (((a1 + a2) + 1) * (ms_I s 3)) fun x1 =>
  bk_Mo_sumOf_17 a1 a2 200 s x1 0 0
def bk_Mo_look_12_o (k2 : MS → Int32 → Option MS) (k12 : MS → Int32 → Int32 → Option MS) (s : MS) (v1 : Int32) (v2 : Int32) : Option MS :=
  if (ms_I s 5) ≤ (v1 + v2) then
    k2 s (v1 + 1)
  else
    ct_ob (fn_Mo_sumOf s v1 v2) fun x2 =>
    ct_gd (ct_inR ((6 * v1) + v2) 36) <|
    ct_nm (ms_A' s 8 ((6 * v1) + v2).toNatClampNeg x2) fun s3 =>
    k12 s3 v1 (v2 + 1)
def bk_Mo_look_12 (k2 : MS → Int32 → Option MS) : Nat → MS → Int32 → Int32 → Option MS
  | 0 => fun _ _ _ => none
  | n + 1 => bk_Mo_look_12_o k2 (bk_Mo_look_12 k2 n)
def bk_Mo_look_2_o (k2 : MS → Int32 → Option MS) (s : MS) (v1 : Int32) : Option MS :=
  if (ms_I s 5) ≤ v1 then
    ct_nm (ms_I' s 8 0) fun s1 =>
    some s1
  else
    bk_Mo_look_12 k2 200 s v1 0
def bk_Mo_look_2 : Nat → MS → Int32 → Option MS
  | 0 => fun _ _ => none
  | n + 1 => bk_Mo_look_2_o (bk_Mo_look_2 n)
def fn_Mo_look (s : MS) : Option MS :=
  bk_Mo_look_2 200 s 0
def fn_Mo_left (s : MS) : Option Int32 :=
  some ((ms_I s 5) - (ms_I s 6))
def fn_Mo_noCell (a1 : Int32) (a2 : Int32) (a3 : Int32) : Option Int32 :=
  if a1 < 0 then
    some 1
  else
    if a2 < 0 then
      some 1
    else
      if a3 ≤ a1 then
        some 1
      else
        if a3 ≤ a2 then
          some 1
        else
          if (a1 + a2) < a3 then
            some 0
          else
            some 1
def bk_Mo_cell_19 (a1 : Int32) (a2 : Int32) (s : MS) (t1 : Int32) : Option (Int32 × MS) :=
  ct_nm (ms_I' s 0 t1) fun s3 =>
  if ¬ (ms_I s3 0) = 0 then
    some (0, s3)
  else
    ct_ob (fn_Mo_sumOf s3 a1 a2) fun x4 =>
    some (x4, s3)
def fn_Mo_cell (s : MS) (a1 : Int32) (a2 : Int32) : Option (Int32 × MS) :=
  ct_ob (fn_Mo_left s) fun x1 =>
  ct_ob (fn_Mo_noCell a1 a2 x1) fun x2 =>
  if x2 = 0 then
    bk_Mo_cell_19 a1 a2 s 0
  else
    bk_Mo_cell_19 a1 a2 s 1
def bk_Mo_leave_73 (a1 : Int32) (a2 : Int32) (a3 : Int32) (k49 : MS → Int32 → Int32 → Option (Int32 × MS)) (s : MS) (t0 : Int32) (t1 : Int32) (v5 : Int32) : Option (Int32 × MS) :=
  ct_nm (t0 + t1) fun x4 =>
  k49 s x4 (v5 + 1)
def bk_Mo_leave_49_o (a1 : Int32) (a2 : Int32) (a3 : Int32) (k49 : MS → Int32 → Int32 → Option (Int32 × MS)) (s : MS) (v4 : Int32) (v5 : Int32) : Option (Int32 × MS) :=
  if 36 ≤ v5 then
    some (v4, s)
  else
    ct_gd (ct_inR v5 36) <|
    if (ms_A s 7 v5.toNatClampNeg) = 0 then
      bk_Mo_leave_73 a1 a2 a3 k49 s v4 0 v5
    else
      bk_Mo_leave_73 a1 a2 a3 k49 s v4 1 v5
def bk_Mo_leave_49 (a1 : Int32) (a2 : Int32) (a3 : Int32) : Nat → MS → Int32 → Int32 → Option (Int32 × MS)
  | 0 => fun _ _ _ => none
  | n + 1 => bk_Mo_leave_49_o a1 a2 a3 (bk_Mo_leave_49 a1 a2 a3 n)
def bk_Mo_leave_19 (a1 : Int32) (a2 : Int32) (a3 : Int32) (s : MS) (t1 : Int32) : Option (Int32 × MS) :=
  ct_nm (ms_I' s 0 t1) fun s2 =>
  if (ms_I s2 0) = 0 then
    ct_gd (ct_inR ((6 * a1) + a2) 36) <|
    ct_nm (ms_A' s2 7 ((6 * a1) + a2).toNatClampNeg (vp_nar .boolean a3)) fun s3 =>
    bk_Mo_leave_49 a1 a2 a3 200 s3 0 0
  else
    some (0, s2)
def fn_Mo_leave (s : MS) (a1 : Int32) (a2 : Int32) (a3 : Int32) : Option (Int32 × MS) :=
  ct_ob (fn_Mo_noCell a1 a2 (ms_I s 5)) fun x1 =>
  if x1 = 0 then
    bk_Mo_leave_19 a1 a2 a3 s 0
  else
    bk_Mo_leave_19 a1 a2 a3 s 1
def bk_Mo_latest_17 (a1 : Int32) (s : MS) (t1 : Int32) : Option MS :=
  ct_nm (ms_I' s 0 t1) fun s1 =>
  if ¬ (ms_I s1 0) = 0 then
    some s1
  else
    ct_nm (ms_I' s1 7 a1) fun s2 =>
    some s2
def fn_Mo_latest (s : MS) (a1 : Int32) : Option MS :=
  if a1 < 1 then
    bk_Mo_latest_17 a1 s 1
  else
    if a1 ≤ 6 then
      bk_Mo_latest_17 a1 s 0
    else
      bk_Mo_latest_17 a1 s 1
def bk_Mo_hide_18 (a1 : Int32) (s : MS) (t1 : Int32) : Option (Int32 × MS) :=
  ct_nm (ms_I' s 0 t1) fun s1 =>
  if (ms_I s1 0) = 0 then
    ct_nm (ms_I' s1 6 a1) fun s2 =>
    ct_ob (fn_Mo_left s2) fun x3 =>
    some (x3, s2)
  else
    some (0, s1)
def fn_Mo_hide (s : MS) (a1 : Int32) : Option (Int32 × MS) :=
  if a1 < 0 then
    bk_Mo_hide_18 a1 s 1
  else
    if a1 < (ms_I s 5) then
      bk_Mo_hide_18 a1 s 0
    else
      bk_Mo_hide_18 a1 s 1
def fn_Mo_size (a1 : Int64) : Option Int64 :=
  if 0 ≤ (lg_cmp a1 0) then
    some a1
  else
    some (-a1)
def fn_Mo_isShort (a1 : Int64) (a2 : Int64) : Option Int32 :=
  if (lg_cmp a1 0) = 0 then
    some 1
  else
    if (lg_cmp a2 0) = 0 then
      some 1
    else
      ct_ob (fn_Mo_size a1) fun x1 =>
      ct_ob (fn_Mo_size a2) fun x2 =>
      ct_gd (ct_gzL x2) <|
      if 0 < (lg_cmp x1 (4611686018427387904 / x2)) then
        some 0
      else
        some 1
def fn_Mo_set (s : MS) (a1 : Int64) (a2 : Int64) : Option MS :=
  ct_nm (ms_L' s 0 a1) fun s1 =>
  ct_nm (ms_L' s1 1 a2) fun s2 =>
  some s2
def bk_Mo_times_88 (a1 : Int64) (a2 : Int64) (s : MS) (t1 : Int32) (v5 : Int64) (v7 : Int64) (v9 : Int64) (v11 : Int64) : Option MS :=
  ct_gd (ct_isB t1) <|
  ct_nm (ms_I' s 8 t1) fun s9 =>
  if ¬ (ms_I s9 8) = 0 then
    some s9
  else
    ct_gd (ct_gzL v7) <|
    ct_gd (ct_gzL v5) <|
    ct_ob (fn_Mo_set s9 (v9 * (a1 / v7)) (v11 * (a2 / v5))) fun s10 =>
    some s10
def fn_Mo_times (s : MS) (a1 : Int64) (a2 : Int64) : Option MS :=
  if (ms_I s 8) = 0 then
    ct_ob (fn_Mo_size (ms_L s 0)) fun x1 =>
    ct_ob (fn_Mo_divisor x1 a2) fun x2 =>
    ct_ob (fn_Mo_size a1) fun x3 =>
    ct_ob (fn_Mo_divisor x3 (ms_L s 1)) fun x4 =>
    ct_gd (ct_gzL x2) <|
    ct_nm ((ms_L s 0) / x2) fun x5 =>
    ct_gd (ct_gzL x4) <|
    ct_nm ((ms_L s 1) / x4) fun x6 =>
    ct_gd (ct_gzL x4) <|
    ct_ob (fn_Mo_isShort x5 (a1 / x4)) fun x7 =>
    if x7 = 0 then
      bk_Mo_times_88 a1 a2 s 1 x2 x4 x5 x6
    else
      ct_gd (ct_gzL x2) <|
      ct_ob (fn_Mo_isShort x6 (a2 / x2)) fun x8 =>
      if ¬ x8 = 0 then
        bk_Mo_times_88 a1 a2 s 0 x2 x4 x5 x6
      else
        bk_Mo_times_88 a1 a2 s 1 x2 x4 x5 x6
  else
    some s
def bk_Mo_plus_171 (a1 : Int64) (a2 : Int64) (s : MS) (t1 : Int32) (v7 : Int64) (v9 : Int64) (v11 : Int64) : Option MS :=
  ct_gd (ct_isB t1) <|
  ct_nm (ms_I' s 8 t1) fun s11 =>
  if ¬ (ms_I s11 8) = 0 then
    some s11
  else
    ct_ob (fn_Mo_size (v9 + v11)) fun x12 =>
    ct_ob (fn_Mo_divisor x12 v7) fun x13 =>
    ct_gd (ct_gzL x13) <|
    ct_gd (ct_gzL x13) <|
    ct_ob (fn_Mo_set s11 ((v9 + v11) / x13) (v7 / x13)) fun s14 =>
    some s14
def bk_Mo_plus_93 (a1 : Int64) (a2 : Int64) (s : MS) (t1 : Int32) (v7 : Int64) : Option MS :=
  ct_gd (ct_isB t1) <|
  ct_nm (ms_I' s 8 t1) fun s8 =>
  if (ms_I s8 8) = 0 then
    ct_gd (ct_gzL (ms_L s8 1)) <|
    ct_nm ((ms_L s8 0) * (v7 / (ms_L s8 1))) fun x9 =>
    ct_gd (ct_gzL a2) <|
    ct_nm (a1 * (v7 / a2)) fun x10 =>
    if (lg_cmp x10 0) ≤ 0 then
      if 0 ≤ (lg_cmp x9 ((-4611686018427387904) - x10)) then
        bk_Mo_plus_171 a1 a2 s8 0 v7 x9 x10
      else
        bk_Mo_plus_171 a1 a2 s8 1 v7 x9 x10
    else
      if (lg_cmp x9 (4611686018427387904 - x10)) ≤ 0 then
        bk_Mo_plus_171 a1 a2 s8 0 v7 x9 x10
      else
        bk_Mo_plus_171 a1 a2 s8 1 v7 x9 x10
  else
    some s8
def bk_Mo_plus_40 (a1 : Int64) (a2 : Int64) (s : MS) (t1 : Int32) (v5 : Int64) : Option MS :=
  ct_gd (ct_isB t1) <|
  ct_nm (ms_I' s 8 t1) fun s4 =>
  if (ms_I s4 8) = 0 then
    ct_nm (v5 * a2) fun x5 =>
    ct_gd (ct_gzL (ms_L s4 1)) <|
    ct_ob (fn_Mo_isShort (ms_L s4 0) (x5 / (ms_L s4 1))) fun x6 =>
    if x6 = 0 then
      bk_Mo_plus_93 a1 a2 s4 1 x5
    else
      ct_gd (ct_gzL a2) <|
      ct_ob (fn_Mo_isShort a1 (x5 / a2)) fun x7 =>
      if ¬ x7 = 0 then
        bk_Mo_plus_93 a1 a2 s4 0 x5
      else
        bk_Mo_plus_93 a1 a2 s4 1 x5
  else
    some s4
def fn_Mo_plus (s : MS) (a1 : Int64) (a2 : Int64) : Option MS :=
  if (ms_I s 8) = 0 then
    ct_ob (fn_Mo_divisor (ms_L s 1) a2) fun x1 =>
    ct_gd (ct_gzL x1) <|
    ct_nm ((ms_L s 1) / x1) fun x2 =>
    ct_ob (fn_Mo_isShort x2 a2) fun x3 =>
    if ¬ x3 = 0 then
      bk_Mo_plus_40 a1 a2 s 0 x2
    else
      bk_Mo_plus_40 a1 a2 s 1 x2
  else
    some s
def bk_Mo_turn_29 (s : MS) (t1 : Int64) : Option MS :=
  ct_ob (fn_Mo_size (ms_L s 0)) fun x1 =>
  ct_ob (fn_Mo_set s t1 x1) fun s2 =>
  some s2
def fn_Mo_turn (s : MS) : Option MS :=
  if ¬ (ms_I s 8) = 0 then
    some s
  else
    if 0 ≤ (lg_cmp (ms_L s 0) 0) then
      bk_Mo_turn_29 s (ms_L s 1)
    else
      bk_Mo_turn_29 s (-(ms_L s 1))
def fn_Mo_takes (s : MS) (a1 : Int32) (a2 : Int32) (a3 : Int32) : Option Int32 :=
  if a3 ≤ ((a1 + a2) + 1) then
    some 0
  else
    ct_gd (ct_inR ((6 * a1) + a2) 36) <|
    if ¬ (ms_A s 7 ((6 * a1) + a2).toNatClampNeg) = 0 then
      some 0
    else
      ct_gd (ct_inR (((6 * a1) + a2) + 1) 36) <|
      if ¬ (ms_A s 7 (((6 * a1) + a2) + 1).toNatClampNeg) = 0 then
        some 0
      else
        some 1
def bk_Mo_find_147 (a1 : Int32) (a2 : Int32) (s : MS) (t1 : Int64) (v6 : Int64) (v9 : Int64) : Option (Int32 × MS) :=
  ct_nm (ms_L' s 4 t1) fun s9 =>
  ct_ob (fn_Mo_size v6) fun x10 =>
  ct_gd (ct_gzL v9) <|
  ct_nm (ms_L' s9 5 (x10 / v9)) fun s11 =>
  some (1, s11)
def bk_Mo_find_92 (a1 : Int32) (a2 : Int32) (k21 : MS → Int32 → Int64 → Int64 → Int32 → Int32 → Option (Int32 × MS)) (s : MS) (v3 : Int32) (v4 : Int64) (v6 : Int64) (v8 : Int32) (v9 : Int32) : Option (Int32 × MS) :=
  k21 s v3 v4 v6 v8 (v9 + (-1))
def bk_Mo_find_51 (a1 : Int32) (a2 : Int32) (k21 : MS → Int32 → Int64 → Int64 → Int32 → Int32 → Option (Int32 × MS)) (s : MS) (v3 : Int32) (v4 : Int64) (v6 : Int64) (v8 : Int32) (v9 : Int32) : Option (Int32 × MS) :=
  ct_gd (ct_inR (((6 * v9) + a2) + 1) 36) <|
  ct_nm (v4 + ((ms_A s 8 (((6 * v9) + a2) + 1).toNatClampNeg).toInt64)) fun x7 =>
  ct_gd (ct_inR ((6 * v9) + a2) 36) <|
  ct_nm (v6 + ((ms_A s 8 ((6 * v9) + a2).toNatClampNeg).toInt64)) fun x8 =>
  bk_Mo_find_92 a1 a2 k21 s v3 x7 x8 (v8 + 1) v9
def bk_Mo_find_21_o (a1 : Int32) (a2 : Int32) (k21 : MS → Int32 → Int64 → Int64 → Int32 → Int32 → Option (Int32 × MS)) (s : MS) (v3 : Int32) (v4 : Int64) (v6 : Int64) (v8 : Int32) (v9 : Int32) : Option (Int32 × MS) :=
  if v9 < 0 then
    if ¬ (lg_cmp v6 0) = 0 then
      ct_ob (fn_Mo_size v4) fun x3 =>
      ct_ob (fn_Mo_size v6) fun x4 =>
      ct_ob (fn_Mo_divisor x3 x4) fun x5 =>
      if 0 ≤ (lg_cmp v6 0) then
        ct_gd (ct_gzL x5) <|
        bk_Mo_find_147 a1 a2 s (v4 / x5) v6 x5
      else
        ct_gd (ct_gzL x5) <|
        bk_Mo_find_147 a1 a2 s ((-v4) / x5) v6 x5
    else
      some (0, s)
  else
    ct_ob (fn_Mo_takes s v9 a2 v3) fun x6 =>
    if x6 = 0 then
      bk_Mo_find_92 a1 a2 k21 s v3 v4 v6 v8 v9
    else
      if ¬ a1 = 1 then
        bk_Mo_find_51 a1 a2 k21 s v3 v4 v6 v8 v9
      else
        if (ms_I s 7) ≤ v8 then
          bk_Mo_find_92 a1 a2 k21 s v3 v4 v6 v8 v9
        else
          bk_Mo_find_51 a1 a2 k21 s v3 v4 v6 v8 v9
def bk_Mo_find_21 (a1 : Int32) (a2 : Int32) : Nat → MS → Int32 → Int64 → Int64 → Int32 → Int32 → Option (Int32 × MS)
  | 0 => fun _ _ _ _ _ _ => none
  | n + 1 => bk_Mo_find_21_o a1 a2 (bk_Mo_find_21 a1 a2 n)
def fn_Mo_find (s : MS) (a1 : Int32) (a2 : Int32) : Option (Int32 × MS) :=
  ct_ob (fn_Mo_left s) fun x1 =>
  ct_nm ((x1 - 2) - a2) fun x2 =>
  bk_Mo_find_21 a1 a2 200 s x1 0 0 0 x2
def bk_Mo_areDefined_32 (a1 : Int32) (a2 : Int32) (a3 : Int32) (k6 : MS → Int32 → Int32 → Option (Int32 × MS)) (s : MS) (t0 : Int32) (v5 : Int32) : Option (Int32 × MS) :=
  k6 s t0 (v5 + 1)
def bk_Mo_areDefined_6_o (a1 : Int32) (a2 : Int32) (a3 : Int32) (k6 : MS → Int32 → Int32 → Option (Int32 × MS)) (s : MS) (v4 : Int32) (v5 : Int32) : Option (Int32 × MS) :=
  if a3 < v5 then
    ct_gd (ct_isB v4) <|
    some (v4, s)
  else
    if v4 = 0 then
      bk_Mo_areDefined_32 a1 a2 a3 k6 s 0 v5
    else
      ct_ob2 (fn_Mo_find s a1 v5) fun x1 s2 =>
      if x1 = 0 then
        bk_Mo_areDefined_32 a1 a2 a3 k6 s2 0 v5
      else
        bk_Mo_areDefined_32 a1 a2 a3 k6 s2 1 v5
def bk_Mo_areDefined_6 (a1 : Int32) (a2 : Int32) (a3 : Int32) : Nat → MS → Int32 → Int32 → Option (Int32 × MS)
  | 0 => fun _ _ _ => none
  | n + 1 => bk_Mo_areDefined_6_o a1 a2 a3 (bk_Mo_areDefined_6 a1 a2 a3 n)
def fn_Mo_areDefined (s : MS) (a1 : Int32) (a2 : Int32) (a3 : Int32) : Option (Int32 × MS) :=
  bk_Mo_areDefined_6 a1 a2 a3 200 s 1 a2
def bk_Mo_way_37 (a1 : Int32) (a2 : Int32) (a3 : Int32) (k9 : MS → Int32 → Option MS) (s : MS) (v4 : Int32) : Option MS :=
  k9 s (v4 + 1)
def bk_Mo_way_9_o (a1 : Int32) (a2 : Int32) (a3 : Int32) (k9 : MS → Int32 → Option MS) (s : MS) (v4 : Int32) : Option MS :=
  if a3 < v4 then
    some s
  else
    ct_ob2 (fn_Mo_find s a1 v4) fun x2 s3 =>
    if x2 = 0 then
      bk_Mo_way_37 a1 a2 a3 k9 s3 v4
    else
      ct_ob (fn_Mo_times s3 (ms_L s3 4) (ms_L s3 5)) fun s4 =>
      bk_Mo_way_37 a1 a2 a3 k9 s4 v4
def bk_Mo_way_9 (a1 : Int32) (a2 : Int32) (a3 : Int32) : Nat → MS → Int32 → Option MS
  | 0 => fun _ _ => none
  | n + 1 => bk_Mo_way_9_o a1 a2 a3 (bk_Mo_way_9 a1 a2 a3 n)
def fn_Mo_way (s : MS) (a1 : Int32) (a2 : Int32) (a3 : Int32) : Option MS :=
  ct_ob (fn_Mo_set s 1 1) fun s1 =>
  bk_Mo_way_9 a1 a2 a3 200 s1 a2
def fn_Mo_answer (s : MS) : Option Int32 :=
  if (ms_I s 8) = 0 then
    some 0
  else
    some 3
def fn_Mo_latestOf (s : MS) (a1 : Int32) : Option Int32 :=
  ct_ob (fn_Mo_left s) fun x1 =>
  ct_gd (ct_inR ((((6 * a1) + x1) - 1) - a1) 36) <|
  some (ms_A s 8 ((((6 * a1) + x1) - 1) - a1).toNatClampNeg)
def bk_Mo_expect_58 (a1 : Int32) (s : MS) (v2 : Int64) : Option MS :=
  ct_ob (fn_Mo_set s v2 1) fun s3 =>
  ct_gd (ct_inR (ms_I s3 2) 3) <|
  ct_gd (ct_inR (ms_I s3 2) 3) <|
  ct_ob (fn_Mo_times s3 (ms_B s3 0 (ms_I s3 2).toNatClampNeg) (ms_B s3 1 (ms_I s3 2).toNatClampNeg)) fun s4 =>
  ct_nm (ms_L' s4 2 (ms_L s4 0)) fun s5 =>
  ct_nm (ms_L' s5 3 (ms_L s5 1)) fun s6 =>
  some s6
def bk_Mo_expect_10_o (a1 : Int32) (k10 : MS → Int64 → Int32 → Option MS) (s : MS) (v2 : Int64) (v4 : Int32) : Option MS :=
  if ((a1 * (ms_I s 3)) + (ms_I s 3)) ≤ v4 then
    bk_Mo_expect_58 a1 s v2
  else
    if 72 ≤ v4 then
      bk_Mo_expect_58 a1 s v2
    else
      ct_gd (ct_inR ((72 * (ms_I s 2)) + v4) 144) <|
      ct_nm (v2 + ((ms_A s 6 ((72 * (ms_I s 2)) + v4).toNatClampNeg).toInt64)) fun x2 =>
      k10 s x2 (v4 + 1)
def bk_Mo_expect_10 (a1 : Int32) : Nat → MS → Int64 → Int32 → Option MS
  | 0 => fun _ _ _ => none
  | n + 1 => bk_Mo_expect_10_o a1 (bk_Mo_expect_10 a1 n)
def fn_Mo_expect (s : MS) (a1 : Int32) : Option MS :=
  ct_nm (a1 * (ms_I s 3)) fun x1 =>
  bk_Mo_expect_10 a1 200 s 0 x1
def bk_Mo_work_135 (a1 : Int32) (a2 : Int32) (s : MS) : Option (Int32 × MS) :=
  ct_ob (fn_Mo_turn s) fun s13 =>
  ct_nm (ms_L' s13 0 (-(ms_L s13 0))) fun s14 =>
  ct_ob (fn_Mo_plus s14 1 1) fun s15 =>
  ct_ob (fn_Mo_times s15 (ms_L s15 2) (ms_L s15 3)) fun s16 =>
  ct_ob (fn_Mo_latestOf s16 a2) fun x17 =>
  ct_ob (fn_Mo_plus s16 x17.toInt64 1) fun s18 =>
  ct_ob (fn_Mo_answer s18) fun x19 =>
  some (x19, s18)
def bk_Mo_work_66 (a1 : Int32) (a2 : Int32) (s : MS) (v3 : Int32) (v4 : Int32) : Option (Int32 × MS) :=
  ct_ob (fn_Mo_way s v4 ((v3 - 1) - a2) (v3 - 2)) fun s8 =>
  ct_gd (ct_inR 2 3) <|
  ct_gd (ct_inR 2 3) <|
  ct_ob (fn_Mo_times s8 (ms_B s8 0 (2 : Int32).toNatClampNeg) (ms_B s8 1 (2 : Int32).toNatClampNeg)) fun s9 =>
  if a1 = 3 then
    if ¬ (ms_I s9 8) = 0 then
      bk_Mo_work_135 a1 a2 s9
    else
      if ¬ (lg_cmp (ms_L s9 0) 0) = 0 then
        bk_Mo_work_135 a1 a2 s9
      else
        some (2, s9)
  else
    ct_ob (fn_Mo_latestOf s9 a2) fun x10 =>
    ct_ob (fn_Mo_times s9 x10.toInt64 1) fun s11 =>
    ct_ob (fn_Mo_answer s11) fun x12 =>
    some (x12, s11)
def bk_Mo_work_35 (a1 : Int32) (a2 : Int32) (s : MS) (t0 : Int32) (v3 : Int32) : Option (Int32 × MS) :=
  ct_ob2 (fn_Mo_areDefined s t0 ((v3 - 1) - a2) (v3 - 2)) fun x5 s6 =>
  if ¬ x5 = 0 then
    if ¬ a1 = 3 then
      bk_Mo_work_66 a1 a2 s6 v3 t0
    else
      ct_ob (fn_Mo_expect s6 a2) fun s7 =>
      bk_Mo_work_66 a1 a2 s7 v3 t0
  else
    some (2, s6)
def fn_Mo_work (s : MS) (a1 : Int32) (a2 : Int32) : Option (Int32 × MS) :=
  ct_ob (fn_Mo_left s) fun x1 =>
  ct_nm (ms_I' s 8 0) fun s2 =>
  if ¬ a1 = 2 then
    if ¬ a1 = 1 then
      bk_Mo_work_35 a1 a2 s2 0 x1
    else
      bk_Mo_work_35 a1 a2 s2 1 x1
  else
    ct_ob (fn_Mo_expect s2 a2) fun s3 =>
    ct_ob (fn_Mo_answer s3) fun x4 =>
    some (x4, s3)
def fn_Mo_workReserve (s : MS) (a1 : Int32) (a2 : Int32) : Option (Int32 × MS) :=
  ct_ob2 (fn_Mo_work s a1 a2) fun x1 s2 =>
  if x1 = 0 then
    ct_ob (fn_Mo_latestOf s2 a2) fun x3 =>
    ct_ob (fn_Mo_plus s2 ((-x3).toInt64) 1) fun s4 =>
    ct_ob (fn_Mo_answer s4) fun x5 =>
    some (x5, s4)
  else
    some (x1, s2)
def fn_Mo_told (s : MS) (a1 : Int32) (a2 : Int32) : Option (Int64 × MS) :=
  ct_nm (ms_I' s 0 a1) fun s1 =>
  if a1 = 0 then
    if a2 = 0 then
      some (ms_L s1 0, s1)
    else
      some (ms_L s1 1, s1)
  else
    some (0, s1)
def bk_Mo_factor_76 (a1 : Int32) (a2 : Int32) (a3 : Int32) (s : MS) (t1 : Int32) : Option (Int64 × MS) :=
  ct_ob2 (fn_Mo_told s t1 a3) fun x7 s8 =>
  some (x7, s8)
def bk_Mo_factor_29 (a1 : Int32) (a2 : Int32) (a3 : Int32) (s : MS) (t1 : Int32) : Option (Int64 × MS) :=
  ct_nm (ms_I' s 0 t1) fun s2 =>
  if (ms_I s2 0) = 0 then
    ct_ob (fn_Mo_look s2) fun s3 =>
    ct_ob2 (fn_Mo_find s3 a1 a2) fun x4 s5 =>
    ct_ob (fn_Mo_set s5 (ms_L s5 4) (ms_L s5 5)) fun s6 =>
    if x4 = 0 then
      bk_Mo_factor_76 a1 a2 a3 s6 2
    else
      bk_Mo_factor_76 a1 a2 a3 s6 0
  else
    some (0, s2)
def fn_Mo_factor (s : MS) (a1 : Int32) (a2 : Int32) (a3 : Int32) : Option (Int64 × MS) :=
  if a1 < 0 then
    bk_Mo_factor_29 a1 a2 a3 s 1
  else
    if 1 < a1 then
      bk_Mo_factor_29 a1 a2 a3 s 1
    else
      if a2 < 0 then
        bk_Mo_factor_29 a1 a2 a3 s 1
      else
        ct_ob (fn_Mo_left s) fun x1 =>
        if a2 ≤ (x1 - 2) then
          bk_Mo_factor_29 a1 a2 a3 s 0
        else
          bk_Mo_factor_29 a1 a2 a3 s 1
def fn_Mo_noRow (s : MS) (a1 : Int32) (a2 : Int32) : Option Int32 :=
  if a1 < 0 then
    some 1
  else
    if 3 < a1 then
      some 1
    else
      if a2 < 0 then
        some 1
      else
        ct_ob (fn_Mo_left s) fun x1 =>
        if a2 < x1 then
          some 0
        else
          some 1
def bk_Mo_ultimate_15 (a1 : Int32) (a2 : Int32) (a3 : Int32) (s : MS) (t1 : Int32) : Option (Int64 × MS) :=
  ct_nm (ms_I' s 0 t1) fun s2 =>
  if (ms_I s2 0) = 0 then
    ct_ob (fn_Mo_look s2) fun s3 =>
    ct_ob2 (fn_Mo_work s3 a1 a2) fun x4 s5 =>
    ct_ob2 (fn_Mo_told s5 x4 a3) fun x6 s7 =>
    some (x6, s7)
  else
    some (0, s2)
def fn_Mo_ultimate (s : MS) (a1 : Int32) (a2 : Int32) (a3 : Int32) : Option (Int64 × MS) :=
  ct_ob (fn_Mo_noRow s a1 a2) fun x1 =>
  if x1 = 0 then
    bk_Mo_ultimate_15 a1 a2 a3 s 0
  else
    bk_Mo_ultimate_15 a1 a2 a3 s 1
def bk_Mo_reserve_15 (a1 : Int32) (a2 : Int32) (a3 : Int32) (s : MS) (t1 : Int32) : Option (Int64 × MS) :=
  ct_nm (ms_I' s 0 t1) fun s2 =>
  if (ms_I s2 0) = 0 then
    ct_ob (fn_Mo_look s2) fun s3 =>
    ct_ob2 (fn_Mo_workReserve s3 a1 a2) fun x4 s5 =>
    ct_ob2 (fn_Mo_told s5 x4 a3) fun x6 s7 =>
    some (x6, s7)
  else
    some (0, s2)
def fn_Mo_reserve (s : MS) (a1 : Int32) (a2 : Int32) (a3 : Int32) : Option (Int64 × MS) :=
  ct_ob (fn_Mo_noRow s a1 a2) fun x1 =>
  if x1 = 0 then
    bk_Mo_reserve_15 a1 a2 a3 s 0
  else
    bk_Mo_reserve_15 a1 a2 a3 s 1
def bk_Mo_rounded_81 (a1 : Int32) (a2 : Int32) (s : MS) (t0 : Int64) : Option (Int64 × MS) :=
  ct_nm ((ms_L s 0) - (t0 * (ms_L s 1))) fun x8 =>
  if (lg_cmp x8 ((ms_L s 1) - x8)) < 0 then
    some (t0, s)
  else
    some (t0 + 1, s)
def bk_Mo_rounded_15 (a1 : Int32) (a2 : Int32) (s : MS) (t1 : Int32) : Option (Int64 × MS) :=
  ct_nm (ms_I' s 0 t1) fun s2 =>
  if (ms_I s2 0) = 0 then
    ct_ob (fn_Mo_look s2) fun s3 =>
    ct_ob2 (fn_Mo_workReserve s3 a1 a2) fun x4 s5 =>
    ct_nm (ms_I' s5 0 x4) fun s6 =>
    if (ms_I s6 0) = 0 then
      ct_gd (ct_gzL (ms_L s6 1)) <|
      ct_nm ((ms_L s6 0) / (ms_L s6 1)) fun x7 =>
      if (lg_cmp (x7 * (ms_L s6 1)) (ms_L s6 0)) ≤ 0 then
        bk_Mo_rounded_81 a1 a2 s6 x7
      else
        bk_Mo_rounded_81 a1 a2 s6 (x7 - 1)
    else
      some (0, s6)
  else
    some (0, s2)
def fn_Mo_rounded (s : MS) (a1 : Int32) (a2 : Int32) : Option (Int64 × MS) :=
  ct_ob (fn_Mo_noRow s a1 a2) fun x1 =>
  if x1 = 0 then
    bk_Mo_rounded_15 a1 a2 s 0
  else
    bk_Mo_rounded_15 a1 a2 s 1
def bk_Mo_total_130 (a1 : Int32) (a2 : Int32) (k92 : MS → Int64 → Int64 → Int32 → Option (Int64 × MS)) (s : MS) : Option (Int64 × MS) :=
  ct_ob2 (fn_Mo_told s 3 a2) fun x17 s18 =>
  some (x17, s18)
def bk_Mo_total_92_o (a1 : Int32) (a2 : Int32) (k92 : MS → Int64 → Int64 → Int32 → Option (Int64 × MS)) (s : MS) (v4 : Int64) (v6 : Int64) (v8 : Int32) : Option (Int64 × MS) :=
  ct_ob (fn_Mo_left s) fun x8 =>
  if x8 ≤ v8 then
    ct_ob (fn_Mo_set s v4 v6) fun s9 =>
    ct_ob2 (fn_Mo_told s9 0 a2) fun x10 s11 =>
    some (x10, s11)
  else
    ct_ob2 (fn_Mo_workReserve s a1 v8) fun x12 s13 =>
    ct_ob (fn_Mo_plus s13 v4 v6) fun s14 =>
    if ¬ x12 = 0 then
      bk_Mo_total_130 a1 a2 k92 s14
    else
      if (ms_I s14 8) = 0 then
        ct_nm (ms_L s14 0) fun x15 =>
        ct_nm (ms_L s14 1) fun x16 =>
        k92 s14 x15 x16 (v8 + 1)
      else
        bk_Mo_total_130 a1 a2 k92 s14
def bk_Mo_total_92 (a1 : Int32) (a2 : Int32) : Nat → MS → Int64 → Int64 → Int32 → Option (Int64 × MS)
  | 0 => fun _ _ _ _ => none
  | n + 1 => bk_Mo_total_92_o a1 a2 (bk_Mo_total_92 a1 a2 n)
def bk_Mo_total_65 (a1 : Int32) (a2 : Int32) (k36 : MS → Int32 → Int32 → Option (Int64 × MS)) (s : MS) (t0 : Int32) (v4 : Int32) : Option (Int64 × MS) :=
  k36 s t0 (v4 + 1)
def bk_Mo_total_36_o (a1 : Int32) (a2 : Int32) (k36 : MS → Int32 → Int32 → Option (Int64 × MS)) (s : MS) (v3 : Int32) (v4 : Int32) : Option (Int64 × MS) :=
  ct_ob (fn_Mo_left s) fun x3 =>
  if x3 ≤ v4 then
    if v3 = 0 then
      bk_Mo_total_92 a1 a2 200 s 0 1 0
    else
      ct_ob2 (fn_Mo_told s 2 a2) fun x4 s5 =>
      some (x4, s5)
  else
    if ¬ v3 = 0 then
      bk_Mo_total_65 a1 a2 k36 s 1 v4
    else
      ct_ob2 (fn_Mo_workReserve s a1 v4) fun x6 s7 =>
      if ¬ x6 = 2 then
        bk_Mo_total_65 a1 a2 k36 s7 0 v4
      else
        bk_Mo_total_65 a1 a2 k36 s7 1 v4
def bk_Mo_total_36 (a1 : Int32) (a2 : Int32) : Nat → MS → Int32 → Int32 → Option (Int64 × MS)
  | 0 => fun _ _ _ => none
  | n + 1 => bk_Mo_total_36_o a1 a2 (bk_Mo_total_36 a1 a2 n)
def bk_Mo_total_15 (a1 : Int32) (a2 : Int32) (s : MS) (t1 : Int32) : Option (Int64 × MS) :=
  ct_nm (ms_I' s 0 t1) fun s1 =>
  if (ms_I s1 0) = 0 then
    ct_ob (fn_Mo_look s1) fun s2 =>
    bk_Mo_total_36 a1 a2 200 s2 0 0
  else
    some (0, s1)
def fn_Mo_total (s : MS) (a1 : Int32) (a2 : Int32) : Option (Int64 × MS) :=
  if a1 < 0 then
    bk_Mo_total_15 a1 a2 s 1
  else
    if a1 ≤ 3 then
      bk_Mo_total_15 a1 a2 s 0
    else
      bk_Mo_total_15 a1 a2 s 1
def bk_Mo_marks_74 (a1 : Int32) (k35 : MS → Int32 → Int32 → Option (Int32 × MS)) (s : MS) (t0 : Int32) (t1 : Int32) (v3 : Int32) : Option (Int32 × MS) :=
  ct_nm (t0 + t1) fun x6 =>
  k35 s x6 (v3 + 1)
def bk_Mo_marks_35_o (a1 : Int32) (k35 : MS → Int32 → Int32 → Option (Int32 × MS)) (s : MS) (v2 : Int32) (v3 : Int32) : Option (Int32 × MS) :=
  ct_ob (fn_Mo_left s) fun x3 =>
  if x3 ≤ v3 then
    some (v2, s)
  else
    ct_ob2 (fn_Mo_workReserve s a1 v3) fun x4 s5 =>
    if ¬ x4 = 2 then
      if ¬ x4 = 3 then
        bk_Mo_marks_74 a1 k35 s5 v2 0 v3
      else
        bk_Mo_marks_74 a1 k35 s5 v2 10 v3
    else
      bk_Mo_marks_74 a1 k35 s5 v2 1 v3
def bk_Mo_marks_35 (a1 : Int32) : Nat → MS → Int32 → Int32 → Option (Int32 × MS)
  | 0 => fun _ _ _ => none
  | n + 1 => bk_Mo_marks_35_o a1 (bk_Mo_marks_35 a1 n)
def bk_Mo_marks_15 (a1 : Int32) (s : MS) (t1 : Int32) : Option (Int32 × MS) :=
  ct_nm (ms_I' s 0 t1) fun s1 =>
  if (ms_I s1 0) = 0 then
    ct_ob (fn_Mo_look s1) fun s2 =>
    bk_Mo_marks_35 a1 200 s2 0 0
  else
    some (0, s1)
def fn_Mo_marks (s : MS) (a1 : Int32) : Option (Int32 × MS) :=
  if a1 < 0 then
    bk_Mo_marks_15 a1 s 1
  else
    if a1 ≤ 3 then
      bk_Mo_marks_15 a1 s 0
    else
      bk_Mo_marks_15 a1 s 1
def bk_Mo_deviation_275 (a1 : Int32) (a2 : Int32) (k136 : MS → Int32 → Int32 → Int64 → Int64 → Int32 → Option (Int64 × MS)) (s : MS) (v3 : Int32) (v5 : Int32) (v6 : Int64) (v8 : Int64) (v10 : Int32) : Option (Int64 × MS) :=
  k136 s v3 v5 v6 v8 (v10 + 1)
def bk_Mo_deviation_245 (a1 : Int32) (a2 : Int32) (k136 : MS → Int32 → Int32 → Int64 → Int64 → Int32 → Option (Int64 × MS)) (s : MS) (t1 : Int64) (v3 : Int32) (v5 : Int32) (v6 : Int64) (v8 : Int64) (v10 : Int32) (v11 : Int32) : Option (Int64 × MS) :=
  ct_ob (fn_Mo_size v11.toInt64) fun x20 =>
  ct_ob (fn_Mo_times s t1 x20) fun s21 =>
  ct_ob (fn_Mo_plus s21 v6 v8) fun s22 =>
  ct_nm (ms_L s22 0) fun x23 =>
  ct_nm (ms_L s22 1) fun x24 =>
  bk_Mo_deviation_275 a1 a2 k136 s22 v3 v5 x23 x24 v10
def bk_Mo_deviation_136_o (a1 : Int32) (a2 : Int32) (k136 : MS → Int32 → Int32 → Int64 → Int64 → Int32 → Option (Int64 × MS)) (s : MS) (v3 : Int32) (v5 : Int32) (v6 : Int64) (v8 : Int64) (v10 : Int32) : Option (Int64 × MS) :=
  if v3 ≤ ((v10 + a1) + 1) then
    ct_ob (fn_Mo_times s 1 (v5.toInt64 - 1)) fun s9 =>
    ct_ob (fn_Mo_answer s9) fun x10 =>
    ct_ob2 (fn_Mo_told s9 x10 a2) fun x11 s12 =>
    some (x11, s12)
  else
    ct_ob (fn_Mo_takes s v10 a1 v3) fun x13 =>
    if x13 = 0 then
      bk_Mo_deviation_275 a1 a2 k136 s v3 v5 v6 v8 v10
    else
      ct_gd (ct_inR ((6 * v10) + a1) 36) <|
      ct_nm (ms_A s 8 ((6 * v10) + a1).toNatClampNeg) fun x14 =>
      ct_ob (fn_Mo_set s (ms_L s 4) (ms_L s 5)) fun s15 =>
      ct_ob (fn_Mo_times s15 x14.toInt64 1) fun s16 =>
      ct_nm (ms_L' s16 0 (-(ms_L s16 0))) fun s17 =>
      ct_gd (ct_inR (((6 * v10) + a1) + 1) 36) <|
      ct_ob (fn_Mo_plus s17 ((ms_A s17 8 (((6 * v10) + a1) + 1).toNatClampNeg).toInt64) 1) fun s18 =>
      ct_ob (fn_Mo_times s18 (ms_L s18 0) (ms_L s18 1)) fun s19 =>
      if 0 ≤ x14 then
        bk_Mo_deviation_245 a1 a2 k136 s19 1 v3 v5 v6 v8 v10 x14
      else
        bk_Mo_deviation_245 a1 a2 k136 s19 (-1) v3 v5 v6 v8 v10 x14
def bk_Mo_deviation_136 (a1 : Int32) (a2 : Int32) : Nat → MS → Int32 → Int32 → Int64 → Int64 → Int32 → Option (Int64 × MS)
  | 0 => fun _ _ _ _ _ _ => none
  | n + 1 => bk_Mo_deviation_136_o a1 a2 (bk_Mo_deviation_136 a1 a2 n)
def bk_Mo_deviation_120 (a1 : Int32) (a2 : Int32) (s : MS) : Option (Int64 × MS) :=
  ct_ob2 (fn_Mo_told s 2 a2) fun x7 s8 =>
  some (x7, s8)
def bk_Mo_deviation_103 (a1 : Int32) (a2 : Int32) (k52 : MS → Int32 → Int32 → Int32 → Int32 → Option (Int64 × MS)) (s : MS) (v3 : Int32) (v4 : Int32) (v5 : Int32) (v6 : Int32) : Option (Int64 × MS) :=
  k52 s v3 v4 v5 (v6 + 1)
def bk_Mo_deviation_52_o (a1 : Int32) (a2 : Int32) (k52 : MS → Int32 → Int32 → Int32 → Int32 → Option (Int64 × MS)) (s : MS) (v3 : Int32) (v4 : Int32) (v5 : Int32) (v6 : Int32) : Option (Int64 × MS) :=
  if v3 ≤ ((v6 + a1) + 1) then
    if v4 = 0 then
      bk_Mo_deviation_120 a1 a2 s
    else
      if 2 ≤ v5 then
        bk_Mo_deviation_136 a1 a2 200 s v3 v5 0 1 0
      else
        bk_Mo_deviation_120 a1 a2 s
  else
    ct_ob (fn_Mo_takes s v6 a1 v3) fun x6 =>
    if x6 = 0 then
      bk_Mo_deviation_103 a1 a2 k52 s v3 v4 v5 v6
    else
      if v4 = 0 then
        bk_Mo_deviation_103 a1 a2 k52 s v3 0 (v5 + 1) v6
      else
        ct_gd (ct_inR ((6 * v6) + a1) 36) <|
        if (ms_A s 8 ((6 * v6) + a1).toNatClampNeg) = 0 then
          bk_Mo_deviation_103 a1 a2 k52 s v3 0 (v5 + 1) v6
        else
          bk_Mo_deviation_103 a1 a2 k52 s v3 1 (v5 + 1) v6
def bk_Mo_deviation_52 (a1 : Int32) (a2 : Int32) : Nat → MS → Int32 → Int32 → Int32 → Int32 → Option (Int64 × MS)
  | 0 => fun _ _ _ _ _ => none
  | n + 1 => bk_Mo_deviation_52_o a1 a2 (bk_Mo_deviation_52 a1 a2 n)
def bk_Mo_deviation_22 (a1 : Int32) (a2 : Int32) (s : MS) (t1 : Int32) (v3 : Int32) : Option (Int64 × MS) :=
  ct_nm (ms_I' s 0 t1) fun s2 =>
  if (ms_I s2 0) = 0 then
    ct_ob (fn_Mo_look s2) fun s3 =>
    ct_ob2 (fn_Mo_find s3 0 a1) fun x4 s5 =>
    bk_Mo_deviation_52 a1 a2 200 s5 v3 x4 0 0
  else
    some (0, s2)
def fn_Mo_deviation (s : MS) (a1 : Int32) (a2 : Int32) : Option (Int64 × MS) :=
  ct_ob (fn_Mo_left s) fun x1 =>
  if a1 < 0 then
    bk_Mo_deviation_22 a1 a2 s 1 x1
  else
    if a1 ≤ (x1 - 2) then
      bk_Mo_deviation_22 a1 a2 s 0 x1
    else
      bk_Mo_deviation_22 a1 a2 s 1 x1
def bk_Mo_error_35 (a1 : Int32) (a2 : Int32) (a3 : Int32) (s : MS) (t1 : Int32) (v4 : Int32) : Option (Int64 × MS) :=
  ct_nm (ms_I' s 0 t1) fun s2 =>
  if (ms_I s2 0) = 0 then
    ct_ob (fn_Mo_look s2) fun s3 =>
    ct_nm ((v4 - 1) - a2) fun x4 =>
    ct_nm (((ms_I s3 5) - 2) - a2) fun x5 =>
    ct_ob2 (fn_Mo_areDefined s3 a1 x4 x5) fun x6 s7 =>
    if ¬ x6 = 0 then
      ct_ob (fn_Mo_way s7 a1 x4 x5) fun s8 =>
      ct_ob (fn_Mo_latestOf s8 a2) fun x9 =>
      ct_ob (fn_Mo_times s8 x9.toInt64 1) fun s10 =>
      ct_gd (ct_inR ((((6 * a2) + (ms_I s10 5)) - 1) - a2) 36) <|
      ct_ob (fn_Mo_plus s10 ((-(ms_A s10 8 ((((6 * a2) + (ms_I s10 5)) - 1) - a2).toNatClampNeg)).toInt64) 1) fun s11 =>
      ct_ob (fn_Mo_answer s11) fun x12 =>
      ct_ob2 (fn_Mo_told s11 x12 a3) fun x13 s14 =>
      some (x13, s14)
    else
      ct_ob2 (fn_Mo_told s7 2 a3) fun x15 s16 =>
      some (x15, s16)
  else
    some (0, s2)
def fn_Mo_error (s : MS) (a1 : Int32) (a2 : Int32) (a3 : Int32) : Option (Int64 × MS) :=
  ct_ob (fn_Mo_left s) fun x1 =>
  if a1 < 0 then
    bk_Mo_error_35 a1 a2 a3 s 1 x1
  else
    if 1 < a1 then
      bk_Mo_error_35 a1 a2 a3 s 1 x1
    else
      if a2 < (ms_I s 6) then
        bk_Mo_error_35 a1 a2 a3 s 1 x1
      else
        if a2 < x1 then
          bk_Mo_error_35 a1 a2 a3 s 0 x1
        else
          bk_Mo_error_35 a1 a2 a3 s 1 x1
def bk_Mo_diagonal_81 (a1 : Int32) (k38 : MS → Int32 → Int32 → Option (Int32 × MS)) (s : MS) (t0 : Int32) (t1 : Int32) (t2 : Int32) (v3 : Int32) : Option (Int32 × MS) :=
  ct_nm (t0 + (t1 - t2)) fun x4 =>
  k38 s x4 (v3 + 1)
def bk_Mo_diagonal_38_o (a1 : Int32) (k38 : MS → Int32 → Int32 → Option (Int32 × MS)) (s : MS) (v2 : Int32) (v3 : Int32) : Option (Int32 × MS) :=
  if a1 < v3 then
    some (v2, s)
  else
    ct_gd (ct_inR (((6 * v3) + a1) - v3) 36) <|
    if ¬ a1 = v3 then
      ct_gd (ct_inR ((((6 * v3) + a1) - v3) - 1) 36) <|
      bk_Mo_diagonal_81 a1 k38 s v2 (ms_A s 8 (((6 * v3) + a1) - v3).toNatClampNeg) (ms_A s 8 ((((6 * v3) + a1) - v3) - 1).toNatClampNeg) v3
    else
      bk_Mo_diagonal_81 a1 k38 s v2 (ms_A s 8 (((6 * v3) + a1) - v3).toNatClampNeg) 0 v3
def bk_Mo_diagonal_38 (a1 : Int32) : Nat → MS → Int32 → Int32 → Option (Int32 × MS)
  | 0 => fun _ _ _ => none
  | n + 1 => bk_Mo_diagonal_38_o a1 (bk_Mo_diagonal_38 a1 n)
def bk_Mo_diagonal_18 (a1 : Int32) (s : MS) (t1 : Int32) : Option (Int32 × MS) :=
  ct_nm (ms_I' s 0 t1) fun s2 =>
  if (ms_I s2 0) = 0 then
    ct_ob (fn_Mo_look s2) fun s3 =>
    bk_Mo_diagonal_38 a1 200 s3 0 0
  else
    some (0, s2)
def fn_Mo_diagonal (s : MS) (a1 : Int32) : Option (Int32 × MS) :=
  if a1 < 0 then
    bk_Mo_diagonal_18 a1 s 1
  else
    ct_ob (fn_Mo_left s) fun x1 =>
    if a1 < x1 then
      bk_Mo_diagonal_18 a1 s 0
    else
      bk_Mo_diagonal_18 a1 s 1
def bk_Mo_count_98 (a1 : Int32) (k25 : MS → Int32 → Int32 → Int32 → Option (Int32 × MS)) (s : MS) (t0 : Int32) (t1 : Int32) (v2 : Int32) (v4 : Int32) : Option (Int32 × MS) :=
  ct_nm (t0 + t1) fun x4 =>
  k25 s v2 x4 (v4 + 1)
def bk_Mo_count_50 (a1 : Int32) (k25 : MS → Int32 → Int32 → Int32 → Option (Int32 × MS)) (s : MS) (t0 : Int32) (t1 : Int32) (v3 : Int32) (v4 : Int32) : Option (Int32 × MS) :=
  ct_nm (t0 + t1) fun x3 =>
  ct_gd (ct_inR v4 60) <|
  if ¬ (ms_A s 5 v4.toNatClampNeg) = 0 then
    bk_Mo_count_98 a1 k25 s v3 0 x3 v4
  else
    ct_gd (ct_inR v4 60) <|
    if (ms_A s 4 v4.toNatClampNeg) = 0 then
      bk_Mo_count_98 a1 k25 s v3 0 x3 v4
    else
      ct_gd (ct_inR v4 60) <|
      if ¬ (ms_A s 0 v4.toNatClampNeg) = (ms_I s 2) then
        bk_Mo_count_98 a1 k25 s v3 0 x3 v4
      else
        ct_gd (ct_inR v4 60) <|
        bk_Mo_count_98 a1 k25 s v3 (ms_A s 3 v4.toNatClampNeg) x3 v4
def bk_Mo_count_25_o (a1 : Int32) (k25 : MS → Int32 → Int32 → Int32 → Option (Int32 × MS)) (s : MS) (v2 : Int32) (v3 : Int32) (v4 : Int32) : Option (Int32 × MS) :=
  if (ms_I s 1) ≤ v4 then
    if (ms_I s 0) = 0 then
      if a1 = 0 then
        some (ms_I s 1, s)
      else
      if a1 = 1 then
        some (v2, s)
      else
      if a1 = 2 then
        ct_ob (fn_Mo_left s) fun x2 =>
        some (x2, s)
      else
      if a1 = 3 then
        some (ms_I s 6, s)
      else
      some (v3, s)
    else
      some (0, s)
  else
    ct_gd (ct_inR v4 60) <|
    if (ms_A s 5 v4.toNatClampNeg) = 0 then
      bk_Mo_count_50 a1 k25 s v2 1 v3 v4
    else
      bk_Mo_count_50 a1 k25 s v2 0 v3 v4
def bk_Mo_count_25 (a1 : Int32) : Nat → MS → Int32 → Int32 → Int32 → Option (Int32 × MS)
  | 0 => fun _ _ _ _ => none
  | n + 1 => bk_Mo_count_25_o a1 (bk_Mo_count_25 a1 n)
def bk_Mo_count_15 (a1 : Int32) (s : MS) (t1 : Int32) : Option (Int32 × MS) :=
  ct_nm (ms_I' s 0 t1) fun s1 =>
  bk_Mo_count_25 a1 200 s1 0 0 0
def fn_Mo_count (s : MS) (a1 : Int32) : Option (Int32 × MS) :=
  if a1 < 0 then
    bk_Mo_count_15 a1 s 1
  else
    if a1 ≤ 4 then
      bk_Mo_count_15 a1 s 0
    else
      bk_Mo_count_15 a1 s 1
end
section
/-! whole numbers behind Int64; greatest common divisors; the two ways of reckoning in fractions as one (over Int) -/
theorem pa_bm {n : Int} (h1 : -9223372036854775808 ≤ n) (h2 : n < 9223372036854775808) : n.bmod (2 ^ 64) = n :=
  Int.bmod_eq_of_le (by simpa using h1) (by simpa using h2)
theorem pa_lo (x : Int64) : -9223372036854775808 ≤ x.toInt := by have h := x.le_toInt; simpa using h
theorem pa_hi (x : Int64) : x.toInt < 9223372036854775808 := by have h := x.toInt_lt; simpa using h
theorem pa_lo32 (x : Int32) : -2147483648 ≤ x.toInt := by have h := x.le_toInt; simpa using h
theorem pa_hi32 (x : Int32) : x.toInt < 2147483648 := by have h := x.toInt_lt; simpa using h
theorem pa_bm32 {n : Int} (h1 : -2147483648 ≤ n) (h2 : n < 2147483648) : n.bmod (2 ^ 32) = n :=
  Int.bmod_eq_of_le (by simpa using h1) (by simpa using h2)
theorem pa_mul {x y : Int64} (h1 : -9223372036854775808 ≤ x.toInt * y.toInt) (h2 : x.toInt * y.toInt < 9223372036854775808) : (x * y).toInt = x.toInt * y.toInt := by rw [Int64.toInt_mul, pa_bm h1 h2]
theorem pa_add {x y : Int64} (h1 : -9223372036854775808 ≤ x.toInt + y.toInt) (h2 : x.toInt + y.toInt < 9223372036854775808) : (x + y).toInt = x.toInt + y.toInt := by rw [Int64.toInt_add, pa_bm h1 h2]
theorem pa_sub {x y : Int64} (h1 : -9223372036854775808 ≤ x.toInt - y.toInt) (h2 : x.toInt - y.toInt < 9223372036854775808) : (x - y).toInt = x.toInt - y.toInt := by rw [Int64.toInt_sub, pa_bm h1 h2]
theorem pa_neg {x : Int64} (h : x.toInt ≠ -9223372036854775808) : (-x).toInt = -x.toInt := by
  have h1 := pa_lo x
  have h2 := pa_hi x
  rw [Int64.toInt_neg, pa_bm (by omega) (by omega)]
theorem pa_div {x y : Int64} (h : x.toInt ≠ -9223372036854775808) : (x / y).toInt = x.toInt.tdiv y.toInt :=
  Int64.toInt_div_of_ne_left x y (fun e => h (by rw [e]; rfl))
theorem pa_ediv {x y : Int64} (h : x.toInt ≠ -9223372036854775808) (hd : y.toInt ∣ x.toInt) : (x / y).toInt = x.toInt / y.toInt := by
  rw [pa_div h, Int.tdiv_eq_ediv_of_dvd hd]
theorem pa_eq0 {x : Int64} : x = 0 ↔ x.toInt = 0 := ⟨fun h => by rw [h]; rfl, fun h => Int64.toInt.inj (h.trans rfl)⟩
theorem pa_rem {x y : Int64} (hx : 0 ≤ x.toInt) (hy : 0 < y.toInt) : (x - x / y * y).toInt = x.toInt % y.toInt := by
  have h0 := pa_hi x
  have h1 : (x / y).toInt = x.toInt / y.toInt := by rw [pa_div (by omega), Int.tdiv_eq_ediv_of_nonneg hx]
  have h2 := Int.ediv_mul_add_emod x.toInt y.toInt
  have h3 := Int.emod_nonneg x.toInt (show y.toInt ≠ 0 by omega)
  have h4 : 0 ≤ x.toInt / y.toInt * y.toInt := Int.mul_nonneg (Int.ediv_nonneg hx (by omega)) (by omega)
  have h5 : (x / y * y).toInt = x.toInt / y.toInt * y.toInt := by rw [pa_mul (by rw [h1]; omega) (by rw [h1]; omega), h1]
  rw [pa_sub (by rw [h5]; omega) (by rw [h5]; omega), h5]
  omega
theorem pa_abs {x : Int64} (h : x.toInt ≠ -9223372036854775808) : (ct_abL x).toInt = x.toInt.natAbs := by
  unfold ct_abL
  split
  · rename_i q
    have q : (0 : Int64).toInt < x.toInt := Int64.lt_iff_toInt_lt.mp q
    have e : (0 : Int64).toInt = 0 := rfl
    omega
  · rename_i q
    have q : ¬ (0 : Int64).toInt < x.toInt := fun z => q (Int64.lt_iff_toInt_lt.mpr z)
    have e : (0 : Int64).toInt = 0 := rfl
    rw [pa_neg h]
    omega
/-! Euclid's turns -/
theorem pa_half {q r : Nat} (h0 : 0 < r) (h : r ≤ q) : 2 * (q % r) < q := by
  have h1 := Nat.mod_lt q h0
  have h2 := Nat.div_add_mod q r
  have h3 : 1 ≤ q / r := (Nat.le_div_iff_mul_le h0).mpr (by omega)
  have h4 : r * 1 ≤ r * (q / r) := Nat.mul_le_mul_left r h3
  omega
def pa_eu : Nat → Nat → Nat → Nat
  | 0, p, _ => p
  | n + 1, p, q => if q = 0 then p else pa_eu n q (p % q)
theorem pa_eu_gcd : ∀ (k p q : Nat), q < 2 ^ k → pa_eu (2 * k) p q = Nat.gcd p q := by
  intro k
  induction k with
  | zero =>
    intro p q h
    have h : q = 0 := by simpa using h
    rw [h, Nat.gcd_zero_right]
    rfl
  | succ k ih =>
    intro p q h
    rw [show 2 * (k + 1) = 2 * k + 1 + 1 by omega]
    unfold pa_eu
    by_cases hq : q = 0
    · rw [if_pos hq, hq, Nat.gcd_zero_right]
    · rw [if_neg hq]
      have e1 : Nat.gcd p q = Nat.gcd q (p % q) := by rw [Nat.gcd_comm p q, Nat.gcd_rec q p, Nat.gcd_comm]
      unfold pa_eu
      by_cases hr : p % q = 0
      · rw [if_pos hr, e1, hr, Nat.gcd_zero_right]
      · rw [if_neg hr]
        have e2 : Nat.gcd q (p % q) = Nat.gcd (p % q) (q % (p % q)) := by rw [Nat.gcd_comm q, Nat.gcd_rec (p % q) q, Nat.gcd_comm]
        have h1 := Nat.mod_lt p (Nat.pos_of_ne_zero hq)
        have h2 := pa_half (Nat.pos_of_ne_zero hr) (Nat.le_of_lt h1)
        rw [ih _ _ (by rw [Nat.pow_succ] at h; omega), e1, e2]
/-! times and plus over Int; L = 2 ^ 62 -/
def sp_ok (a b : Int) : Prop := a.natAbs ≤ 4611686018427387904 ∧ 0 < b ∧ b ≤ 4611686018427387904
def sp_times (a b c d : Int) : Option (Int × Int) :=
  if (a / (Int.gcd a d : Int) * (c / (Int.gcd c b : Int))).natAbs ≤ 4611686018427387904 ∧ b / (Int.gcd c b : Int) * (d / (Int.gcd a d : Int)) ≤ 4611686018427387904 then some (a / (Int.gcd a d : Int) * (c / (Int.gcd c b : Int)), b / (Int.gcd c b : Int) * (d / (Int.gcd a d : Int))) else none
def sp_plus (a b c d : Int) : Option (Int × Int) :=
  if b * (d / (Int.gcd b d : Int)) ≤ 4611686018427387904 ∧ (a * (d / (Int.gcd b d : Int))).natAbs ≤ 4611686018427387904 ∧ (c * (b / (Int.gcd b d : Int))).natAbs ≤ 4611686018427387904 ∧ (a * (d / (Int.gcd b d : Int)) + c * (b / (Int.gcd b d : Int))).natAbs ≤ 4611686018427387904 then
    some ((a * (d / (Int.gcd b d : Int)) + c * (b / (Int.gcd b d : Int))) / (Int.gcd (a * (d / (Int.gcd b d : Int)) + c * (b / (Int.gcd b d : Int))) (b * (d / (Int.gcd b d : Int))) : Int), b * (d / (Int.gcd b d : Int)) / (Int.gcd (a * (d / (Int.gcd b d : Int)) + c * (b / (Int.gcd b d : Int))) (b * (d / (Int.gcd b d : Int))) : Int)) else none
theorem sp_times_comm (a b c d : Int) : sp_times a b c d = sp_times c d a b := by
  unfold sp_times
  rw [Int.mul_comm (a / (Int.gcd a d : Int)), Int.mul_comm (b / (Int.gcd c b : Int))]
theorem sp_lcm (b d : Int) : b * (d / (Int.gcd b d : Int)) = d * (b / (Int.gcd b d : Int)) := by
  rw [← Int.mul_ediv_assoc b (Int.gcd_dvd_right b d), Int.mul_comm b d, Int.mul_ediv_assoc d (Int.gcd_dvd_left b d)]
theorem sp_plus_comm (a b c d : Int) : sp_plus a b c d = sp_plus c d a b := by
  unfold sp_plus
  rw [sp_lcm b d, Int.gcd_comm d b, Int.add_comm (a * (d / (Int.gcd b d : Int)))]
  have e : ∀ (P Q R S : Prop) [Decidable P] [Decidable Q] [Decidable R] [Decidable S] (x y : Option (Int × Int)), (if P ∧ Q ∧ R ∧ S then x else y) = (if P ∧ R ∧ Q ∧ S then x else y) := by
    intro P Q R S _ _ _ _ x y
    by_cases hP : P <;> by_cases hQ : Q <;> by_cases hR : R <;> by_cases hS : S <;> simp [hP, hQ, hR, hS]
  exact e _ _ _ _ _ _
theorem sp_times_ok {a b c d x y : Int} (hb : 0 < b) (hd : 0 < d) (h : sp_times a b c d = some (x, y)) : sp_ok x y := by
  unfold sp_times at h
  split at h
  · rename_i q
    have h := Option.some.inj h
    have h1 := (congrArg Prod.fst h).symm
    have h2 := (congrArg Prod.snd h).symm
    dsimp only at h1 h2
    rw [h1, h2]
    exact ⟨q.1, Int.mul_pos (Int.ediv_pos_of_pos_of_dvd hb (Int.natCast_nonneg _) (Int.gcd_dvd_right _ _)) (Int.ediv_pos_of_pos_of_dvd hd (Int.natCast_nonneg _) (Int.gcd_dvd_right _ _)), q.2⟩
  · cases h
theorem sp_plus_ok {a b c d x y : Int} (hb : 0 < b) (hd : 0 < d) (h : sp_plus a b c d = some (x, y)) : sp_ok x y := by
  unfold sp_plus at h
  split at h
  · rename_i q
    have h := Option.some.inj h
    have h1 := (congrArg Prod.fst h).symm
    have h2 := (congrArg Prod.snd h).symm
    dsimp only at h1 h2
    have hm : 0 < b * (d / (Int.gcd b d : Int)) := Int.mul_pos hb (Int.ediv_pos_of_pos_of_dvd hd (Int.natCast_nonneg _) (Int.gcd_dvd_right _ _))
    generalize b * (d / (Int.gcd b d : Int)) = m at *
    generalize a * (d / (Int.gcd b d : Int)) + c * (b / (Int.gcd b d : Int)) = n at *
    rw [h1, h2]
    refine ⟨Nat.le_trans (Int.natAbs_ediv_le_natAbs _ _) q.2.2.2, Int.ediv_pos_of_pos_of_dvd hm (Int.natCast_nonneg _) (Int.gcd_dvd_right _ _), ?_⟩
    have := Int.natAbs_ediv_le_natAbs m (Int.gcd n m : Int)
    have h3 := Int.ediv_nonneg (Int.le_of_lt hm) (Int.natCast_nonneg (Int.gcd n m))
    omega
  · cases h
/-! what fits: |x * y| ≤ L -/
theorem pa_fit {X Y : Nat} (h : Y ≠ 0) : X ≤ 4611686018427387904 / Y ↔ X * Y ≤ 4611686018427387904 := Nat.le_div_iff_mul_le (Nat.pos_of_ne_zero h)
/-! small numbers as Int32 -/
theorem pi_of {k : Nat} (h : k < 2147483648) : (Int32.ofNat k).toInt = k := Int32.toInt_ofNat_of_lt (by simpa using h)
theorem pi_lt {a b : Nat} (ha : a < 2147483648) (hb : b < 2147483648) : Int32.ofNat a < Int32.ofNat b ↔ a < b := by
  rw [Int32.lt_iff_toInt_lt, pi_of ha, pi_of hb]
  omega
theorem pi_le {a b : Nat} (ha : a < 2147483648) (hb : b < 2147483648) : Int32.ofNat a ≤ Int32.ofNat b ↔ a ≤ b := by
  rw [Int32.le_iff_toInt_le, pi_of ha, pi_of hb]
  omega
theorem pi_cl {k : Nat} (h : k < 2147483648) : (Int32.ofNat k).toNatClampNeg = k := Int32.toNatClampNeg_ofNat_of_lt (by simpa using h)
theorem pi_succ (k : Nat) : Int32.ofNat k + 1 = Int32.ofNat (k + 1) := by rw [Int32.ofNat_add]; rfl
theorem pi_inR {k n : Nat} (h : k < n) (hn : n ≤ 2147483648) : ct_inR (Int32.ofNat k) n = true := by
  unfold ct_inR
  rw [pi_of (by omega)]
  exact decide_eq_true ⟨by omega, by omega⟩
theorem pi_ex {x : Int32} (h : 0 ≤ x.toInt) : ∃ k : Nat, x = Int32.ofNat k ∧ k < 2147483648 ∧ (k : Int) = x.toInt := by
  have h2 := pa_hi32 x
  refine ⟨x.toInt.toNat, Int32.toInt.inj ?_, by omega, by omega⟩
  rw [pi_of (by omega)]
  omega
end
section
/-! sums of Int32 -/
def pu_s : Nat → (Nat → Int32) → Int32
  | 0, _ => 0
  | n + 1, f => pu_s n f + f n
theorem pu_ext {n : Nat} {f g : Nat → Int32} (h : ∀ k, k < n → f k = g k) : pu_s n f = pu_s n g := by
  induction n with
  | zero => rfl
  | succ n ih =>
    show pu_s n f + f n = pu_s n g + g n
    rw [ih (fun k hk => h k (by omega)), h n (by omega)]
theorem pu_ac (a b c d : Int32) : a + b + (c + d) = a + c + (b + d) := by
  rw [Int32.add_assoc, Int32.add_assoc, ← Int32.add_assoc b, Int32.add_comm b c, Int32.add_assoc c]
theorem pu_add (n : Nat) (f g : Nat → Int32) : pu_s n (fun k => f k + g k) = pu_s n f + pu_s n g := by
  induction n with
  | zero => rfl
  | succ n ih =>
    show pu_s n (fun k => f k + g k) + (f n + g n) = (pu_s n f + f n) + (pu_s n g + g n)
    rw [ih, pu_ac]
theorem pu_0 (n : Nat) : pu_s n (fun _ => 0) = 0 := by
  induction n with
  | zero => rfl
  | succ n ih =>
    show pu_s n (fun _ => 0) + 0 = 0
    rw [ih]
    rfl
theorem pu_z {n : Nat} {f : Nat → Int32} (h : ∀ k, k < n → f k = 0) : pu_s n f = 0 := (pu_ext h).trans (pu_0 n)
theorem pu_one {n m : Nat} {f : Nat → Int32} (hm : m < n) (h : ∀ k, k < n → k ≠ m → f k = 0) : pu_s n f = f m := by
  induction n with
  | zero => omega
  | succ n ih =>
    show pu_s n f + f n = f m
    by_cases e : m = n
    · subst e
      rw [pu_z (fun k hk => h k (by omega) (by omega)), Int32.zero_add]
    · rw [ih (by omega) (fun k hk => h k (by omega)), h n (by omega) (fun q => e q.symm), Int32.add_zero]
theorem pu_swap (n m : Nat) (f : Nat → Nat → Int32) : pu_s n (fun i => pu_s m (fun j => f i j)) = pu_s m (fun j => pu_s n (fun i => f i j)) := by
  induction n with
  | zero => exact (pu_0 m).symm
  | succ n ih =>
    show pu_s n (fun i => pu_s m (fun j => f i j)) + pu_s m (fun j => f n j) = pu_s m (fun j => pu_s n (fun i => f i j) + f n j)
    rw [pu_add, ih]
end
section
/-! estimates: the one that counts before B is the greatest (month, number); an estimate's own share is taken off from the month on in which another replaces it -/
def pe_lat (mo : Nat → Nat) (f e : Nat) : Prop := mo e < mo f ∨ (mo f = mo e ∧ e < f)
def pe_best (E : Nat → Bool) (og mo : Nat → Nat) (o B : Nat) : Nat → Option Nat
  | 0 => none
  | k + 1 => if E k = true ∧ og k = o ∧ mo k < B then (match pe_best E og mo o B k with
    | none => some k
    | some f => if mo f ≤ mo k then some k else some f) else pe_best E og mo o B k
def pe_rep (E : Nat → Bool) (og mo : Nat → Nat) (e : Nat) : Nat → Nat
  | 0 => 72
  | k + 1 => if (E k = true ∧ og k = og e ∧ (mo e < mo k ∨ (mo k = mo e ∧ e < k))) ∧ mo k < pe_rep E og mo e k then mo k else pe_rep E og mo e k
theorem pe_rep_lt (E : Nat → Bool) (og mo : Nat → Nat) (e B : Nat) (hB : B ≤ 72) : ∀ k, pe_rep E og mo e k < B ↔ ∃ f, f < k ∧ E f = true ∧ og f = og e ∧ pe_lat mo f e ∧ mo f < B := by
  intro k
  induction k with
  | zero =>
    constructor
    · intro h
      have h : 72 < B := h
      omega
    · rintro ⟨f, hf, -⟩
      omega
  | succ k ih =>
    unfold pe_rep
    by_cases c : (E k = true ∧ og k = og e ∧ (mo e < mo k ∨ (mo k = mo e ∧ e < k))) ∧ mo k < pe_rep E og mo e k
    · rw [if_pos c]
      constructor
      · intro h
        exact ⟨k, by omega, c.1.1, c.1.2.1, c.1.2.2, h⟩
      · rintro ⟨f, hf, h1, h2, h3, h4⟩
        by_cases hk : f = k
        · subst hk
          exact h4
        · have := ih.mpr ⟨f, by omega, h1, h2, h3, h4⟩
          omega
    · rw [if_neg c, ih]
      constructor
      · rintro ⟨f, hf, h⟩
        exact ⟨f, by omega, h⟩
      · rintro ⟨f, hf, h1, h2, h3, h4⟩
        by_cases hk : f = k
        · subst hk
          have h5 : pe_rep E og mo e f ≤ mo f := Nat.not_lt.mp fun q => c ⟨⟨h1, h2, h3⟩, q⟩
          exact ih.mp (by omega)
        · exact ⟨f, by omega, h1, h2, h3, h4⟩
theorem pe_best_none (E : Nat → Bool) (og mo : Nat → Nat) (o B : Nat) : ∀ k, pe_best E og mo o B k = none → ∀ e, e < k → ¬ (E e = true ∧ og e = o ∧ mo e < B) := by
  intro k
  induction k with
  | zero => intro _ e he; omega
  | succ k ih =>
    intro h e he
    unfold pe_best at h
    by_cases c : E k = true ∧ og k = o ∧ mo k < B
    · rw [if_pos c] at h
      split at h
      · cases h
      · split at h <;> cases h
    · rw [if_neg c] at h
      by_cases hk : e = k
      · subst hk; exact c
      · exact ih h e (by omega)
theorem pe_best_some (E : Nat → Bool) (og mo : Nat → Nat) (o B : Nat) : ∀ k f, pe_best E og mo o B k = some f → f < k ∧ (E f = true ∧ og f = o ∧ mo f < B) ∧ ∀ e, e < k → E e = true ∧ og e = o ∧ mo e < B → e = f ∨ pe_lat mo f e := by
  intro k
  induction k with
  | zero => intro f h; cases h
  | succ k ih =>
    intro f h
    unfold pe_best at h
    by_cases c : E k = true ∧ og k = o ∧ mo k < B
    · rw [if_pos c] at h
      split at h
      · rename_i h0
        cases h
        refine ⟨by omega, c, fun e he q => ?_⟩
        by_cases hk : e = k
        · exact Or.inl hk
        · exact absurd q (pe_best_none E og mo o B k h0 e (by omega))
      · rename_i f0 h0
        obtain ⟨a1, a2, a3⟩ := ih f0 h0
        split at h
        · rename_i hle
          cases h
          refine ⟨by omega, c, fun e he q => ?_⟩
          by_cases hk : e = k
          · exact Or.inl hk
          · right
            rcases a3 e (by omega) q with rfl | h1
            · unfold pe_lat; omega
            · unfold pe_lat at h1 ⊢; omega
        · rename_i hle
          cases h
          refine ⟨by omega, a2, fun e he q => ?_⟩
          by_cases hk : e = k
          · subst hk
            right
            unfold pe_lat
            omega
          · exact a3 e (by omega) q
    · rw [if_neg c] at h
      obtain ⟨a1, a2, a3⟩ := ih f h
      refine ⟨by omega, a2, fun e he q => ?_⟩
      by_cases hk : e = k
      · subst hk; exact absurd q c
      · exact a3 e (by omega) q
theorem pe_sum (E : Nat → Bool) (og mo : Nat → Nat) (am : Nat → Int32) (o B n : Nat) (hB : B ≤ 72) :
    pu_s n (fun e => if E e = true ∧ og e = o then (if mo e < B then am e else 0) + (if pe_rep E og mo e n < B then -(am e) else 0) else 0) = match pe_best E og mo o B n with
      | none => 0
      | some f => am f := by
  have zero : ∀ e, e < n → ¬ mo e < B → E e = true ∧ og e = o → (if mo e < B then am e else 0) + (if pe_rep E og mo e n < B then -(am e) else 0) = 0 := by
    intro e he h1 h2
    have h3 : ¬ pe_rep E og mo e n < B := by
      rw [pe_rep_lt E og mo e B hB n]
      rintro ⟨f, hf, -, -, h5, h6⟩
      unfold pe_lat at h5
      omega
    rw [if_neg h1, if_neg h3]
    rfl
  cases hb : pe_best E og mo o B n with
  | none =>
    have h0 := pe_best_none E og mo o B n hb
    refine pu_z (fun e he => ?_)
    by_cases c : E e = true ∧ og e = o
    · rw [if_pos c]
      exact zero e he (fun q => h0 e he ⟨c.1, c.2, q⟩) c
    · rw [if_neg c]
  | some f =>
    obtain ⟨a1, a2, a3⟩ := pe_best_some E og mo o B n f hb
    have hf : (if E f = true ∧ og f = o then (if mo f < B then am f else 0) + (if pe_rep E og mo f n < B then -(am f) else 0) else 0) = am f := by
      have h3 : ¬ pe_rep E og mo f n < B := by
        rw [pe_rep_lt E og mo f B hB n]
        rintro ⟨e, he, h4, h5, h6, h7⟩
        rcases a3 e he ⟨h4, h5.trans a2.2.1, h7⟩ with rfl | h8
        · unfold pe_lat at h6; omega
        · unfold pe_lat at h6 h8; omega
      rw [if_pos ⟨a2.1, a2.2.1⟩, if_pos a2.2.2, if_neg h3, Int32.add_zero]
    show _ = am f
    rw [← hf]
    refine pu_one (f := fun e => if E e = true ∧ og e = o then (if mo e < B then am e else 0) + (if pe_rep E og mo e n < B then -(am e) else 0) else 0) a1 (fun e he hne => ?_)
    by_cases c : E e = true ∧ og e = o
    · rw [if_pos c]
      by_cases h1 : mo e < B
      · have h2 : pe_rep E og mo e n < B := by
          rw [pe_rep_lt E og mo e B hB n]
          rcases a3 e he ⟨c.1, c.2, h1⟩ with h8 | h8
          · exact absurd h8 hne
          · exact ⟨f, a1, a2.1, a2.2.1.trans c.2.symm, h8, a2.2.2⟩
        rw [if_pos h1, if_pos h2, ← Int32.sub_eq_add_neg, Int32.sub_self]
      · exact zero e he h1 c
    · rw [if_neg c]
/-- the origins of a row -/
theorem pe_row {og i st : Nat} (hs : 0 < st) (x : Int32) : pu_s st (fun k => if og = i * st + k then x else 0) = if og / st = i then x else 0 := by
  by_cases h : og / st = i
  · rw [if_pos h]
    have h1 := Nat.div_add_mod og st
    have h2 := Nat.mod_lt og hs
    have h3 : og = i * st + og % st := by rw [← h, Nat.mul_comm]; omega
    have e : (if og = i * st + og % st then x else 0) = x := if_pos h3
    exact (pu_one (f := fun k => if og = i * st + k then x else 0) h2 (fun k hk hne => if_neg (fun q => hne (by omega)))).trans e
  · rw [if_neg h]
    refine pu_z (fun k hk => if_neg (fun q => h ?_))
    rw [q, Nat.mul_comm, Nat.mul_add_div hs, Nat.div_eq_of_lt hk, Nat.add_zero]
/-- all estimates of a row -/
theorem pe_all (E : Nat → Bool) (og mo : Nat → Nat) (am : Nat → Int32) (i st B n : Nat) (hs : 0 < st) (hB : B ≤ 72) :
    pu_s n (fun e => if E e = true ∧ og e / st = i then (if mo e < B then am e else 0) + (if pe_rep E og mo e n < B then -(am e) else 0) else 0) = pu_s st (fun k => match pe_best E og mo (i * st + k) B n with
      | none => 0
      | some f => am f) := by
  rw [← pu_ext (n := st) (fun k _ => pe_sum E og mo am (i * st + k) B n hB), ← pu_swap]
  refine pu_ext (fun e _ => ?_)
  show (if E e = true ∧ og e / st = i then (if mo e < B then am e else 0) + (if pe_rep E og mo e n < B then -(am e) else 0) else 0) = pu_s st (fun k => if E e = true ∧ og e = i * st + k then (if mo e < B then am e else 0) + (if pe_rep E og mo e n < B then -(am e) else 0) else 0)
  generalize (if mo e < B then am e else 0) + (if pe_rep E og mo e n < B then -(am e) else 0) = x
  by_cases c : E e = true
  · have h := pe_row (og := og e) (i := i) hs x
    have h2 : pu_s st (fun k => if E e = true ∧ og e = i * st + k then x else 0) = pu_s st (fun k => if og e = i * st + k then x else 0) := pu_ext (fun k _ => by
      by_cases q : og e = i * st + k
      · rw [if_pos q, if_pos ⟨c, q⟩]
      · rw [if_neg q, if_neg (fun z => q z.2)])
    rw [h2, h]
    by_cases d : og e / st = i
    · rw [if_pos ⟨c, d⟩, if_pos d]
    · rw [if_neg (fun z => d z.2), if_neg d]
  · rw [if_neg (fun z => c z.1)]
    exact (pu_z (fun k _ => if_neg (fun z => c z.1))).symm
end
section
/-! abstract values of fractions: (state, above, below); state 0 fine, 1 too long, 2 undefined (then 0, 0) -/
abbrev AV : Type := Nat × Int × Int
def av_op (f : Int → Int → Int → Int → Option (Int × Int)) (x y : AV) : AV :=
  if x.1 = 0 ∧ y.1 = 0 then (match f x.2.1 x.2.2 y.2.1 y.2.2 with
    | some q => (0, q.1, q.2)
    | none => (1, 0, 0)) else (max x.1 y.1, 0, 0)
def av_times (x y : AV) : AV := av_op sp_times x y
def av_plus (x y : AV) : AV := av_op sp_plus x y
def av_neg (x : AV) : AV := if x.1 = 0 then (0, -x.2.1, x.2.2) else x
def av_inv (x : AV) : AV := if x.1 = 0 then (if x.2.1 = 0 then (2, 0, 0) else if x.2.1 < 0 then (0, -x.2.2, -x.2.1) else (0, x.2.2, x.2.1)) else x
def av_quot (a b : Int) : AV := if b = 0 then (2, 0, 0) else if b < 0 then (0, -(a / (Int.gcd a b : Int)), -b / (Int.gcd a b : Int)) else (0, a / (Int.gcd a b : Int), b / (Int.gcd a b : Int))
def av_int (a : Int) : AV := (0, a, 1)
theorem av_op_comm {f : Int → Int → Int → Int → Option (Int × Int)} (hf : ∀ a b c d, f a b c d = f c d a b) (x y : AV) : av_op f x y = av_op f y x := by
  unfold av_op
  by_cases h : x.1 = 0 ∧ y.1 = 0
  · rw [if_pos h, if_pos ⟨h.2, h.1⟩, hf]
  · rw [if_neg h, if_neg (fun q => h ⟨q.2, q.1⟩), Nat.max_comm]
theorem av_times_comm (x y : AV) : av_times x y = av_times y x := av_op_comm sp_times_comm x y
theorem av_plus_comm (x y : AV) : av_plus x y = av_plus y x := av_op_comm sp_plus_comm x y
def av_ok (x : AV) : Prop := (x.1 = 0 ∧ sp_ok x.2.1 x.2.2) ∨ ((x.1 = 1 ∨ x.1 = 2) ∧ x.2 = (0, 0))
/-- the class's fraction as an abstract value; what is fine about it -/
def fv (t : Int64 × Int64 × Int32) : AV := if t.2.2 = 0 then (0, t.1.toInt, t.2.1.toInt) else if t.2.2 = 1 then (1, 0, 0) else (2, 0, 0)
def fr_ok (t : Int64 × Int64 × Int32) : Prop := (t.2.2 = 0 ∧ sp_ok t.1.toInt t.2.1.toInt) ∨ t.2.2 = 1 ∨ t.2.2 = 2
end
section
/-! the divisors, class and reference -/
theorem pf_eq0 (x : Int64) : lg_cmp x 0 = 0 ↔ x.toInt = 0 := (lg_cmp_eq x 0).trans pa_eq0
theorem pf_gz {x : Int64} (h : x.toInt ≠ 0) : ct_gzL x = true := decide_eq_true (fun e => h (pa_eq0.mp e))
theorem pf_of {n : Int} (h1 : -9223372036854775808 ≤ n) (h2 : n < 9223372036854775808) : (Int64.ofInt n).toInt = n := Int64.toInt_ofInt_of_le (by simpa using h1) (by simpa using h2)
/-- the greatest common divisor as an Int64 -/
def pf_g (a b : Int) : Int64 := Int64.ofInt (Int.gcd a b : Int)
theorem pf_gcd_le {a b : Int} (hb : b ≠ 0) : Int.gcd a b ≤ b.natAbs := Int.gcd_le_natAbs_right a hb
theorem pf_g_int {a b : Int} (ha : a.natAbs < 9223372036854775808) (hb : b.natAbs < 9223372036854775808) : (pf_g a b).toInt = Int.gcd a b := by
  unfold pf_g
  have h : Int.gcd a b < 9223372036854775808 := by
    by_cases h0 : b = 0
    · subst h0; simpa using ha
    · exact Nat.lt_of_le_of_lt (pf_gcd_le h0) hb
  exact pf_of (by omega) (by omega)
/-- the class's loop: k pairs of turns are left -/
theorem pf_div_loop (a1 a2 : Int64) : ∀ (k n : Nat) (p q : Int64) (v8 : Int32), 0 ≤ p.toInt → 0 ≤ q.toInt → q.toInt < 2 ^ k → 0 ≤ v8.toInt → v8.toInt + 2 * k ≤ 128 → 2 * k < n → bk_Fr_divisor_15 a1 a2 n p q v8 = some (ct_mxL (pf_g p.toInt q.toInt) 1) := by
  have hend : ∀ (n : Nat) (p q : Int64) (v8 : Int32), 0 ≤ p.toInt → q.toInt = 0 → 0 < n → bk_Fr_divisor_15 a1 a2 n p q v8 = some (ct_mxL (pf_g p.toInt q.toInt) 1) := by
    intro n p q v8 hp hq hn
    obtain ⟨n, rfl⟩ : ∃ z, n = z + 1 := ⟨n - 1, by omega⟩
    show bk_Fr_divisor_15_o a1 a2 (bk_Fr_divisor_15 a1 a2 n) p q v8 = _
    have e : pf_g p.toInt q.toInt = p := by
      unfold pf_g
      rw [hq, Int.gcd_zero]
      rw [Int.natAbs_of_nonneg hp, Int64.ofInt_toInt]
    unfold bk_Fr_divisor_15_o
    rw [if_pos ((pf_eq0 q).mpr hq), e]
    split <;> rfl
  intro k
  induction k with
  | zero =>
    intro n p q v8 hp hq h _ _ hn
    exact hend n p q v8 hp (by have : (2 : Int) ^ 0 = 1 := rfl; omega) (by omega)
  | succ k ih =>
    intro n p q v8 hp hq h hv1 hv2 hn
    by_cases hq0 : q.toInt = 0
    · exact hend n p q v8 hp hq0 (by omega)
    · obtain ⟨n, rfl⟩ : ∃ z, n = z + 2 := ⟨n - 2, by omega⟩
      have hc : ¬ (128 : Int32) ≤ v8 := fun z => by
        have z := Int32.le_iff_toInt_le.mp z
        have e : (128 : Int32).toInt = 128 := rfl
        omega
      have hr : (p - p / q * q).toInt = p.toInt % q.toInt := pa_rem hp (by omega)
      have hr1 := Int.emod_nonneg p.toInt hq0
      have hr2 := Int.emod_lt_of_pos p.toInt (show 0 < q.toInt by omega)
      have eg : pf_g p.toInt q.toInt = pf_g q.toInt (p - p / q * q).toInt := by
        unfold pf_g
        rw [hr, Int.gcd_comm p.toInt]
        congr 2
        rw [Int.emod_def, Int.gcd_sub_mul_left_right]
      show bk_Fr_divisor_15_o a1 a2 (bk_Fr_divisor_15 a1 a2 (n + 1)) p q v8 = _
      unfold bk_Fr_divisor_15_o
      rw [if_neg hc, if_neg (fun z => hq0 ((pf_eq0 q).mp z)), pf_gz hq0, ct_gd_t, ct_nm_eq, eg]
      generalize hrr : p - p / q * q = r at *
      by_cases hr0 : r.toInt = 0
      · exact hend (n + 1) q r (v8 + 1) (by omega) hr0 (by omega)
      · have hv3 : (v8 + 1).toInt = v8.toInt + 1 := by
          have h1 := pa_hi32 v8
          rw [Int32.toInt_add]
          exact Int.bmod_eq_of_le (by simp; omega) (by simp; omega)
        have hc2 : ¬ (128 : Int32) ≤ v8 + 1 := fun z => by
          have z := Int32.le_iff_toInt_le.mp z
          have e : (128 : Int32).toInt = 128 := rfl
          omega
        have hs : (q - q / r * r).toInt = q.toInt % r.toInt := pa_rem (by omega) (by omega)
        have hs1 := Int.emod_nonneg q.toInt hr0
        have hs2 := Int.emod_lt_of_pos q.toInt (show 0 < r.toInt by omega)
        have eg2 : pf_g q.toInt r.toInt = pf_g r.toInt (q - q / r * r).toInt := by
          unfold pf_g
          rw [hs, Int.gcd_comm q.toInt]
          congr 2
          rw [Int.emod_def, Int.gcd_sub_mul_left_right]
        have hhalf : 2 * (q.toInt % r.toInt) < q.toInt := by
          have h1 := pa_half (q := q.toInt.toNat) (r := r.toInt.toNat) (by omega) (by omega)
          have h2 : ((q.toInt.toNat % r.toInt.toNat : Nat) : Int) = q.toInt % r.toInt := by
            rw [Int.natCast_emod, Int.toNat_of_nonneg (by omega), Int.toNat_of_nonneg (by omega)]
          omega
        show bk_Fr_divisor_15_o a1 a2 (bk_Fr_divisor_15 a1 a2 n) q r (v8 + 1) = _
        unfold bk_Fr_divisor_15_o
        rw [if_neg hc2, if_neg (fun z => hr0 ((pf_eq0 r).mp z)), pf_gz hr0, ct_gd_t, ct_nm_eq, eg2]
        refine ih n r _ _ (by omega) (by omega) ?_ ?_ ?_ (by omega)
        · rw [hs]
          have : (2 : Int) ^ (k + 1) = 2 ^ k * 2 := Int.pow_succ 2 k
          omega
        · have h1 := pa_hi32 v8
          have : (v8 + 1 + 1).toInt = v8.toInt + 2 := by
            have e1 : (1 : Int32).toInt = 1 := rfl
            rw [Int32.toInt_add, hv3, e1, pa_bm32 (by omega) (by omega)]
            omega
          omega
        · have h1 := pa_hi32 v8
          have : (v8 + 1 + 1).toInt = v8.toInt + 2 := by
            have e1 : (1 : Int32).toInt = 1 := rfl
            rw [Int32.toInt_add, hv3, e1, pa_bm32 (by omega) (by omega)]
            omega
          omega
theorem pf_divisor {x y : Int64} (hx : x.toInt ≠ -9223372036854775808) (hy : y.toInt ≠ -9223372036854775808) (h0 : x.toInt ≠ 0 ∨ y.toInt ≠ 0) : fn_Fr_divisor x y = some (pf_g x.toInt y.toInt) := by
  have h1 := pa_lo x
  have h2 := pa_hi x
  have h3 := pa_lo y
  have h4 := pa_hi y
  unfold fn_Fr_divisor
  rw [ct_nm_eq, ct_nm_eq, pf_div_loop x y 63 200 _ _ _ (by rw [pa_abs hx]; omega) (by rw [pa_abs hy]; omega) (by rw [pa_abs hy]; have : (2 : Int) ^ 63 = 9223372036854775808 := rfl; omega) (by decide) (by decide) (by decide)]
  have e : pf_g (ct_abL x).toInt (ct_abL y).toInt = pf_g x.toInt y.toInt := by
    unfold pf_g
    rw [pa_abs hx, pa_abs hy]
    rfl
  rw [e]
  congr 1
  unfold ct_mxL
  have hg : (pf_g x.toInt y.toInt).toInt = Int.gcd x.toInt y.toInt := pf_g_int (by omega) (by omega)
  have hp : 0 < Int.gcd x.toInt y.toInt := Int.gcd_pos_iff.mpr h0
  by_cases c : (1 : Int64) < pf_g x.toInt y.toInt
  · rw [if_pos c]
  · rw [if_neg c]
    have c : ¬ (1 : Int64).toInt < (pf_g x.toInt y.toInt).toInt := fun z => c (Int64.lt_iff_toInt_lt.mpr z)
    have e1 : (1 : Int64).toInt = 1 := rfl
    exact Int64.toInt.inj (by rw [hg]; omega)
/-- the reference's loop -/
theorem pf_mdiv_loop (a1 a2 : Int64) : ∀ (k n : Nat) (p q : Int64), 0 ≤ p.toInt → 0 ≤ q.toInt → q.toInt < 2 ^ k → 2 * k < n → bk_Mo_divisor_6 a1 a2 n p q = some (pf_g p.toInt q.toInt) := by
  have hend : ∀ (n : Nat) (p q : Int64), 0 ≤ p.toInt → q.toInt = 0 → 0 < n → bk_Mo_divisor_6 a1 a2 n p q = some (pf_g p.toInt q.toInt) := by
    intro n p q hp hq hn
    obtain ⟨n, rfl⟩ : ∃ z, n = z + 1 := ⟨n - 1, by omega⟩
    show bk_Mo_divisor_6_o a1 a2 (bk_Mo_divisor_6 a1 a2 n) p q = _
    have e : pf_g p.toInt q.toInt = p := by
      unfold pf_g
      rw [hq, Int.gcd_zero]
      rw [Int.natAbs_of_nonneg hp, Int64.ofInt_toInt]
    unfold bk_Mo_divisor_6_o
    rw [if_pos ((pf_eq0 q).mpr hq), e]
  intro k
  induction k with
  | zero =>
    intro n p q hp hq h hn
    exact hend n p q hp (by have : (2 : Int) ^ 0 = 1 := rfl; omega) (by omega)
  | succ k ih =>
    intro n p q hp hq h hn
    by_cases hq0 : q.toInt = 0
    · exact hend n p q hp hq0 (by omega)
    · obtain ⟨n, rfl⟩ : ∃ z, n = z + 2 := ⟨n - 2, by omega⟩
      have hr : (p - p / q * q).toInt = p.toInt % q.toInt := pa_rem hp (by omega)
      have hr1 := Int.emod_nonneg p.toInt hq0
      have hr2 := Int.emod_lt_of_pos p.toInt (show 0 < q.toInt by omega)
      have eg : pf_g p.toInt q.toInt = pf_g q.toInt (p - p / q * q).toInt := by
        unfold pf_g
        rw [hr, Int.gcd_comm p.toInt]
        congr 2
        rw [Int.emod_def, Int.gcd_sub_mul_left_right]
      show bk_Mo_divisor_6_o a1 a2 (bk_Mo_divisor_6 a1 a2 (n + 1)) p q = _
      unfold bk_Mo_divisor_6_o
      rw [if_neg (fun z => hq0 ((pf_eq0 q).mp z)), pf_gz hq0, ct_gd_t, ct_nm_eq, eg]
      generalize hrr : p - p / q * q = r at *
      by_cases hr0 : r.toInt = 0
      · exact hend (n + 1) q r (by omega) hr0 (by omega)
      · have hs : (q - q / r * r).toInt = q.toInt % r.toInt := pa_rem (by omega) (by omega)
        have hs1 := Int.emod_nonneg q.toInt hr0
        have hs2 := Int.emod_lt_of_pos q.toInt (show 0 < r.toInt by omega)
        have eg2 : pf_g q.toInt r.toInt = pf_g r.toInt (q - q / r * r).toInt := by
          unfold pf_g
          rw [hs, Int.gcd_comm q.toInt]
          congr 2
          rw [Int.emod_def, Int.gcd_sub_mul_left_right]
        have hhalf : 2 * (q.toInt % r.toInt) < q.toInt := by
          have h1 := pa_half (q := q.toInt.toNat) (r := r.toInt.toNat) (by omega) (by omega)
          have h2 : ((q.toInt.toNat % r.toInt.toNat : Nat) : Int) = q.toInt % r.toInt := by
            rw [Int.natCast_emod, Int.toNat_of_nonneg (by omega), Int.toNat_of_nonneg (by omega)]
          omega
        show bk_Mo_divisor_6_o a1 a2 (bk_Mo_divisor_6 a1 a2 n) q r = _
        unfold bk_Mo_divisor_6_o
        rw [if_neg (fun z => hr0 ((pf_eq0 r).mp z)), pf_gz hr0, ct_gd_t, ct_nm_eq, eg2]
        refine ih n r _ (by omega) (by omega) ?_ (by omega)
        rw [hs]
        have : (2 : Int) ^ (k + 1) = 2 ^ k * 2 := Int.pow_succ 2 k
        omega
theorem pf_mdivisor {x y : Int64} (hx : 0 ≤ x.toInt) (hy : 0 ≤ y.toInt) : fn_Mo_divisor x y = some (pf_g x.toInt y.toInt) := by
  have h4 := pa_hi y
  unfold fn_Mo_divisor
  exact pf_mdiv_loop x y 63 200 x y hx hy (by have : (2 : Int) ^ 63 = 9223372036854775808 := rfl; omega) (by decide)
theorem pf_size {x : Int64} (hx : x.toInt ≠ -9223372036854775808) : ∃ z, fn_Mo_size x = some z ∧ z.toInt = x.toInt.natAbs := by
  unfold fn_Mo_size
  by_cases c : 0 ≤ lg_cmp x 0
  · rw [if_pos c]
    have c := Int64.le_iff_toInt_le.mp ((lg_cmp_ge x 0).mp c)
    have e : (0 : Int64).toInt = 0 := rfl
    exact ⟨x, rfl, by omega⟩
  · rw [if_neg c]
    have c : ¬ (0 : Int64).toInt ≤ x.toInt := fun z => c ((lg_cmp_ge x 0).mpr (Int64.le_iff_toInt_le.mpr z))
    have e : (0 : Int64).toInt = 0 := rfl
    exact ⟨-x, rfl, by rw [pa_neg hx]; omega⟩
/-! what fits -/
def pf_b (c : Prop) [Decidable c] : Int32 := if c then 1 else 0
theorem pf_quot {y : Int64} (hy : 0 < y.toInt) : ((4611686018427387904 : Int64) / y).toInt = 4611686018427387904 / y.toInt := by
  have e : (4611686018427387904 : Int64).toInt = 4611686018427387904 := rfl
  rw [pa_div (by rw [e]; decide), e, Int.tdiv_eq_ediv_of_nonneg (by decide)]
theorem pf_fits {x y : Int64} (hx : x.toInt ≠ -9223372036854775808) (hy : y.toInt ≠ -9223372036854775808) : fn_Fr_fits x y = some (pf_b ((x.toInt * y.toInt).natAbs ≤ 4611686018427387904)) := by
  unfold fn_Fr_fits pf_b
  by_cases h0 : y.toInt = 0
  · rw [if_pos ((pf_eq0 y).mpr h0), h0, Int.mul_zero]
    rfl
  · have ha := pa_abs hy
    have hb := pa_abs hx
    have hap : 0 < (ct_abL y).toInt := by omega
    rw [if_neg (fun z => h0 ((pf_eq0 y).mp z)), pf_gz (by omega), ct_gd_t]
    have e : (0 < lg_cmp (ct_abL x) (4611686018427387904 / ct_abL y)) ↔ ¬ (x.toInt * y.toInt).natAbs ≤ 4611686018427387904 := by
      rw [lg_cmp_gt, Int64.lt_iff_toInt_lt, pf_quot hap, ha, hb, Int.natAbs_mul, ← pa_fit (by omega), Nat.not_le, ← Int.ofNat_lt, Int.natCast_ediv]
      exact Iff.rfl
    by_cases c : (x.toInt * y.toInt).natAbs ≤ 4611686018427387904
    · rw [if_neg (fun z => e.mp z c), if_pos c]
    · rw [if_pos (e.mpr c), if_neg c]
theorem pf_short {x y : Int64} (hx : x.toInt ≠ -9223372036854775808) (hy : y.toInt ≠ -9223372036854775808) : fn_Mo_isShort x y = some (pf_b ((x.toInt * y.toInt).natAbs ≤ 4611686018427387904)) := by
  unfold fn_Mo_isShort pf_b
  by_cases h1 : x.toInt = 0
  · rw [if_pos ((pf_eq0 x).mpr h1), h1, Int.zero_mul]
    rfl
  rw [if_neg (fun z => h1 ((pf_eq0 x).mp z))]
  by_cases h0 : y.toInt = 0
  · rw [if_pos ((pf_eq0 y).mpr h0), h0, Int.mul_zero]
    rfl
  · obtain ⟨z1, e1, hb⟩ := pf_size hx
    obtain ⟨z2, e2, ha⟩ := pf_size hy
    have hap : 0 < z2.toInt := by omega
    rw [if_neg (fun z => h0 ((pf_eq0 y).mp z)), e1, ct_ob_s, e2, ct_ob_s, pf_gz (by omega), ct_gd_t]
    have e : (0 < lg_cmp z1 (4611686018427387904 / z2)) ↔ ¬ (x.toInt * y.toInt).natAbs ≤ 4611686018427387904 := by
      rw [lg_cmp_gt, Int64.lt_iff_toInt_lt, pf_quot hap, ha, hb, Int.natAbs_mul, ← pa_fit (by omega), Nat.not_le, ← Int.ofNat_lt, Int.natCast_ediv]
      exact Iff.rfl
    by_cases c : (x.toInt * y.toInt).natAbs ≤ 4611686018427387904
    · rw [if_neg (fun z => e.mp z c), if_pos c]
    · rw [if_pos (e.mpr c), if_neg c]
end
section
/-! ===== BEGIN words of one list among another's, by their places ===== -/
theorem goodIn_r {big : List Cond} (ws : List Cond) (ps : List Nat) (hp : ws = ps.filterMap (fun i => big[i]?)) (h : ws.all goodWord = true) : GoodIn big ws := by
  intro w hw
  have h1 := List.all_eq_true.mp h w hw
  rw [hp] at hw
  obtain ⟨i, -, hi⟩ := List.mem_filterMap.mp hw
  have hm : w ∈ big := by first | exact List.mem_of_getElem? hi | exact List.getElem?_mem hi
  exact ⟨hm, good_of_word h1⟩
theorem goodIn_app {big a b : List Cond} (ha : GoodIn big a) (hb : GoodIn big b) : GoodIn big (a ++ b) := fun w h => (List.mem_append.mp h).elim (ha w) (hb w)
theorem goodIn_ca {big a b : List Cond} {c : Cond} (ha : GoodIn big (c :: a)) (hb : GoodIn big b) : GoodIn big (c :: (a ++ b)) := fun w h => (List.mem_cons.mp h).elim (fun e => ha w (List.mem_cons.mpr (Or.inl e))) (fun h => (List.mem_append.mp h).elim (fun h => ha w (List.mem_cons.mpr (Or.inr h))) (hb w))
theorem goodIn_sub {big ws : List Cond} (hm : ∀ w ∈ ws, w ∈ big) (h : ws.all goodWord = true) : GoodIn big ws := fun w hw => ⟨hm w hw, good_of_word (List.all_eq_true.mp h w hw)⟩
/-! ===== END ===== -/
/-! ===== BEGIN exceptions that leave a method, and their catching by the caller (launches without stack traces) ===== -/
section VXA
/-! The laws vx_back, vx_callV, vx_callS, vx_callSW, vx_throw0, vx_throwS follow proofs of the library, with one case more: JvmDerived/Free/Laws.lean (Back.of_free), Shelf42/LK1.lean (callV, callS), Shelf/KitTraced.lean (throwNew0V, throwNewS). -/
/-- where a method has thrown q: the class by its name, the cell, what was written, the world -/
def vx_T (XC : String → State → State → Prop) (st : State) (q : Addr) (t : State) (mc ms : Nat) (free : Addr → Prop) : Prop :=
  ∃ (E : String) (ce : Cell) (L : List Loc), XC E st t ∧ t.heap[q]? = some ce ∧ ce.vm = .none ∧ st.vm.findClass E = some ce.cls ∧ st.WarmedH t.vm ∧ st.sameButNew ({ t with vm := st.vm } : State) L mc ms ∧ ∀ z ∈ L, free z.base
def vx_Q (Qc : Array Value → State → Outcome → State → Prop) (XC : String → State → State → Prop) (mc ms : Nat) (free : Addr → Prop) : Array Value → State → Outcome → State → Prop := fun a st o t =>
  (Qc a st o t ∧ ∃ L, FrameEnd st o t L mc ms ∧ ∀ q ∈ L, free q.base) ∨ ∃ q, o = .threw q ∧ vx_T XC st q t mc ms free
/-- a callee that returns or throws -/
def vx_Met (l : Launch) (y : MethodName) (ws : List Cond) (rm : Room) (Pc : Array Value → State → Prop) (Qc : Array Value → State → Outcome → State → Prop) (XC : String → State → State → Prop) (mc ms : Nat) (free : Addr → Prop) : Prop :=
  MetFree l y (headSpec ws rm) Pc (fun _ _ _ _ _ => True) (vx_Q Qc XC mc ms free)
def vx_Post (XC : String → State → State → Prop) (mc ms : Nat) (free : Addr → Prop) : Pt → Array Value → Addr → Pt → Prop := fun A a q B =>
  ∃ (g : JFrame) (mk : MethodId) (t : State) (L : List Loc) (E : String) (ce : Cell), B.U.heap = t.heap ∧ B.U.vm = t.vm ∧ XC E (A.U.calling g mk a) t ∧ t.heap[q]? = some ce ∧ ce.vm = .none ∧ A.U.vm.findClass E = some ce.cls ∧ B.locs = A.locs ++ L ∧ (∀ z ∈ L, free z.base) ∧ B.cells = A.cells + mc ∧ B.slots = A.slots + ms
def vx_Back (l : Launch) (R : Room) (p : Program) (e : Env) (below : List Frame) (s : State) (sargs : Array Value) (y : MethodName) (len W9 : Nat)
    (Pre : Pt → Array Value → Prop) (Post : Pt → Array Value → Option Value → Pt → Prop) (PostX : Pt → Array Value → Addr → Pt → Prop) : Prop :=
  ∀ (m : MethodId) (meth : Method) (c : Code) (A : Pt) (g : JFrame) (ig : Instr) (mk : MethodId) (a : Array Value),
    Stand p l e R s m sargs below meth c A.U A.locs A.cells A.slots → g.method = m → g.locals.size = c.maxLocals → decode c.code g.pc = .ok (ig, len) →
    2 * g.monitorRoom + (g.stack.map fun v => v.category).sum ≤ W9 → A.U.methodNamed? y = some mk → Pre A a →
    (∃ (v : Option Value) (B : Pt), Stand p l e R s m sargs below meth c B.U B.locs B.cells B.slots ∧ Post A a v B ∧
      Steps p.tables e below (doInvoke e (A.U.setTop g) [] mk a).1 (B.U.setTop { g with pc := g.pc + len, stack := v.toList ++ g.stack })) ∨
    (∃ (q : Addr) (B : Pt), Stand p l e R s m sargs below meth c B.U B.locs B.cells B.slots ∧ PostX A a q B ∧
      Steps p.tables e below (doInvoke e (A.U.setTop g) [] mk a).1 ((B.U.setTop g).pushFrame (.throwing q)))
section Payer
variable {l : Launch} {R : Room} {p : Program} {e : Env} {below : List Frame} {s : State} {sargs : Array Value} {y : MethodName} {len W9 : Nat}
theorem vx_back {ws : List Cond} {rm : Room} {Pc : Array Value → State → Prop} {Qc : Array Value → State → Outcome → State → Prop} {XC : String → State → State → Prop} {mc ms : Nat} {free : Addr → Prop} {bytes : ByteArray} {maxL : Nat} {ret : Option FieldType}
    (hM : vx_Met l y ws rm Pc Qc XC mc ms free) (hblind : FrameBlind Pc) (hrc : rm.cells = mc) (hrs : rm.slots = ms)
    (hframes : rm.frames + 1 ≤ R.frames) (hlocals : W9 + (maxL + 11) + rm.locals ≤ R.locals)
    (hws : ∀ w ∈ ws, ∀ a' U, s.WarmedH U.vm → w.before a' U = true) (hcode : Cond.code y bytes maxL ret ∈ ws) (hinit : ∀ a' U, s.WarmedH U.vm → (Cond.initialized y.cls).before a' U = true) :
    vx_Back l R p e below s sargs y len W9 (PreOf R mc ms Pc) (PostOf Qc mc ms free) (vx_Post XC mc ms free) := by
  intro m meth c A g ig mk a X hg hsize hdg hW hn hp
  have h1 : (headSpec ws rm).pre.before a A.U = true := atoms_intro fun w hw => hws w hw _ _ X.warmed
  have h2 : (Cond.code y bytes maxL ret).before a A.U = true := hws _ hcode _ _ X.warmed
  have h3 : (Cond.initialized y.cls).before a A.U = true := hinit _ _ X.warmed
  have h4 : A.cells + (headSpec ws rm).room.cells ≤ R.cells := by rw [show (headSpec ws rm).room.cells = mc from hrc]; exact hp.1
  have h5 : A.slots + (headSpec ws rm).room.slots ≤ R.slots := by rw [show (headSpec ws rm).room.slots = ms from hrs]; exact hp.2.1
  have hPc : Pc a (A.U.calling g mk a) := hblind _ _ _ _ hp.2.2
  obtain ⟨U, Ls, c0, s0⟩ := A
  dsimp only [Pt.U, Pt.locs, Pt.cells, Pt.slots] at h1 h2 h3 h4 h5 X hn hPc ⊢
  obtain ⟨methY, cY, hmY, hcY, -, hlY, -, -, -, -⟩ := Cond.code_spec hn h2
  obtain ⟨kY, hkY, -⟩ := className_of_methodNamed hn
  have hinitY : kY.init = .initialized := Cond.initialized_spec (findClass_of_methodNamed hn) hkY h3
  have h : At U g.method c below := by rw [hg]; exact X.here
  have hlocals9 : W9 + (maxL + 11) + (headSpec ws rm).room.locals ≤ R.locals := hlocals
  have happ : (headSpec ws rm).appliesLoose y e.platform (U.calling g mk a) = true :=
    Spec.appliesLoose_calling (g := g) h hdg hn hkY hinitY
      (X.room_calling (g := g) (R' := (headSpec ws rm).room) hsize hmY hcY hframes (by rw [hlY]; omega) h4 h5) h1
  obtain ⟨mid, hmid⟩ := h.above
  have hfr : (U.setTop g).frames = (.java g :: mid) ++ below := by rw [State.frames_setTop' g h.top, hmid]; rfl
  obtain ⟨o, s₂, hsteps, -, hend, hq⟩ := Steps.callFree hM p X.admits X.cas X.clock (acts := []) hfr happ hPc trivial
  have hq' : vx_Q Qc XC mc ms free a (U.calling g mk a) o s₂ := hq
  rw [State.frames_setTop' g h.top] at hend
  obtain ⟨g₀, hg0⟩ := Option.isSome_iff_exists.mp h.top
  obtain ⟨r, hr⟩ := State.topJava?_eq_some.mp hg0
  have hr' : (({ U with heap := s₂.heap, slotsUsed := s₂.slotsUsed } : State).setVm s₂.vm).frames = .java g₀ :: r := hr
  rcases hq' with ⟨hqc, L, hfe, hL⟩ | ⟨q, rfl, E, ce, L, hx, hce, hcv, hcl, hW₂, hsm, hL⟩
  · obtain ⟨⟨v, rfl⟩, hW₂, e2, q2, q3, q4, q5, q6⟩ := id hfe
    have e3 : s₂ = ({ (U.calling g mk a).setFrames s₂.frames with heap := s₂.heap, slotsUsed := s₂.slotsUsed } : State).setVm s₂.vm := by
      have : s₂ = ({ s₂ with vm := (U.calling g mk a).vm } : State).setVm s₂.vm := rfl
      rw [e2] at this
      exact this
    obtain ⟨c₂, i₂, len₂, hc₂, hd₂, hf₂⟩ := hend
    have hW' : U.WarmedH s₂.vm := hW₂
    have hcc : c₂ = c := by
      have h1 : s₂.code? g.method = U.code? g.method := by
        rw [State.code?_eq, State.code?_eq, hW'.alike.method?]
      exact Option.some.inj (hc₂.symm.trans (h1.trans h.code))
    subst hcc
    have hlen : len₂ = len := by rw [hdg] at hd₂; cases hd₂; rfl
    subst hlen
    have hs₂ : s₂ = (({ U with heap := s₂.heap, slotsUsed := s₂.slotsUsed } : State).setVm s₂.vm).setTop { g with pc := g.pc + len₂, stack := v.toList ++ g.stack } := by
      refine e3.trans ?_
      rw [hf₂, State.calling_eq h.top, State.setFrames_setFrames, State.setTop_of_frames _ hr', hr]
      rfl
    have hsame : U.sameButNew ({ U with heap := s₂.heap, slotsUsed := s₂.slotsUsed } : State) L mc ms := by
      refine ⟨?_, q2, q3, q4, q5, q6⟩
      obtain ⟨t, ht, -⟩ := State.frames_cons hr
      show ({ U with heap := s₂.heap, slotsUsed := s₂.slotsUsed } : State) = { U.setFrames U.frames with heap := s₂.heap, slotsUsed := s₂.slotsUsed }
      rw [State.setFrames_self ht]
    subst hg
    refine Or.inl ⟨v, ⟨(({ U with heap := s₂.heap, slotsUsed := s₂.slotsUsed } : State).setVm s₂.vm), Ls ++ L, c0 + mc, s0 + ms⟩,
      ⟨X.admits, X.cas, X.clock, X.frames, X.room, X.hears, X.method, X.code, (X.here.setHeapUsed s₂.heap s₂.slotsUsed).setVm hW'.alike, X.tail, State.WarmedH.trans X.warmed hW', X.limits, X.bytes, X.same.trans (hsame.setVm s.vm)⟩,
      ⟨g, mk, s₂, L, rfl, rfl, hqc, rfl, hL, rfl, rfl⟩, ?_⟩
    show Steps p.tables e below _ ((({ U with heap := s₂.heap, slotsUsed := s₂.slotsUsed } : State).setVm s₂.vm).setTop { g with pc := g.pc + len₂, stack := v.toList ++ g.stack })
    rw [← hs₂]
    exact hsteps
  · obtain ⟨e2, q2, q3, q4, q5, q6⟩ := id hsm
    have e3 : s₂ = ({ (U.calling g mk a).setFrames s₂.frames with heap := s₂.heap, slotsUsed := s₂.slotsUsed } : State).setVm s₂.vm := by
      have : s₂ = ({ s₂ with vm := (U.calling g mk a).vm } : State).setVm s₂.vm := rfl
      rw [e2] at this
      exact this
    have hf₂ : s₂.frames = .throwing q :: .java g :: U.frames.tail := hend
    have hW' : U.WarmedH s₂.vm := hW₂
    have hs₂ : s₂ = ((({ U with heap := s₂.heap, slotsUsed := s₂.slotsUsed } : State).setVm s₂.vm).setTop g).pushFrame (.throwing q) := by
      refine e3.trans ?_
      rw [hf₂, State.calling_eq h.top, State.setFrames_setFrames, State.pushFrame, State.frames_setTop _ hr', State.setTop_of_frames _ hr', State.setFrames_setFrames, hr]
      rfl
    have hsame : U.sameButNew ({ U with heap := s₂.heap, slotsUsed := s₂.slotsUsed } : State) L mc ms := by
      refine ⟨?_, q2, q3, q4, q5, q6⟩
      obtain ⟨t, ht, -⟩ := State.frames_cons hr
      show ({ U with heap := s₂.heap, slotsUsed := s₂.slotsUsed } : State) = { U.setFrames U.frames with heap := s₂.heap, slotsUsed := s₂.slotsUsed }
      rw [State.setFrames_self ht]
    subst hg
    refine Or.inr ⟨q, ⟨(({ U with heap := s₂.heap, slotsUsed := s₂.slotsUsed } : State).setVm s₂.vm), Ls ++ L, c0 + mc, s0 + ms⟩,
      ⟨X.admits, X.cas, X.clock, X.frames, X.room, X.hears, X.method, X.code, (X.here.setHeapUsed s₂.heap s₂.slotsUsed).setVm hW'.alike, X.tail, State.WarmedH.trans X.warmed hW', X.limits, X.bytes, X.same.trans (hsame.setVm s.vm)⟩,
      ⟨g, mk, s₂, L, E, ce, rfl, rfl, hx, hce, hcv, hcl, rfl, hL, rfl, rfl⟩, ?_⟩
    show Steps p.tables e below _ (((({ U with heap := s₂.heap, slotsUsed := s₂.slotsUsed } : State).setVm s₂.vm).setTop g).pushFrame (.throwing q))
    rw [← hs₂]
    exact hsteps
end Payer
section Calls
variable {p : Program} {l : Launch} {e : Env} {R : Room} {s : State} {m : MethodId} {args : Array Value} {below : List Frame} {meth : Method} {c : Code} {T : State} {locs : List Loc} {cells slots : Nat}
theorem vx_callV (X : Stand p l e R s m args below meth c T locs cells slots) (hexec : p.tables.exec = Jvm.exec) {own C : String} {index : Nat} {y : MethodName} {bytes : ByteArray} {maxL : Nat} {ret : Option FieldType}
    (hown : s.vm.findClass own = some m.cls) (hlink : (Cond.methodLink own index y).before args s = true) (hinst : (Cond.instanceMethod y).before args s = true) (hsel : (Cond.selects C y y).before args s = true)
    (hcode : (Cond.code y bytes maxL ret).before args s = true) (hy : y.cls ≠ "java/lang/invoke/MethodHandle" ∧ y.cls ≠ "java/lang/invoke/VarHandle")
    {W9 : Nat} {Pre : Pt → Array Value → Prop} {Post : Pt → Array Value → Option Value → Pt → Prop} {PostX : Pt → Array Value → Addr → Pt → Prop} (hK : vx_Back l R p e below s args y 3 W9 Pre Post PostX)
    {b : Addr} {cellB : Cell} (hcell : T.heap[b]? = some cellB) (hobj : cellB.vm.isStatics = false) (hcls : s.vm.findClass C = some cellB.cls)
    {g : JFrame} (hg : g.method = m) (hsize : g.locals.size = c.maxLocals) {argsL rest : List Value} (hlen : ∀ sig, parseMethodDescriptor y.desc = some sig → argsL.length = sig.parameters.length)
    (hstack : g.stack = argsL.reverse ++ .ref b :: rest) (hW : 2 * g.monitorRoom + (rest.map fun v => v.category).sum ≤ W9) (hdg : decode c.code g.pc = .ok (.invokevirtual index, 3))
    (hpre : ∀ vm₁, s.WarmedH vm₁ → Pre ⟨T.setVm vm₁, locs, cells, slots⟩ (Value.ref b :: argsL).toArray) :
    (∃ (v : Option Value) (vm₁ : Vm) (B : Pt), s.WarmedH vm₁ ∧ Stand p l e R s m args below meth c B.U B.locs B.cells B.slots ∧ Post ⟨T.setVm vm₁, locs, cells, slots⟩ (Value.ref b :: argsL).toArray v B ∧
      ∀ target, Steps p.tables e below (B.U.setTop { g with pc := g.pc + 3, stack := v.toList ++ rest }) target → Steps p.tables e below (T.setTop g) target) ∨
    (∃ (q : Addr) (vm₁ : Vm) (B : Pt), s.WarmedH vm₁ ∧ Stand p l e R s m args below meth c B.U B.locs B.cells B.slots ∧ PostX ⟨T.setVm vm₁, locs, cells, slots⟩ (Value.ref b :: argsL).toArray q B ∧
      Steps p.tables e below (T.setTop g) ((B.U.setTop { g with stack := rest }).pushFrame (.throwing q))) := by
  obtain ⟨mk, methM, hnamed, hmethM, hstM, habM⟩ := Cond.instanceMethod_spec hinst
  obtain ⟨methM', cM, hmethM', -, -, -, -, -, -, hsigM⟩ := Cond.code_spec hnamed hcode
  cases hmethM.symm.trans hmethM'
  obtain ⟨c2, r2, m2, q1, q2, q3, q4, kP, hkP, hkPi⟩ := Cond.selects_spec hsel
  cases hcls.symm.trans q1
  cases (State.methodFound?_of_named hnamed hy).symm.trans q2
  cases hnamed.symm.trans q3
  have hselP : selectMethod e.platform s.vm cellB.cls mk = .method mk := by rw [Launch.admits_selectMethod X.admits]; exact q4
  obtain ⟨vm₁, X₁, hstep₁⟩ := X.invokevirtual hexec hown hlink hnamed hmethM hstM hkP hkPi hy (a := b) (cell := cellB) hcell
    (fun z h => by rw [h] at hobj; cases hobj) hselP hmethM habM hkP hkPi (g := g) hg (argsL := argsL) (rest := rest) (hlen _ hsigM) hstack hdg
  rcases hK m meth c ⟨T.setVm vm₁, locs, cells, slots⟩ { g with stack := rest } (.invokevirtual index) mk (Value.ref b :: argsL).toArray X₁ hg hsize hdg hW (X₁.named hnamed) (hpre vm₁ X₁.warmed) with ⟨v, B, X', hpost, hsteps⟩ | ⟨q, B, X', hpost, hsteps⟩
  · exact Or.inl ⟨v, vm₁, B, X₁.warmed, X', hpost, fun target h => hstep₁ _ fun acts => by rw [doInvoke_state]; exact hsteps.trans h⟩
  · exact Or.inr ⟨q, vm₁, B, X₁.warmed, X', hpost, hstep₁ _ fun acts => by rw [doInvoke_state]; exact hsteps⟩
theorem vx_callS (X : Stand p l e R s m args below meth c T locs cells slots) (hexec : p.tables.exec = Jvm.exec) {own : String} {index : Nat} {y : MethodName} {bytes : ByteArray} {maxL : Nat} {ret : Option FieldType}
    (hown : s.vm.findClass own = some m.cls) (hlink : (Cond.methodLink own index y).before args s = true) (hstat : (Cond.static y).before args s = true) (hinit : (Cond.initialized y.cls).before args s = true)
    (hcode : (Cond.code y bytes maxL ret).before args s = true) (hy : y.cls ≠ "java/lang/invoke/MethodHandle" ∧ y.cls ≠ "java/lang/invoke/VarHandle")
    {W9 : Nat} {Pre : Pt → Array Value → Prop} {Post : Pt → Array Value → Option Value → Pt → Prop} {PostX : Pt → Array Value → Addr → Pt → Prop} (hK : vx_Back l R p e below s args y 3 W9 Pre Post PostX)
    {g : JFrame} (hg : g.method = m) (hsize : g.locals.size = c.maxLocals) {argsL rest : List Value} (hlen : ∀ sig, parseMethodDescriptor y.desc = some sig → argsL.length = sig.parameters.length)
    (hstack : g.stack = argsL.reverse ++ rest) (hW : 2 * g.monitorRoom + (rest.map fun v => v.category).sum ≤ W9) (hdg : decode c.code g.pc = .ok (.invokestatic index, 3))
    (hpre : ∀ vm₁, s.WarmedH vm₁ → Pre ⟨T.setVm vm₁, locs, cells, slots⟩ argsL.toArray) :
    (∃ (v : Option Value) (vm₁ : Vm) (B : Pt), s.WarmedH vm₁ ∧ Stand p l e R s m args below meth c B.U B.locs B.cells B.slots ∧ Post ⟨T.setVm vm₁, locs, cells, slots⟩ argsL.toArray v B ∧
      ∀ target, Steps p.tables e below (B.U.setTop { g with pc := g.pc + 3, stack := v.toList ++ rest }) target → Steps p.tables e below (T.setTop g) target) ∨
    (∃ (q : Addr) (vm₁ : Vm) (B : Pt), s.WarmedH vm₁ ∧ Stand p l e R s m args below meth c B.U B.locs B.cells B.slots ∧ PostX ⟨T.setVm vm₁, locs, cells, slots⟩ argsL.toArray q B ∧
      Steps p.tables e below (T.setTop g) ((B.U.setTop { g with stack := rest }).pushFrame (.throwing q))) := by
  obtain ⟨mk, hnamed⟩ := Cond.code_named hcode
  obtain ⟨methM, cM, hmethM, -, -, -, -, -, -, hsigM⟩ := Cond.code_spec hnamed hcode
  have hstatic : methM.isStatic = true := Cond.static_spec hnamed hmethM hstat
  obtain ⟨kP, hkP, -⟩ := className_of_methodNamed hnamed
  have hinitP : kP.init = .initialized := Cond.initialized_spec (findClass_of_methodNamed hnamed) hkP hinit
  obtain ⟨vm₁, X₁, hstep₁⟩ := X.invokestatic hexec hown hlink hnamed hmethM hstatic hkP hinitP hy (g := g) hg (argsL := argsL) (rest := rest) (hlen _ hsigM) hstack hdg
  rcases hK m meth c ⟨T.setVm vm₁, locs, cells, slots⟩ { g with stack := rest } (.invokestatic index) mk argsL.toArray X₁ hg hsize hdg hW (X₁.named hnamed) (hpre vm₁ X₁.warmed) with ⟨v, B, X', hpost, hsteps⟩ | ⟨q, B, X', hpost, hsteps⟩
  · exact Or.inl ⟨v, vm₁, B, X₁.warmed, X', hpost, fun target h => hstep₁ _ fun acts => by rw [doInvoke_state]; exact hsteps.trans h⟩
  · exact Or.inr ⟨q, vm₁, B, X₁.warmed, X', hpost, hstep₁ _ fun acts => by rw [doInvoke_state]; exact hsteps⟩
end Calls
theorem vx_cls {s : State} {T : State} {vm₁ : Vm} {E : String} {k : ClassId} (hW : s.WarmedH vm₁) (h : (T.setVm vm₁).vm.findClass E = some k) : s.vm.findClass E = some k := by
  have h1 : vm₁.findClass E = some k := h
  rw [hW.alike.findClass] at h1
  exact h1
/-- the method's frame g, with q thrown over it -/
def vx_W (p : Program) (l : Launch) (e : Env) (R : Room) (s : State) (m : MethodId) (args : Array Value) (below : List Frame) (meth : Method) (c : Code) (H : Heap) (locs : List Loc) (cells slots : Nat) (Q : State → Prop) (g : JFrame) (q : Addr) : Prop :=
  ∀ T : State, T.heap = H → Stand p l e R s m args below meth c T locs cells slots → ∃ t, Steps p.tables e below ((T.setTop g).pushFrame (.throwing q)) t ∧ Q t
def vx_Run (p : Program) (l : Launch) (e : Env) (R : Room) (s : State) (m : MethodId) (args : Array Value) (below : List Frame) (meth : Method) (c : Code) (H : Heap) (locs : List Loc) (cells slots mc ms : Nat) (g : JFrame) (rest : List Value) (Qa : State → Outcome → State → Prop) (XC : String → State → State → Prop) (free : Addr → Prop) : Prop :=
  ∀ T : State, T.heap = H → Stand p l e R s m args below meth c T locs cells slots →
    (∃ (v : Option Value) (st₀ t T' : State) (L : List Loc), st₀.heap = H ∧ Stand p l e R s m args below meth c T' (locs ++ L) (cells + mc) (slots + ms) ∧ (∀ q ∈ L, free q.base) ∧ T'.heap = t.heap ∧ T'.vm = t.vm ∧ Qa st₀ (.returned v) t ∧
      Goes p e below T g T' { g with pc := g.pc + 3, stack := v.toList ++ rest }) ∨
    (∃ (q : Addr) (st₀ t T' : State) (L : List Loc) (E : String) (ce : Cell), st₀.heap = H ∧ Stand p l e R s m args below meth c T' (locs ++ L) (cells + mc) (slots + ms) ∧ (∀ z ∈ L, free z.base) ∧ T'.heap = t.heap ∧ T'.vm = t.vm ∧ XC E st₀ t ∧ t.heap[q]? = some ce ∧ ce.vm = .none ∧ s.vm.findClass E = some ce.cls ∧
      Steps p.tables e below (T.setTop g) ((T'.setTop { g with stack := rest }).pushFrame (.throwing q)))
def vx_X {S : Type} (px : S → Prop) (B : String → S → State → Prop) (A : Nat → Prop) : String → State → State → Prop := fun E st t => ∃ u : S, px u ∧ B E u t ∧ va_F A st t
section Runs
variable {p : Program} {l : Launch} {e : Env} {R : Room} {s : State} {m : MethodId} {args : Array Value} {below : List Frame} {meth : Method} {c : Code} {H : Heap} {locs : List Loc} {cells slots : Nat}
variable {y : MethodName} {bytes cc : ByteArray} {maxL nL mc ms n index : Nat} {ret : Option FieldType} {ws : List Cond} {rm : Room} {Pc : Array Value → State → Prop} {Qc : Array Value → State → Outcome → State → Prop} {XC : String → State → State → Prop} {free : Addr → Prop} {Ts : List Cond} {own C : String} {b : Addr} {As rest : List Value} {g : JFrame}
theorem vx_callBack (cb : CallB R s args own index y bytes maxL ret ws rm mc ms n) (hM : vx_Met l y ws rm Pc Qc XC mc ms free) (hbl : FrameBlind Pc) : vx_Back l R p e below s args y 3 8 (PreOf R mc ms Pc) (PostOf Qc mc ms free) (vx_Post XC mc ms free) := by
  obtain ⟨hrc, hrs, hfr, hlo, hws, hcw, -, hini, -⟩ := cb
  exact vx_back (bytes := bytes) (maxL := maxL) (ret := ret) hM hbl hrc hrs hfr hlo hws hcw (fun a' U hW => word_at hW (Or.inl (by first | rfl | simp [Cond.onTables, Cond.keeps, Cond.steady])) hini)
theorem vx_runV (S : CallFix p m c cc nL s args Ts own) (hM : vx_Met l y ws rm Pc Qc XC mc ms free) (cw : CallW R s args own C index y bytes maxL ret ws rm mc ms n) (hp : PreV s H C b Pc As)
    (hg : g.method = m) (hn : As.length = n) (hsize : g.locals.size = nL) (hstack : g.stack = As.reverse ++ .ref b :: rest) (hW : 2 * g.monitorRoom + (rest.map fun v => v.category).sum ≤ 8) (hdg : decode cc g.pc = .ok (.invokevirtual index, 3)) (hf : cells + mc ≤ R.cells ∧ slots + ms ≤ R.slots) :
    vx_Run p l e R s m args below meth c H locs cells slots mc ms g rest (Qc (Value.ref b :: As).toArray) XC free := by
  have hK : vx_Back l R p e below s args y 3 8 (PreOf R mc ms Pc) (PostOf Qc mc ms free) (vx_Post XC mc ms free) := vx_callBack cw.1 hM hp.1
  obtain ⟨⟨-, -, -, -, -, -, hcode, -, hy, hlen, hl⟩, hin, hse⟩ := cw
  obtain ⟨hx, hb, hml, ho, -⟩ := S
  obtain ⟨-, ⟨cellB, hcB, hoB, hclB⟩, hPc⟩ := hp
  intro T hT X
  rcases vx_callV X hx (C := C) (bytes := bytes) (maxL := maxL) (ret := ret) ho hl hin hse hcode hy hK (by rw [hT]; exact hcB) hoB hclB hg (hsize.trans hml.symm) (argsL := As) (rest := rest) (fun sig h => hn.trans (hlen sig h)) hstack hW (by rw [hb]; exact hdg)
    (fun vm₁ hW₁ => ⟨hf.1, hf.2, hPc (T.setVm vm₁) hT hW₁⟩) with ⟨v, vm₁, ⟨U', l2, c2, s2⟩, hW₁, X', ⟨g', mk, t, L, e1, e2, hq, h1, hL, h2, h3⟩, st⟩ | ⟨q, vm₁, ⟨U', l2, c2, s2⟩, hW₁, X', ⟨g', mk, t, L, E, ce, e1, e2, hq, hce, hcv, hcl, h1, hL, h2, h3⟩, st⟩
  · dsimp only [Pt.U, Pt.locs, Pt.cells, Pt.slots] at X' e1 e2 h1 h2 h3 st
    subst h1; subst h2; subst h3
    exact Or.inl ⟨v, (T.setVm vm₁).calling g' mk (Value.ref b :: As).toArray, t, U', L, hT, X', hL, e1, e2, hq, st⟩
  · dsimp only [Pt.U, Pt.locs, Pt.cells, Pt.slots] at X' e1 e2 h1 h2 h3 st hcl
    subst h1; subst h2; subst h3
    exact Or.inr ⟨q, (T.setVm vm₁).calling g' mk (Value.ref b :: As).toArray, t, U', L, E, ce, hT, X', hL, e1, e2, hq, hce, hcv, vx_cls hW₁ hcl, st⟩
theorem vx_runS (S : CallFix p m c cc nL s args Ts own) (hM : vx_Met l y ws rm Pc Qc XC mc ms free) (cw : CallB R s args own index y bytes maxL ret ws rm mc ms n ∧ (Cond.static y).before args s = true) (hp : PreS s H Pc As)
    (hg : g.method = m) (hn : As.length = n) (hsize : g.locals.size = nL) (hstack : g.stack = As.reverse ++ rest) (hW : 2 * g.monitorRoom + (rest.map fun v => v.category).sum ≤ 8) (hdg : decode cc g.pc = .ok (.invokestatic index, 3)) (hf : cells + mc ≤ R.cells ∧ slots + ms ≤ R.slots) :
    vx_Run p l e R s m args below meth c H locs cells slots mc ms g rest (Qc As.toArray) XC free := by
  have hK : vx_Back l R p e below s args y 3 8 (PreOf R mc ms Pc) (PostOf Qc mc ms free) (vx_Post XC mc ms free) := vx_callBack cw.1 hM hp.1
  obtain ⟨⟨-, -, -, -, -, -, hcode, hini, hy, hlen, hl⟩, hstt⟩ := cw
  obtain ⟨hx, hb, hml, ho, -⟩ := S
  intro T hT X
  rcases vx_callS X hx (bytes := bytes) (maxL := maxL) (ret := ret) ho hl hstt hini hcode hy hK hg (hsize.trans hml.symm) (argsL := As) (rest := rest) (fun sig h => hn.trans (hlen sig h)) hstack hW (by rw [hb]; exact hdg)
    (fun vm₁ hW₁ => ⟨hf.1, hf.2, hp.2 (T.setVm vm₁) hT hW₁⟩) with ⟨v, vm₁, ⟨U', l2, c2, s2⟩, hW₁, X', ⟨g', mk, t, L, e1, e2, hq, h1, hL, h2, h3⟩, st⟩ | ⟨q, vm₁, ⟨U', l2, c2, s2⟩, hW₁, X', ⟨g', mk, t, L, E, ce, e1, e2, hq, hce, hcv, hcl, h1, hL, h2, h3⟩, st⟩
  · dsimp only [Pt.U, Pt.locs, Pt.cells, Pt.slots] at X' e1 e2 h1 h2 h3 st
    subst h1; subst h2; subst h3
    exact Or.inl ⟨v, (T.setVm vm₁).calling g' mk As.toArray, t, U', L, hT, X', hL, e1, e2, hq, st⟩
  · dsimp only [Pt.U, Pt.locs, Pt.cells, Pt.slots] at X' e1 e2 h1 h2 h3 st hcl
    subst h1; subst h2; subst h3
    exact Or.inr ⟨q, (T.setVm vm₁).calling g' mk As.toArray, t, U', L, E, ce, hT, X', hL, e1, e2, hq, hce, hcv, vx_cls hW₁ hcl, st⟩
end Runs
section Rows
variable {p : Program} {l : Launch} {e : Env} {R : Room} {s : State} {m : MethodId} {args : Array Value} {below : List Frame} {meth : Method} {c : Code} {H : Heap} {locs : List Loc} {cells slots : Nat} {Q : State → Prop}
variable {mc ms : Nat} {free : Addr → Prop} {A0 A1 : Nat → Prop} {H0 : Heap} {a : Array Value} {pc : Nat} {ls : Array Slot} {st0 rest : List Value}
theorem vx_keep {st₀ t T' : State} {L : List Loc} (h0 : st₀.heap = H) (e1 : T'.heap = t.heap) (hS : va_S A0 H0 H locs) (hA : ∀ q, q < H.size → A1 q → A0 q) (hf : ∀ q, free q → A0 q) (hL : ∀ q ∈ L, free q.base) (hF : va_F A1 st₀ t) :
    H.size ≤ T'.heap.size ∧ (∀ q : Nat, q < H.size → ¬ A1 q → T'.heap[q]? = H[q]?) ∧ va_S A0 H0 T'.heap (locs ++ L) := by
  obtain ⟨hz, hk⟩ := hF
  rw [h0] at hz hk
  exact ⟨by rw [e1]; exact hz, fun q h1 h2 => by rw [e1]; exact hk q h1 h2,
    ⟨Nat.le_trans hS.1 (by rw [e1]; exact hz), fun q h1 h2 => by rw [e1, hk q (Nat.lt_of_lt_of_le h1 hS.1) (fun z => h2 (hA q (Nat.lt_of_lt_of_le h1 hS.1) z))]; exact hS.2.1 q h1 h2, fun q hq => by
      rcases List.mem_append.mp hq with h | h
      · exact hS.2.2 q h
      · exact hf _ (hL q h)⟩⟩
theorem vx_calli {S SX : Type} {post : Int32 → S → Prop} {px : SX → Prop} {B : S → State → Prop} {BX : String → SX → State → Prop} {AX : Nat → Prop} (hr : vx_Run p l e R s m args below meth c H locs cells slots mc ms (F0 m pc ls st0) rest (va_Qi post B A1 a) (vx_X px BX AX) free) (hS : va_S A0 H0 H locs) (hA : ∀ q, q < H.size → A1 q → A0 q) (hf : ∀ q, free q → A0 q) (hAX : ∀ q, q < H.size → AX q → A0 q)
    (kx : ∀ (E : String) (ce : Cell) (q9 : Addr) (u : SX) (t : State) (H1 : Heap) (locs1 : List Loc), t.heap = H1 → s.vm.Alike t.vm → px u → BX E u t → H.size ≤ H1.size → (∀ q : Nat, q < H.size → ¬ AX q → H1[q]? = H[q]?) → va_S A0 H0 H1 locs1 → H1[q9]? = some ce → ce.vm = .none → s.vm.findClass E = some ce.cls → vx_W p l e R s m args below meth c H1 locs1 (cells + mc) (slots + ms) Q (F0 m pc ls rest) q9)
    (kk : ∀ (r : Int32) (u : S) (t : State) (H1 : Heap) (locs1 : List Loc), t.heap = H1 → s.vm.Alike t.vm → post r u → B u t → H.size ≤ H1.size → (∀ q : Nat, q < H.size → ¬ A1 q → H1[q]? = H[q]?) → va_S A0 H0 H1 locs1 → W p l e R s m args below meth c H1 locs1 (cells + mc) (slots + ms) Q (F0 m (pc + 3) ls (.int r :: rest))) : W p l e R s m args below meth c H locs cells slots Q (F0 m pc ls st0) := by
  intro T hT X
  rcases hr T hT X with ⟨v, st₀, t, T', L, h0, X', hL, e1, e2, ⟨⟨r, u, hv, hp, hb⟩, hF⟩, st⟩ | ⟨q, st₀, t, T', L, E, ce, h0, X', hL, e1, e2, ⟨u, hp, hb, hF⟩, hce, hcv, hcl, st⟩
  · cases hv
    obtain ⟨k1, k2, k3⟩ := vx_keep h0 e1 hS hA hf hL hF
    obtain ⟨t2, a1, b1⟩ := kk r u t T'.heap (locs ++ L) e1.symm (by rw [← e2]; exact X'.warmed.alike) hp hb k1 k2 k3 T' rfl X'
    exact ⟨t2, st t2 a1, b1⟩
  · obtain ⟨k1, k2, k3⟩ := vx_keep h0 e1 hS hAX hf hL hF
    obtain ⟨t2, a1, b1⟩ := kx E ce q u t T'.heap (locs ++ L) e1.symm (by rw [← e2]; exact X'.warmed.alike) hp hb k1 k2 k3 (by rw [e1]; exact hce) hcv hcl T' rfl X'
    exact ⟨t2, st.trans a1, b1⟩
theorem vx_calll {S SX : Type} {post : Int64 → S → Prop} {px : SX → Prop} {B : S → State → Prop} {BX : String → SX → State → Prop} {AX : Nat → Prop} (hr : vx_Run p l e R s m args below meth c H locs cells slots mc ms (F0 m pc ls st0) rest (va_Ql post B A1 a) (vx_X px BX AX) free) (hS : va_S A0 H0 H locs) (hA : ∀ q, q < H.size → A1 q → A0 q) (hf : ∀ q, free q → A0 q) (hAX : ∀ q, q < H.size → AX q → A0 q)
    (kx : ∀ (E : String) (ce : Cell) (q9 : Addr) (u : SX) (t : State) (H1 : Heap) (locs1 : List Loc), t.heap = H1 → s.vm.Alike t.vm → px u → BX E u t → H.size ≤ H1.size → (∀ q : Nat, q < H.size → ¬ AX q → H1[q]? = H[q]?) → va_S A0 H0 H1 locs1 → H1[q9]? = some ce → ce.vm = .none → s.vm.findClass E = some ce.cls → vx_W p l e R s m args below meth c H1 locs1 (cells + mc) (slots + ms) Q (F0 m pc ls rest) q9)
    (kk : ∀ (r : Int64) (u : S) (t : State) (H1 : Heap) (locs1 : List Loc), t.heap = H1 → s.vm.Alike t.vm → post r u → B u t → H.size ≤ H1.size → (∀ q : Nat, q < H.size → ¬ A1 q → H1[q]? = H[q]?) → va_S A0 H0 H1 locs1 → W p l e R s m args below meth c H1 locs1 (cells + mc) (slots + ms) Q (F0 m (pc + 3) ls (.long r :: rest))) : W p l e R s m args below meth c H locs cells slots Q (F0 m pc ls st0) := by
  intro T hT X
  rcases hr T hT X with ⟨v, st₀, t, T', L, h0, X', hL, e1, e2, ⟨⟨r, u, hv, hp, hb⟩, hF⟩, st⟩ | ⟨q, st₀, t, T', L, E, ce, h0, X', hL, e1, e2, ⟨u, hp, hb, hF⟩, hce, hcv, hcl, st⟩
  · cases hv
    obtain ⟨k1, k2, k3⟩ := vx_keep h0 e1 hS hA hf hL hF
    obtain ⟨t2, a1, b1⟩ := kk r u t T'.heap (locs ++ L) e1.symm (by rw [← e2]; exact X'.warmed.alike) hp hb k1 k2 k3 T' rfl X'
    exact ⟨t2, st t2 a1, b1⟩
  · obtain ⟨k1, k2, k3⟩ := vx_keep h0 e1 hS hAX hf hL hF
    obtain ⟨t2, a1, b1⟩ := kx E ce q u t T'.heap (locs ++ L) e1.symm (by rw [← e2]; exact X'.warmed.alike) hp hb k1 k2 k3 (by rw [e1]; exact hce) hcv hcl T' rfl X'
    exact ⟨t2, st.trans a1, b1⟩
theorem vx_callf {S SX : Type} {post : UInt32 → S → Prop} {px : SX → Prop} {B : S → State → Prop} {BX : String → SX → State → Prop} {AX : Nat → Prop} (hr : vx_Run p l e R s m args below meth c H locs cells slots mc ms (F0 m pc ls st0) rest (va_Qf post B A1 a) (vx_X px BX AX) free) (hS : va_S A0 H0 H locs) (hA : ∀ q, q < H.size → A1 q → A0 q) (hf : ∀ q, free q → A0 q) (hAX : ∀ q, q < H.size → AX q → A0 q)
    (kx : ∀ (E : String) (ce : Cell) (q9 : Addr) (u : SX) (t : State) (H1 : Heap) (locs1 : List Loc), t.heap = H1 → s.vm.Alike t.vm → px u → BX E u t → H.size ≤ H1.size → (∀ q : Nat, q < H.size → ¬ AX q → H1[q]? = H[q]?) → va_S A0 H0 H1 locs1 → H1[q9]? = some ce → ce.vm = .none → s.vm.findClass E = some ce.cls → vx_W p l e R s m args below meth c H1 locs1 (cells + mc) (slots + ms) Q (F0 m pc ls rest) q9)
    (kk : ∀ (r : UInt32) (u : S) (t : State) (H1 : Heap) (locs1 : List Loc), t.heap = H1 → s.vm.Alike t.vm → post r u → B u t → H.size ≤ H1.size → (∀ q : Nat, q < H.size → ¬ A1 q → H1[q]? = H[q]?) → va_S A0 H0 H1 locs1 → W p l e R s m args below meth c H1 locs1 (cells + mc) (slots + ms) Q (F0 m (pc + 3) ls (.float r :: rest))) : W p l e R s m args below meth c H locs cells slots Q (F0 m pc ls st0) := by
  intro T hT X
  rcases hr T hT X with ⟨v, st₀, t, T', L, h0, X', hL, e1, e2, ⟨⟨r, u, hv, hp, hb⟩, hF⟩, st⟩ | ⟨q, st₀, t, T', L, E, ce, h0, X', hL, e1, e2, ⟨u, hp, hb, hF⟩, hce, hcv, hcl, st⟩
  · cases hv
    obtain ⟨k1, k2, k3⟩ := vx_keep h0 e1 hS hA hf hL hF
    obtain ⟨t2, a1, b1⟩ := kk r u t T'.heap (locs ++ L) e1.symm (by rw [← e2]; exact X'.warmed.alike) hp hb k1 k2 k3 T' rfl X'
    exact ⟨t2, st t2 a1, b1⟩
  · obtain ⟨k1, k2, k3⟩ := vx_keep h0 e1 hS hAX hf hL hF
    obtain ⟨t2, a1, b1⟩ := kx E ce q u t T'.heap (locs ++ L) e1.symm (by rw [← e2]; exact X'.warmed.alike) hp hb k1 k2 k3 (by rw [e1]; exact hce) hcv hcl T' rfl X'
    exact ⟨t2, st.trans a1, b1⟩
theorem vx_calld {S SX : Type} {post : UInt64 → S → Prop} {px : SX → Prop} {B : S → State → Prop} {BX : String → SX → State → Prop} {AX : Nat → Prop} (hr : vx_Run p l e R s m args below meth c H locs cells slots mc ms (F0 m pc ls st0) rest (va_Qd post B A1 a) (vx_X px BX AX) free) (hS : va_S A0 H0 H locs) (hA : ∀ q, q < H.size → A1 q → A0 q) (hf : ∀ q, free q → A0 q) (hAX : ∀ q, q < H.size → AX q → A0 q)
    (kx : ∀ (E : String) (ce : Cell) (q9 : Addr) (u : SX) (t : State) (H1 : Heap) (locs1 : List Loc), t.heap = H1 → s.vm.Alike t.vm → px u → BX E u t → H.size ≤ H1.size → (∀ q : Nat, q < H.size → ¬ AX q → H1[q]? = H[q]?) → va_S A0 H0 H1 locs1 → H1[q9]? = some ce → ce.vm = .none → s.vm.findClass E = some ce.cls → vx_W p l e R s m args below meth c H1 locs1 (cells + mc) (slots + ms) Q (F0 m pc ls rest) q9)
    (kk : ∀ (r : UInt64) (u : S) (t : State) (H1 : Heap) (locs1 : List Loc), t.heap = H1 → s.vm.Alike t.vm → post r u → B u t → H.size ≤ H1.size → (∀ q : Nat, q < H.size → ¬ A1 q → H1[q]? = H[q]?) → va_S A0 H0 H1 locs1 → W p l e R s m args below meth c H1 locs1 (cells + mc) (slots + ms) Q (F0 m (pc + 3) ls (.double r :: rest))) : W p l e R s m args below meth c H locs cells slots Q (F0 m pc ls st0) := by
  intro T hT X
  rcases hr T hT X with ⟨v, st₀, t, T', L, h0, X', hL, e1, e2, ⟨⟨r, u, hv, hp, hb⟩, hF⟩, st⟩ | ⟨q, st₀, t, T', L, E, ce, h0, X', hL, e1, e2, ⟨u, hp, hb, hF⟩, hce, hcv, hcl, st⟩
  · cases hv
    obtain ⟨k1, k2, k3⟩ := vx_keep h0 e1 hS hA hf hL hF
    obtain ⟨t2, a1, b1⟩ := kk r u t T'.heap (locs ++ L) e1.symm (by rw [← e2]; exact X'.warmed.alike) hp hb k1 k2 k3 T' rfl X'
    exact ⟨t2, st t2 a1, b1⟩
  · obtain ⟨k1, k2, k3⟩ := vx_keep h0 e1 hS hAX hf hL hF
    obtain ⟨t2, a1, b1⟩ := kx E ce q u t T'.heap (locs ++ L) e1.symm (by rw [← e2]; exact X'.warmed.alike) hp hb k1 k2 k3 (by rw [e1]; exact hce) hcv hcl T' rfl X'
    exact ⟨t2, st.trans a1, b1⟩
theorem vx_callv {S SX : Type} {post : S → Prop} {px : SX → Prop} {B : S → State → Prop} {BX : String → SX → State → Prop} {AX : Nat → Prop} (hr : vx_Run p l e R s m args below meth c H locs cells slots mc ms (F0 m pc ls st0) rest (va_Qv post B A1 a) (vx_X px BX AX) free) (hS : va_S A0 H0 H locs) (hA : ∀ q, q < H.size → A1 q → A0 q) (hf : ∀ q, free q → A0 q) (hAX : ∀ q, q < H.size → AX q → A0 q)
    (kx : ∀ (E : String) (ce : Cell) (q9 : Addr) (u : SX) (t : State) (H1 : Heap) (locs1 : List Loc), t.heap = H1 → s.vm.Alike t.vm → px u → BX E u t → H.size ≤ H1.size → (∀ q : Nat, q < H.size → ¬ AX q → H1[q]? = H[q]?) → va_S A0 H0 H1 locs1 → H1[q9]? = some ce → ce.vm = .none → s.vm.findClass E = some ce.cls → vx_W p l e R s m args below meth c H1 locs1 (cells + mc) (slots + ms) Q (F0 m pc ls rest) q9)
    (kk : ∀ (u : S) (t : State) (H1 : Heap) (locs1 : List Loc), t.heap = H1 → s.vm.Alike t.vm → post u → B u t → H.size ≤ H1.size → (∀ q : Nat, q < H.size → ¬ A1 q → H1[q]? = H[q]?) → va_S A0 H0 H1 locs1 → W p l e R s m args below meth c H1 locs1 (cells + mc) (slots + ms) Q (F0 m (pc + 3) ls (rest))) : W p l e R s m args below meth c H locs cells slots Q (F0 m pc ls st0) := by
  intro T hT X
  rcases hr T hT X with ⟨v, st₀, t, T', L, h0, X', hL, e1, e2, ⟨⟨u, hv, hp, hb⟩, hF⟩, st⟩ | ⟨q, st₀, t, T', L, E, ce, h0, X', hL, e1, e2, ⟨u, hp, hb, hF⟩, hce, hcv, hcl, st⟩
  · cases hv
    obtain ⟨k1, k2, k3⟩ := vx_keep h0 e1 hS hA hf hL hF
    obtain ⟨t2, a1, b1⟩ := kk u t T'.heap (locs ++ L) e1.symm (by rw [← e2]; exact X'.warmed.alike) hp hb k1 k2 k3 T' rfl X'
    exact ⟨t2, st t2 a1, b1⟩
  · obtain ⟨k1, k2, k3⟩ := vx_keep h0 e1 hS hAX hf hL hF
    obtain ⟨t2, a1, b1⟩ := kx E ce q u t T'.heap (locs ++ L) e1.symm (by rw [← e2]; exact X'.warmed.alike) hp hb k1 k2 k3 (by rw [e1]; exact hce) hcv hcl T' rfl X'
    exact ⟨t2, st.trans a1, b1⟩
/-- caught by the row x of this method's table; the rows ahead don't take it -/
theorem vx_catch {own name : String} {E : String} {ce : Cell} {q : Addr} (hown : s.vm.findClass own = some m.cls) (pre : List ExceptionTableEntry) (x : ExceptionTableEntry) (suf : List ExceptionTableEntry) (hsplit : c.exceptionTable.toList = pre ++ x :: suf)
    (hpass : ∀ z ∈ pre, covers z pc = false ∨ (z.catchType ≠ 0 ∧ ∃ nm : String, (Cond.classLink own z.catchType nm).before args s = true ∧ va_Nc E nm s)) (hx : covers x pc = true) (h0 : x.catchType ≠ 0)
    (hlink : (Cond.classLink own x.catchType name).before args s = true) (hcast : (Cond.castable E name).before args s = true) (hcell : H[q]? = some ce) (hv : ce.vm = .none) (hcl : s.vm.findClass E = some ce.cls)
    (kk : W p l e R s m args below meth c H locs cells slots Q (F0 m x.handlerPc ls [.ref q])) : vx_W p l e R s m args below meth c H locs cells slots Q (F0 m pc ls rest) q := by
  intro T hT X
  have hpl : e.platform.magicAccessors = ({} : Platform).magicAccessors := by rw [X.admits.platform]
  obtain ⟨c3, c4, hc3, hc4, hasg⟩ := Cond.castable_spec hcast
  cases Option.some.inj (hc3.symm.trans hcl)
  obtain ⟨c5, hc5, hcl5⟩ := Cond.classLink_spec hown hlink e.platform hpl
  cases Option.some.inj (hc4.symm.trans hc5)
  obtain ⟨vm', X', st⟩ := X.thenCaughtThrough q (g := F0 m pc ls rest) rfl (Steps.refl _) (by rw [hT]; exact hcell) (by rw [hv]; rfl) (by obtain ⟨k9, h9, -⟩ := Vm.findClass_spec hcl; exact ⟨k9, h9⟩) pre x suf hsplit
    (fun z hz => by
      rcases hpass z hz with h | ⟨hz0, nm, hl1, hn1⟩
      · exact Or.inl h
      · obtain ⟨c6, hc6, hcl6⟩ := Cond.classLink_spec hown hl1 e.platform hpl
        obtain ⟨a8, b8, h1, h2, h3⟩ := hn1
        cases Option.some.inj (h1.symm.trans hcl)
        cases Option.some.inj (h2.symm.trans hc6)
        exact Or.inr ⟨hz0, _, hcl6, h3⟩) hx (Or.inr ⟨h0, c4, hcl5, hasg⟩)
  obtain ⟨t, a1, b1⟩ := kk (T.setVm vm') hT X'
  exact ⟨t, st.trans a1, b1⟩
end Rows
section Ends
variable {p : Program} {l : Launch} {e : Env} {R : Room} {s : State} {m : MethodId} {args : Array Value} {below : List Frame} {meth : Method} {c : Code} {H : Heap} {locs : List Loc} {cells slots : Nat} {Q : State → Prop}
variable {mc ms : Nat} {free : Addr → Prop} {A0 A1 : Nat → Prop} {H0 : Heap} {a : Array Value} {ls : Array Slot} {st0 rest : List Value}
variable {Qc : Array Value → State → Outcome → State → Prop} {XC : String → State → State → Prop}
/-- what a body that may throw owes at its end -/
def vx_MQ (below : List Frame) (Qc : Array Value → State → Outcome → State → Prop) (XC : String → State → State → Prop) (a : Array Value) (s : State) (mc ms : Nat) (free : Addr → Prop) : State → Prop := fun t =>
  ∃ o, t.status = .running ∧ Ended t below o ∧ vx_Q Qc XC mc ms free a s o t
theorem vx_ret {g : JFrame} {mc ms : Nat} (k : W p l e R s m args below meth c H locs cells slots (MQ below Qc args s mc ms free) g) : W p l e R s m args below meth c H locs cells slots (vx_MQ below Qc XC args s mc ms free) g := by
  intro T hT X
  obtain ⟨t, a1, o, b1, b2, b3, b4⟩ := k T hT X
  exact ⟨t, a1, o, b1, b2, Or.inl ⟨b3, b4⟩⟩
/-- not caught here: it goes on to the caller -/
theorem vx_widen {g : JFrame} {q : Addr} {k n : Nat} (h1 : cells ≤ k) (h2 : slots ≤ n) (kk : vx_W p l e R s m args below meth c H locs k n Q g q) : vx_W p l e R s m args below meth c H locs cells slots Q g q := fun T hT X => kk T hT (stand_widen X h1 h2)
theorem vx_out {pc : Nat} {E : String} {ce : Cell} {q : Addr} {mc ms : Nat} (hout : ∀ x ∈ c.exceptionTable.toList, covers x pc = false) (hlocks : meth.locks = false) (hcell : H[q]? = some ce) (hv : ce.vm = .none) (hcl : s.vm.findClass E = some ce.cls)
    (hx : ∀ t : State, t.heap = H → s.vm.Alike t.vm → XC E s t) (hf : ∀ z ∈ locs, free z.base) (hc : cells ≤ mc) (hs : slots ≤ ms) :
    vx_W p l e R s m args below meth c H locs cells slots (vx_MQ below Qc XC args s mc ms free) (F0 m pc ls rest) q := by
  intro T hT X
  obtain ⟨st1, hrun, hend, hW, hsm⟩ := X.leaveThrown q (g := F0 m pc ls rest) rfl rfl rfl hout hlocks
  have hcell9 : (T.setFrames (.throwing q :: below)).heap[q]? = some ce := by
    show T.heap[q]? = some ce
    rw [hT]; exact hcell
  exact ⟨_, st1, .threw q, hrun, hend, Or.inr ⟨q, rfl, E, ce, locs, hx _ hT hW.alike, hcell9, hv, hcl, hW, hsm.mono hc hs, hf⟩⟩
theorem vx_frame {U : State} {k n : Nat} (h : s.sameButNew ({ U with vm := s.vm } : State) locs k n) : s.heap.size ≤ U.heap.size ∧ ∀ q : Nat, q < s.heap.size → (∀ z ∈ locs, z.base ≠ q) → U.heap[q]? = s.heap[q]? := by
  obtain ⟨-, h2, -, -, -, h6⟩ := h
  refine ⟨h2, fun q hq hz => ?_⟩
  obtain ⟨c9, e1, e2, e3, e4⟩ := h6 q _ (Array.getElem?_eq_getElem hq)
  have hs : c9.slots = (s.heap[q]).slots := Array.ext_getElem? fun i => e4 i fun hm => hz _ hm rfl
  have h9 : c9 = s.heap[q] := by
    rw [hs] at e2
    exact e2
  have e5 : U.heap[q]? = some c9 := e1
  rw [e5, h9, Array.getElem?_eq_getElem hq]
/-- the words of a throw but the four that speak of the heap -/
def vx_no (w : Cond) : Bool := decide (w ≠ .isRef (.static Bundle.tN "UNASSIGNED_STACK" Bundle.steD)) && decide (w ≠ .isRef (.static Bundle.tN "SUPPRESSED_SENTINEL" Bundle.listD)) && decide (w ≠ .laysStatic Bundle.tN "UNASSIGNED_STACK" Bundle.steD) && decide (w ≠ .laysStatic Bundle.tN "SUPPRESSED_SENTINEL" Bundle.listD)
def vx_at0 (own : String) (ic : Nat) (X : String) (names : List String) : List Cond := (Bundle.ownAtoms0 own ic X names).filter vx_no
def vx_atS (own : String) (ic : Nat) (X : String) (names : List String) : List Cond := (Bundle.ownAtoms own ic X names).filter vx_no
/-- a word that the tables alone decide, or a good one -/
def vx_ot (w : Cond) : Bool := w.onTables || goodWord w
theorem vx_ot_at {args a' : Array Value} {s U : State} {w : Cond} (hW : s.WarmedH U.vm) (hvm : s.vm = U.vm) (hg : vx_ot w = true) (h : w.before args s = true) : w.before a' U = true := by
  simp only [vx_ot, Bool.or_eq_true] at hg
  rcases hg with hg | hg
  · exact va_tabs hg hvm h
  · exact word_at hW (good_of_word hg) h
/-- a list's words: the good ones out of the method's own list, the others by premises of their own -/
theorem vx_hat {args : Array Value} {s : State} {L B : List Cond} (h1 : ∀ w ∈ L.filter goodWord, w.before args s = true) (h2 : ∀ w ∈ L.filter (fun w => !goodWord w), w ∈ B) (h3 : ∀ w ∈ B, w.before args s = true) : ∀ w ∈ L, w.before args s = true := by
  intro w hw
  by_cases g : goodWord w = true
  · exact h1 w (List.mem_filter.mpr ⟨hw, g⟩)
  · refine h3 w (h2 w (List.mem_filter.mpr ⟨hw, ?_⟩))
    show (!goodWord w) = true
    cases hgw : goodWord w
    · rfl
    · exact absurd hgw g
theorem vx_c {args : Array Value} {s : State} {w : Cond} {B : List Cond} (h : w.before args s = true) (t : ∀ w ∈ B, w.before args s = true) : ∀ w' ∈ w :: B, w'.before args s = true := fun w' h' => (List.mem_cons.mp h').elim (fun e => by rw [e]; exact h) (t w')
theorem vx_n {args : Array Value} {s : State} : ∀ w ∈ ([] : List Cond), w.before args s = true := fun _ h => nomatch h
theorem vx_own {args : Array Value} {s : State} {L : List Cond} (h1 : ∀ w ∈ L.filter vx_no, w.before args s = true)
    (hU : (Cond.isRef (.static Bundle.tN "UNASSIGNED_STACK" Bundle.steD)).before args s = true) (hN : (Cond.isRef (.static Bundle.tN "SUPPRESSED_SENTINEL" Bundle.listD)).before args s = true)
    (lU : (Cond.laysStatic Bundle.tN "UNASSIGNED_STACK" Bundle.steD).before args s = true) (lN : (Cond.laysStatic Bundle.tN "SUPPRESSED_SENTINEL" Bundle.listD).before args s = true) : ∀ w ∈ L, w.before args s = true := by
  intro w hw
  by_cases e1 : w = .isRef (.static Bundle.tN "UNASSIGNED_STACK" Bundle.steD)
  · rw [e1]; exact hU
  · by_cases e2 : w = .isRef (.static Bundle.tN "SUPPRESSED_SENTINEL" Bundle.listD)
    · rw [e2]; exact hN
    · by_cases e3 : w = .laysStatic Bundle.tN "UNASSIGNED_STACK" Bundle.steD
      · rw [e3]; exact lU
      · by_cases e4 : w = .laysStatic Bundle.tN "SUPPRESSED_SENTINEL" Bundle.listD
        · rw [e4]; exact lN
        · exact h1 w (List.mem_filter.mpr ⟨hw, by unfold vx_no; rw [decide_eq_true e1, decide_eq_true e2, decide_eq_true e3, decide_eq_true e4]; rfl⟩)
/-- where a static field lies, its class's statics cell in H -/
def vx_L (C n d : String) (A : Nat → Prop) (U : State) (H : Heap) : Prop := ∃ (c : ClassId) (k : Class) (i : Nat) (f : Field) (a : Nat) (cell : Cell), U.vm.findClass C = some c ∧ U.fieldFound? C n d = some (c, k, i, f) ∧ f.isStatic = true ∧ k.statics = some a ∧ H[a]? = some cell ∧ cell.vm.isStatics = true ∧ cell.cls = c ∧ f.slot < cell.slots.size ∧ k.staticTypes[f.slot]? = some f.type ∧ ¬ A a
theorem vx_L.moved {C n d : String} {A : Nat → Prop} {u U : State} {H : Heap} (hvm : u.vm.Alike U.vm) (h : vx_L C n d A u H) : vx_L C n d A U H := by
  obtain ⟨c, k, i, f, a, cell, h1, h2, h3, h4, h5, h6, h7, h8, h9, h10⟩ := h
  obtain ⟨k', hi', he⟩ := State.fieldFound?_setVm hvm h2
  exact ⟨c, k', i, f, a, cell, by rw [hvm.findClass]; exact h1, hi', h3, by rw [he]; exact h4, h5, h6, h7, h8, by rw [he]; exact h9, h10⟩
theorem vx_L.kept {C n d : String} {A : Nat → Prop} {U : State} {H H1 : Heap} (h : vx_L C n d A U H) (hq : ∀ a : Nat, a < H.size → ¬ A a → H1[a]? = H[a]?) : vx_L C n d A U H1 := by
  obtain ⟨c, k, i, f, a, cell, h1, h2, h3, h4, h5, h6, h7, h8, h9, h10⟩ := h
  exact ⟨c, k, i, f, a, cell, h1, h2, h3, h4, by rw [hq a (Array.getElem?_eq_some_iff.mp h5).1 h10]; exact h5, h6, h7, h8, h9, h10⟩
theorem vx_L.narrow {C n d : String} {A B : Nat → Prop} {U : State} {H : Heap} (h : vx_L C n d A U H) (hAB : ∀ q, B q → A q) : vx_L C n d B U H := by
  obtain ⟨c, k, i, f, a, cell, h1, h2, h3, h4, h5, h6, h7, h8, h9, h10⟩ := h
  exact ⟨c, k, i, f, a, cell, h1, h2, h3, h4, h5, h6, h7, h8, h9, fun z => h10 (hAB _ z)⟩
theorem vx_L.word {C n d : String} {A : Nat → Prop} {s : State} {args : Array Value} (h : vx_L C n d A s s.heap) : (Cond.laysStatic C n d).before args s = true := by
  obtain ⟨c, k, i, f, a, cell, h1, h2, h3, h4, h5, h6, h7, h8, h9, -⟩ := h
  show (Cond.laysStatic C n d).holds args s none s [] = true
  exact Cond.laysStatic_of h1 h2 h3 h4 h5 h6 h7 h8 h9
/-- .. and what it holds: null or some reference -/
def vx_Zq (C n d : String) (A : Nat → Prop) (U : State) (H : Heap) : Prop := va_Zq C n d A U H ∧ vx_L C n d A U H
theorem vx_Zq.moved {C n d : String} {A : Nat → Prop} {u U : State} {H : Heap} (hvm : u.vm.Alike U.vm) (h : vx_Zq C n d A u H) : vx_Zq C n d A U H := ⟨va_Zq.moved hvm h.1, vx_L.moved hvm h.2⟩
theorem vx_Zq.kept {C n d : String} {A : Nat → Prop} {U : State} {H H1 : Heap} (h : vx_Zq C n d A U H) (hq : ∀ a : Nat, a < H.size → ¬ A a → H1[a]? = H[a]?) : vx_Zq C n d A U H1 := ⟨va_Zq.kept h.1 hq, vx_L.kept h.2 hq⟩
theorem vx_Zq.narrow {C n d : String} {A B : Nat → Prop} {U : State} {H : Heap} (h : vx_Zq C n d A U H) (hAB : ∀ q, B q → A q) : vx_Zq C n d B U H := ⟨va_Zq.narrow h.1 hAB, vx_L.narrow h.2 hAB⟩
theorem vx_Zqof {args : Array Value} {s : State} {C n d : String} {A : Nat → Prop} (hl : (Cond.laysStatic C n d).before args s = true) (hini : (Cond.initialized C).before args s = true) (h : (Cond.isRef (.static C n d)).before args s = true) (hA : ∀ a : Nat, a < s.heap.size → ¬ A a) : vx_Zq C n d A s s.heap := by
  refine ⟨va_Zqof hl hini h hA, ?_⟩
  obtain ⟨c, k, i, f, a, cell, h1, h2, h3, h4, h5, h6, h7, h8, h9⟩ := Cond.laysStatic_spec hl
  exact ⟨c, k, i, f, a, cell, h1, h2, h3, h4, h5, h6, h7, h8, h9, hA a (Array.getElem?_eq_some_iff.mp h5).1⟩
theorem vx_isRef {C n d : String} {v : Value} {A : Nat → Prop} {s : State} {args : Array Value} (h : va_Z C n d v A s s.heap) (hv : v.isRef = true) : (Cond.isRef (.static C n d)).before args s = true := by
  obtain ⟨cf, kf, fi, f, a, cell, h1, h2, h3, h4, h5, h6, h7, -⟩ := h
  have he : (Term.static C n d).eval args s none [] s = some v := by
    simp [Term.eval, State.fieldNamed?, h1, h2, h4, h5, h6, h7]
  simp only [Cond.before, Cond.holds, Cond.value, he]
  cases v <;> simp_all [Value.isRef]
theorem vx_isRefq {C n d : String} {A : Nat → Prop} {s : State} {args : Array Value} (h : va_Zq C n d A s s.heap) : (Cond.isRef (.static C n d)).before args s = true := by
  rcases h with h | ⟨t, h⟩
  · exact vx_isRef h rfl
  · exact vx_isRef h rfl
/-- the same frame, seen from here: as if the method were called anew in this heap -/
theorem vx_rebase {T : State} (X : Stand p l e R s m args below meth c T locs cells slots) {R' : Room} (hf : R'.frames ≤ R.frames) (hl : R'.locals ≤ R.locals) (hc : cells + R'.cells ≤ R.cells) (hs : slots + R'.slots ≤ R.slots) :
    Stand p l e R' ((T.setVm s.vm).setFrames (.invoking m args :: below)) m args below meth c T [] 0 0 := by
  have htop : (T.setVm s.vm).topJava?.isSome := X.here.top
  have hF : ((T.setVm s.vm).setFrames (.invoking m args :: below)).frames = .invoking m args :: below := State.frames_setFrames _ (State.cur_lt_of_top htop)
  obtain ⟨g₀, hg0⟩ := Option.isSome_iff_exists.mp htop
  obtain ⟨r, hr⟩ := State.topJava?_eq_some.mp hg0
  have hl9 : e.platform.stackLimits (T.setVm s.vm).me = e.platform.stackLimits s.me := X.limits
  have hb9 : (T.setVm s.vm).me.stackBytes = s.me.stackBytes := X.bytes
  refine ⟨X.admits, X.cas, X.clock, hF, ?_, X.hears, X.method, X.code, X.here, X.tail, X.warmed, ?_, ?_, ?_⟩
  · have h := X.room
    have hU : ((T.setVm s.vm).setFrames (.invoking m args :: below)).localsInUse = s.localsInUse := by
      rw [State.localsInUse_invoking hF (meth := meth) (c := c) X.method X.code, State.localsInUse_invoking X.frames X.method X.code]
    simp only [State.hasRoom, Bool.and_eq_true, decide_eq_true_eq] at h ⊢
    obtain ⟨⟨⟨⟨h1, h2, h3, h4, h5, h6⟩, h7⟩, h8⟩, h9⟩ := h
    rw [X.frames, List.length_cons] at h2 h3
    have q1 := X.heapSize
    have q2 := X.used
    simp only [hF, hU, List.length_cons, State.stackLimits_setFrames, State.stackBytes_setFrames, hl9, hb9]
    refine ⟨⟨⟨⟨by omega, by omega, by omega, by omega, by omega, h6⟩, ?_⟩, ?_⟩, X.book⟩
    · show T.heap.size + R'.cells ≤ e.platform.maxCells
      omega
    · show T.slotsUsed + R'.slots ≤ e.platform.maxSlots
      omega
  · rw [State.stackLimits_setFrames]; rfl
  · rw [State.stackBytes_setFrames]; rfl
  · refine ⟨?_, Nat.le_refl _, Nat.le_refl _, ?_, ?_, fun a c9 h9 => ⟨c9, h9, rfl, rfl, fun _ _ => rfl⟩⟩
    · obtain ⟨t, ht, -⟩ := State.frames_cons hr
      show T.setVm s.vm = { ((T.setVm s.vm).setFrames (.invoking m args :: below)).setFrames (T.setVm s.vm).frames with heap := T.heap, slotsUsed := T.slotsUsed }
      rw [State.setFrames_setFrames, State.setFrames_self ht]
      rfl
    · show T.slotsUsed = T.slotsUsed + ((T.heap.toList.drop T.heap.size).map (·.slots.size)).sum
      rw [List.drop_eq_nil_of_le (Nat.le_of_eq Array.length_toList)]
      rfl
    · show ((T.heap.toList.drop T.heap.size).map (·.slots.size)).sum ≤ 0
      rw [List.drop_eq_nil_of_le (Nat.le_of_eq Array.length_toList)]
      exact Nat.le_refl _
/-- 'throw new E()': new; dup; invokespecial; athrow -/
theorem vx_throw0 {cc : ByteArray} {pc : Nat} (hexec : p.tables.exec = Jvm.exec) (hb : c.code = cc) (hl : l.stackTraces = false) {own cls : String} {names : List String} {ik ic mc ms : Nat} {A : Nat → Prop}
    (hown : s.vm.findClass own = some m.cls) (hcls : Bundle.fit cls = true) (hnames : ∀ n ∈ names, Bundle.fit n = true)
    (hk : (Cond.classLink own ik cls).before args s = true) (hini : (Cond.initialized cls).before args s = true) (hat : ∀ w ∈ vx_at0 own ic cls names, w.before args s = true)
    (hgood : ∀ w ∈ Cond.classLink own ik cls :: Cond.initialized cls :: vx_at0 own ic cls names, vx_ot w = true)
    (hU : vx_Zq Bundle.tN "UNASSIGNED_STACK" Bundle.steD A s s.heap) (hN : vx_Zq Bundle.tN "SUPPRESSED_SENTINEL" Bundle.listD A s s.heap) (hS : va_S A s.heap H locs) (hsize : ls.size = c.maxLocals)
    (d0 : decode cc pc = .ok (.new ik, 3)) (d3 : decode cc (pc + 3) = .ok (.dup, 1)) (d4 : decode cc (pc + 4) = .ok (.invokespecial ic, 3)) (d7 : decode cc (pc + 7) = .ok (.athrow, 1))
    (hout : ∀ x ∈ c.exceptionTable.toList, covers x (pc + 7) = false)
    (hRframes : names.length + 3 < R.frames) (hRlocals : (rest.map fun v => v.category).sum + (13 * (names.length + 1) + 42) ≤ R.locals) (hRcells : cells + 1 ≤ R.cells) (hRslots : slots + 6 ≤ R.slots) (hlocks : meth.locks = false)
    (hx : ∀ t : State, s.vm.Alike t.vm → H.size ≤ t.heap.size → (∀ q : Nat, q < H.size → t.heap[q]? = H[q]?) → XC cls s t)
    (hf : ∀ z ∈ locs, free z.base) (hc : cells + 1 ≤ mc) (hs : slots + 6 ≤ ms) :
    W p l e R s m args below meth c H locs cells slots (vx_MQ below Qc XC args s mc ms free) (F0 m pc ls rest) := by
  intro T hT X
  have htr : e.platform.stackTraces = false := (show e.platform.stackTraces = l.stackTraces by rw [X.admits.platform]).trans hl
  have Y := vx_rebase X (R' := { frames := R.frames, locals := R.locals, cells := 1, slots := 6 }) (Nat.le_refl _) (Nat.le_refl _) hRcells hRslots
  obtain ⟨s', hA⟩ : ∃ z, z = (T.setVm s.vm).setFrames (.invoking m args :: below) := ⟨_, rfl⟩
  rw [← hA] at Y
  have hvm : s'.vm = s.vm := by rw [hA]; rfl
  have hhp : s'.heap = H := by rw [hA]; exact hT
  have hW0 : s.WarmedH s'.vm := by rw [hvm]; exact State.WarmedH.refl s
  have hat' : ∀ w ∈ vx_at0 own ic cls names, w.before args s' = true := fun w hw => vx_ot_at hW0 hvm.symm (hgood w (List.mem_cons_of_mem _ (List.mem_cons_of_mem _ hw))) (hat w hw)
  have hk' : (Cond.classLink own ik cls).before args s' = true := vx_ot_at hW0 hvm.symm (hgood _ List.mem_cons_self) hk
  have hini' : (Cond.initialized cls).before args s' = true := vx_ot_at hW0 hvm.symm (hgood _ (List.mem_cons_of_mem _ List.mem_cons_self)) hini
  have hU' : vx_Zq Bundle.tN "UNASSIGNED_STACK" Bundle.steD A s' s'.heap := by rw [hhp]; exact vx_Zq.moved hW0.alike (hU.kept hS.2.1)
  have hN' : vx_Zq Bundle.tN "SUPPRESSED_SENTINEL" Bundle.listD A s' s'.heap := by rw [hhp]; exact vx_Zq.moved hW0.alike (hN.kept hS.2.1)
  have h : ∀ w ∈ Bundle.ownAtoms0 own ic cls names, w.before args s' = true := vx_own hat' (vx_isRefq hU'.1) (vx_isRefq hN'.1) hU'.2.word hN'.2.word
  have hown' : s'.vm.findClass own = some m.cls := by rw [hvm]; exact hown
  have hins : (Cond.instantiable cls 6).before args s' = true := h _ (by simp [Bundle.ownAtoms0])
  obtain ⟨vm₁, cX, kX, hfX, hkX, -, -, X₁, st1⟩ := Y.newCold hexec (own := own) (C := cls) (index := ik) (n := 6) hown' hk' hins hini'
    (g := F0 m pc ls rest) rfl (by rw [hb]; exact d0) (Nat.le_refl _) (Nat.le_refl _)
  generalize hT1 : (T.setVm vm₁).pushCell { cls := cX, slots := kX.instanceTypes.map defaultValue, vm := .none } = T1 at X₁ st1
  have hcat : (Value.ref T.heap.size).category = 1 := rfl
  have hcellA : T1.heap[T.heap.size]? = some (freshCell cX kX) := by rw [← hT1]; exact State.heap_pushCell_size _ _
  have d3' : decode c.code (pc + 3) = .ok (.dup, 1) := by rw [hb]; exact d3
  obtain ⟨U, hsteps, hrun, hend, hW, hsame, ce, hce, hO⟩ := X₁.ctorThrow0 hexec htr (own := own) (cls := cls) (names := names) (ic := ic) hown' hcls hnames h (fun x hx => nomatch hx) hfX hkX hcellA (by rw [hhp, hT]; exact Nat.le_refl _)
    (g := { method := m, pc := pc + 4, locals := ls, stack := .ref T.heap.size :: .ref T.heap.size :: rest, locked := none }) rfl hsize rfl rfl (rest := rest) rfl
    (by rw [hb]; exact d4) (by rw [hb]; exact d7) hout hRframes (by simp only [List.map_cons, List.sum_cons, hcat]; omega) hlocks
  obtain ⟨f1, f2⟩ := vx_frame hsame
  rw [hhp] at f1 f2
  have hWs : s.WarmedH U.vm := State.WarmedH.trans hW0 hW
  have hcl : s.vm.findClass cls = some ce.cls := by
    have h9 := hO.cls
    rw [hvm] at h9
    exact h9
  have hall : s.sameButNew ({ U with vm := s.vm } : State) locs mc ms := by
    subst hA
    obtain ⟨e1, e2⟩ := hsame
    rw [State.setFrames_setFrames] at e1
    have h2 : (T.setVm s.vm).sameButNew ({ U with vm := s.vm } : State) [] (0 + 1) (0 + 6) := ⟨e1, e2⟩
    have h3 := X.same.trans h2
    rw [List.append_nil] at h3
    exact h3.mono hc hs
  refine ⟨U, ?_, .threw T.heap.size, hrun, hend, Or.inr ⟨T.heap.size, rfl, cls, ce, locs, hx U hWs.alike f1 (fun q hq => f2 q hq (fun z hz => nomatch hz)), hce, hO.vm, hcl, hWs, hall, hf⟩⟩
  refine st1 _ ?_
  show Steps p.tables e below (T1.setTop { method := m, pc := pc + 3, locals := ls, stack := .ref T.heap.size :: rest, locked := none }) _
  jvm_step X₁.here [X₁.here.top, hexec, d3', Value.category]
  exact hsteps
/-- 'throw new E("text")': new; dup; ldc; invokespecial; athrow -/
theorem vx_throwS {cc : ByteArray} {pc : Nat} (hexec : p.tables.exec = Jvm.exec) (hb : c.code = cc) (hl : l.stackTraces = false) {own cls text : String} {names : List String} {ik is ic mc ms sa : Nat} {A : Nat → Prop}
    (hown : s.vm.findClass own = some m.cls) (hcls : Bundle.fit cls = true) (hnames : ∀ n ∈ names, Bundle.fit n = true)
    (hk : (Cond.classLink own ik cls).before args s = true) (hini : (Cond.initialized cls).before args s = true) (hstr : vk_R own is text sa s) (hat : ∀ w ∈ vx_atS own ic cls names, w.before args s = true)
    (hgood : ∀ w ∈ Cond.classLink own ik cls :: Cond.initialized cls :: vx_atS own ic cls names, vx_ot w = true)
    (hU : vx_Zq Bundle.tN "UNASSIGNED_STACK" Bundle.steD A s s.heap) (hN : vx_Zq Bundle.tN "SUPPRESSED_SENTINEL" Bundle.listD A s s.heap) (hS : va_S A s.heap H locs) (hsize : ls.size = c.maxLocals)
    (d0 : decode cc pc = .ok (.new ik, 3)) (d3 : decode cc (pc + 3) = .ok (.dup, 1)) (d4 : decode cc (pc + 4) = .ok (.ldc is, 2)) (d6 : decode cc (pc + 6) = .ok (.invokespecial ic, 3)) (d9 : decode cc (pc + 9) = .ok (.athrow, 1))
    (hout : ∀ x ∈ c.exceptionTable.toList, covers x (pc + 9) = false)
    (hRframes : names.length + 3 < R.frames) (hRlocals : (rest.map fun v => v.category).sum + (13 * (names.length + 1) + 43) ≤ R.locals) (hRcells : cells + 1 ≤ R.cells) (hRslots : slots + 6 ≤ R.slots) (hlocks : meth.locks = false)
    (hx : ∀ t : State, s.vm.Alike t.vm → H.size ≤ t.heap.size → (∀ q : Nat, q < H.size → t.heap[q]? = H[q]?) → XC cls s t)
    (hf : ∀ z ∈ locs, free z.base) (hc : cells + 1 ≤ mc) (hs : slots + 6 ≤ ms) :
    W p l e R s m args below meth c H locs cells slots (vx_MQ below Qc XC args s mc ms free) (F0 m pc ls rest) := by
  intro T hT X
  have htr : e.platform.stackTraces = false := (show e.platform.stackTraces = l.stackTraces by rw [X.admits.platform]).trans hl
  have Y := vx_rebase X (R' := { frames := R.frames, locals := R.locals, cells := 1, slots := 6 }) (Nat.le_refl _) (Nat.le_refl _) hRcells hRslots
  obtain ⟨s', hA⟩ : ∃ z, z = (T.setVm s.vm).setFrames (.invoking m args :: below) := ⟨_, rfl⟩
  rw [← hA] at Y
  have hvm : s'.vm = s.vm := by rw [hA]; rfl
  have hhp : s'.heap = H := by rw [hA]; exact hT
  have hW0 : s.WarmedH s'.vm := by rw [hvm]; exact State.WarmedH.refl s
  have hat' : ∀ w ∈ vx_atS own ic cls names, w.before args s' = true := fun w hw => vx_ot_at hW0 hvm.symm (hgood w (List.mem_cons_of_mem _ (List.mem_cons_of_mem _ hw))) (hat w hw)
  have hk' : (Cond.classLink own ik cls).before args s' = true := vx_ot_at hW0 hvm.symm (hgood _ List.mem_cons_self) hk
  have hini' : (Cond.initialized cls).before args s' = true := vx_ot_at hW0 hvm.symm (hgood _ (List.mem_cons_of_mem _ List.mem_cons_self)) hini
  have hU' : vx_Zq Bundle.tN "UNASSIGNED_STACK" Bundle.steD A s' s'.heap := by rw [hhp]; exact vx_Zq.moved hW0.alike (hU.kept hS.2.1)
  have hN' : vx_Zq Bundle.tN "SUPPRESSED_SENTINEL" Bundle.listD A s' s'.heap := by rw [hhp]; exact vx_Zq.moved hW0.alike (hN.kept hS.2.1)
  have h : ∀ w ∈ Bundle.ownAtoms own ic cls names, w.before args s' = true := vx_own hat' (vx_isRefq hU'.1) (vx_isRefq hN'.1) hU'.2.word hN'.2.word
  have hown' : s'.vm.findClass own = some m.cls := by rw [hvm]; exact hown
  have hins : (Cond.instantiable cls 6).before args s' = true := h _ (by simp [Bundle.ownAtoms])
  obtain ⟨vm₁, cX, kX, hfX, hkX, -, -, X₁, st1⟩ := Y.newCold hexec (own := own) (C := cls) (index := ik) (n := 6) hown' hk' hins hini'
    (g := F0 m pc ls rest) rfl (by rw [hb]; exact d0) (Nat.le_refl _) (Nat.le_refl _)
  generalize hT1 : (T.setVm vm₁).pushCell { cls := cX, slots := kX.instanceTypes.map defaultValue, vm := .none } = T1 at X₁ st1
  have hcat : (Value.ref T.heap.size).category = 1 := rfl
  have hcellA : T1.heap[T.heap.size]? = some (freshCell cX kX) := by rw [← hT1]; exact State.heap_pushCell_size _ _
  have d3' : decode c.code (pc + 3) = .ok (.dup, 1) := by rw [hb]; exact d3
  have d4' : decode c.code (pc + 4) = .ok (.ldc is, 2) := by rw [hb]; exact d4
  have hstr' : vk_R own is text sa s' := vk_R.warm hW0 hstr
  obtain ⟨U, hsteps, hrun, hend, hW, hsame, ce, hce, hO⟩ := X₁.ctorThrowS hexec htr (own := own) (cls := cls) (names := names) (ic := ic) hown' hcls hnames h (fun x hx => nomatch hx) hfX hkX hcellA (by rw [hhp, hT]; exact Nat.le_refl _) (msg := .ref sa) rfl
    (g := { method := m, pc := pc + 6, locals := ls, stack := .ref sa :: .ref T.heap.size :: .ref T.heap.size :: rest, locked := none }) rfl hsize rfl rfl (rest := rest) rfl
    (by rw [hb]; exact d6) (by rw [hb]; exact d9) hout hRframes (by simp only [List.map_cons, List.sum_cons, hcat]; omega) hlocks
  obtain ⟨f1, f2⟩ := vx_frame hsame
  rw [hhp] at f1 f2
  have hWs : s.WarmedH U.vm := State.WarmedH.trans hW0 hW
  have hcl : s.vm.findClass cls = some ce.cls := by
    have h9 := hO.cls
    rw [hvm] at h9
    exact h9
  have hall : s.sameButNew ({ U with vm := s.vm } : State) locs mc ms := by
    subst hA
    obtain ⟨e1, e2⟩ := hsame
    rw [State.setFrames_setFrames] at e1
    have h2 : (T.setVm s.vm).sameButNew ({ U with vm := s.vm } : State) [] (0 + 1) (0 + 6) := ⟨e1, e2⟩
    have h3 := X.same.trans h2
    rw [List.append_nil] at h3
    exact h3.mono hc hs
  refine ⟨U, ?_, .threw T.heap.size, hrun, hend, Or.inr ⟨T.heap.size, rfl, cls, ce, locs, hx U hWs.alike f1 (fun q hq => f2 q hq (fun z hz => nomatch hz)), hce, hO.vm, hcl, hWs, hall, hf⟩⟩
  refine st1 _ ?_
  show Steps p.tables e below (T1.setTop { method := m, pc := pc + 3, locals := ls, stack := .ref T.heap.size :: rest, locked := none }) _
  jvm_step X₁.here [X₁.here.top, hexec, d3', Value.category]
  exact X₁.ldcString hexec (own := own) (text := text) (index := is) (a := sa) hown' hstr'.1 hstr'.2
    (g := { method := m, pc := pc + 4, locals := ls, stack := .ref T.heap.size :: .ref T.heap.size :: rest, locked := none }) rfl d4' _ hsteps
/-- 'throw new E("text")', the text by a wide index -/
theorem vx_throwSW {cc : ByteArray} {pc : Nat} (hexec : p.tables.exec = Jvm.exec) (hb : c.code = cc) (hl : l.stackTraces = false) {own cls text : String} {names : List String} {ik is ic mc ms sa : Nat} {A : Nat → Prop}
    (hown : s.vm.findClass own = some m.cls) (hcls : Bundle.fit cls = true) (hnames : ∀ n ∈ names, Bundle.fit n = true)
    (hk : (Cond.classLink own ik cls).before args s = true) (hini : (Cond.initialized cls).before args s = true) (hstr : vk_R own is text sa s) (hat : ∀ w ∈ vx_atS own ic cls names, w.before args s = true)
    (hgood : ∀ w ∈ Cond.classLink own ik cls :: Cond.initialized cls :: vx_atS own ic cls names, vx_ot w = true)
    (hU : vx_Zq Bundle.tN "UNASSIGNED_STACK" Bundle.steD A s s.heap) (hN : vx_Zq Bundle.tN "SUPPRESSED_SENTINEL" Bundle.listD A s s.heap) (hS : va_S A s.heap H locs) (hsize : ls.size = c.maxLocals)
    (d0 : decode cc pc = .ok (.new ik, 3)) (d3 : decode cc (pc + 3) = .ok (.dup, 1)) (d4 : decode cc (pc + 4) = .ok (.ldc_w is, 3)) (d7 : decode cc (pc + 7) = .ok (.invokespecial ic, 3)) (d10 : decode cc (pc + 10) = .ok (.athrow, 1))
    (hout : ∀ x ∈ c.exceptionTable.toList, covers x (pc + 10) = false)
    (hRframes : names.length + 3 < R.frames) (hRlocals : (rest.map fun v => v.category).sum + (13 * (names.length + 1) + 43) ≤ R.locals) (hRcells : cells + 1 ≤ R.cells) (hRslots : slots + 6 ≤ R.slots) (hlocks : meth.locks = false)
    (hx : ∀ t : State, s.vm.Alike t.vm → H.size ≤ t.heap.size → (∀ q : Nat, q < H.size → t.heap[q]? = H[q]?) → XC cls s t)
    (hf : ∀ z ∈ locs, free z.base) (hc : cells + 1 ≤ mc) (hs : slots + 6 ≤ ms) :
    W p l e R s m args below meth c H locs cells slots (vx_MQ below Qc XC args s mc ms free) (F0 m pc ls rest) := by
  intro T hT X
  have htr : e.platform.stackTraces = false := (show e.platform.stackTraces = l.stackTraces by rw [X.admits.platform]).trans hl
  have Y := vx_rebase X (R' := { frames := R.frames, locals := R.locals, cells := 1, slots := 6 }) (Nat.le_refl _) (Nat.le_refl _) hRcells hRslots
  obtain ⟨s', hA⟩ : ∃ z, z = (T.setVm s.vm).setFrames (.invoking m args :: below) := ⟨_, rfl⟩
  rw [← hA] at Y
  have hvm : s'.vm = s.vm := by rw [hA]; rfl
  have hhp : s'.heap = H := by rw [hA]; exact hT
  have hW0 : s.WarmedH s'.vm := by rw [hvm]; exact State.WarmedH.refl s
  have hat' : ∀ w ∈ vx_atS own ic cls names, w.before args s' = true := fun w hw => vx_ot_at hW0 hvm.symm (hgood w (List.mem_cons_of_mem _ (List.mem_cons_of_mem _ hw))) (hat w hw)
  have hk' : (Cond.classLink own ik cls).before args s' = true := vx_ot_at hW0 hvm.symm (hgood _ List.mem_cons_self) hk
  have hini' : (Cond.initialized cls).before args s' = true := vx_ot_at hW0 hvm.symm (hgood _ (List.mem_cons_of_mem _ List.mem_cons_self)) hini
  have hU' : vx_Zq Bundle.tN "UNASSIGNED_STACK" Bundle.steD A s' s'.heap := by rw [hhp]; exact vx_Zq.moved hW0.alike (hU.kept hS.2.1)
  have hN' : vx_Zq Bundle.tN "SUPPRESSED_SENTINEL" Bundle.listD A s' s'.heap := by rw [hhp]; exact vx_Zq.moved hW0.alike (hN.kept hS.2.1)
  have h : ∀ w ∈ Bundle.ownAtoms own ic cls names, w.before args s' = true := vx_own hat' (vx_isRefq hU'.1) (vx_isRefq hN'.1) hU'.2.word hN'.2.word
  have hown' : s'.vm.findClass own = some m.cls := by rw [hvm]; exact hown
  have hins : (Cond.instantiable cls 6).before args s' = true := h _ (by simp [Bundle.ownAtoms])
  obtain ⟨vm₁, cX, kX, hfX, hkX, -, -, X₁, st1⟩ := Y.newCold hexec (own := own) (C := cls) (index := ik) (n := 6) hown' hk' hins hini'
    (g := F0 m pc ls rest) rfl (by rw [hb]; exact d0) (Nat.le_refl _) (Nat.le_refl _)
  generalize hT1 : (T.setVm vm₁).pushCell { cls := cX, slots := kX.instanceTypes.map defaultValue, vm := .none } = T1 at X₁ st1
  have hcat : (Value.ref T.heap.size).category = 1 := rfl
  have hcellA : T1.heap[T.heap.size]? = some (freshCell cX kX) := by rw [← hT1]; exact State.heap_pushCell_size _ _
  have d3' : decode c.code (pc + 3) = .ok (.dup, 1) := by rw [hb]; exact d3
  have d4' : decode c.code (pc + 4) = .ok (.ldc_w is, 3) := by rw [hb]; exact d4
  have hstr' : vk_R own is text sa s' := vk_R.warm hW0 hstr
  obtain ⟨U, hsteps, hrun, hend, hW, hsame, ce, hce, hO⟩ := X₁.ctorThrowS hexec htr (own := own) (cls := cls) (names := names) (ic := ic) hown' hcls hnames h (fun x hx => nomatch hx) hfX hkX hcellA (by rw [hhp, hT]; exact Nat.le_refl _) (msg := .ref sa) rfl
    (g := { method := m, pc := pc + 7, locals := ls, stack := .ref sa :: .ref T.heap.size :: .ref T.heap.size :: rest, locked := none }) rfl hsize rfl rfl (rest := rest) rfl
    (by rw [hb]; exact d7) (by rw [hb]; exact d10) hout hRframes (by simp only [List.map_cons, List.sum_cons, hcat]; omega) hlocks
  obtain ⟨f1, f2⟩ := vx_frame hsame
  rw [hhp] at f1 f2
  have hWs : s.WarmedH U.vm := State.WarmedH.trans hW0 hW
  have hcl : s.vm.findClass cls = some ce.cls := by
    have h9 := hO.cls
    rw [hvm] at h9
    exact h9
  have hall : s.sameButNew ({ U with vm := s.vm } : State) locs mc ms := by
    subst hA
    obtain ⟨e1, e2⟩ := hsame
    rw [State.setFrames_setFrames] at e1
    have h2 : (T.setVm s.vm).sameButNew ({ U with vm := s.vm } : State) [] (0 + 1) (0 + 6) := ⟨e1, e2⟩
    have h3 := X.same.trans h2
    rw [List.append_nil] at h3
    exact h3.mono hc hs
  refine ⟨U, ?_, .threw T.heap.size, hrun, hend, Or.inr ⟨T.heap.size, rfl, cls, ce, locs, hx U hWs.alike f1 (fun q hq => f2 q hq (fun z hz => nomatch hz)), hce, hO.vm, hcl, hWs, hall, hf⟩⟩
  refine st1 _ ?_
  show Steps p.tables e below (T1.setTop { method := m, pc := pc + 3, locals := ls, stack := .ref T.heap.size :: rest, locked := none }) _
  jvm_step X₁.here [X₁.here.top, hexec, d3', Value.category]
  exact X₁.ldcStringW hexec (own := own) (text := text) (index := is) (a := sa) hown' hstr'.1 hstr'.2
    (g := { method := m, pc := pc + 4, locals := ls, stack := .ref T.heap.size :: .ref T.heap.size :: rest, locked := none }) rfl d4' _ hsteps
end Ends
section Bodies
variable {l : Launch}
theorem vx_ofW {y : MethodName} {ws ws' : List Cond} {rm : Room} {Pc : Array Value → State → Prop} {Qc : Array Value → State → Outcome → State → Prop} {XC : String → State → State → Prop} {mc ms : Nat} {free : Addr → Prop} {cc : ByteArray} {maxL : Nat} {ret : Option FieldType}
    (hy : plainName y.cls = true) (hw : ws = Cond.code y cc maxL ret :: ws')
    (body : ∀ p e s m args below meth c s₁, BodyLoose p l y (headSpec ws rm) cc maxL ret e s m args below meth c s₁ → c.maxLocals = maxL → (∀ x ∈ c.exceptionTable.toList, False) → Pc args s →
      W p l e (headSpec ws rm).room s m args below meth c s.heap [] 0 0 (vx_MQ below Qc XC args s mc ms free) (entryFrame m args maxL)) : vx_Met l y ws rm Pc Qc XC mc ms free := by
  refine MetFree.of_bodyS (code := cc) (maxLocals := maxL) (ret := ret) hy ?_ ?_
  · intro args s m h hn
    obtain ⟨meth, c, h1, h2, h3, h4, h5, h6, -, -⟩ := Cond.code_spec hn (atoms_spec (ws := ws) h _ (by rw [hw]; exact List.mem_cons_self))
    exact ⟨meth, c, h1, h2, h3, h4, h5, h6⟩
  · intro p e s m args below meth c s₁ B hml hP _
    have hh0 : s₁.heap = s.heap := by rw [B.state]; rfl
    have ht : ∀ x ∈ c.exceptionTable.toList, False := by
      obtain ⟨meth9, c9, h1, h2, -, -, -, -, h7, -⟩ := Cond.code_spec B.named (atoms_spec (ws := ws) B.pre _ (by rw [hw]; exact List.mem_cons_self))
      cases Option.some.inj (h1.symm.trans B.method)
      cases Option.some.inj (h2.symm.trans (Stand.of_body B).code)
      intro x hx
      rw [Array.isEmpty_iff.mp h7] at hx
      cases hx
    obtain ⟨t, a1, o, b1, b2, b3⟩ := body p e s m args below meth c s₁ B hml ht hP s₁ hh0 (Stand.of_body B)
    exact ⟨t, o, a1, b1, b2, b3⟩
/-- the table of a body with handlers -/
theorem vx_table {p : Program} {x y : MethodName} {S : Spec} {cc bytes : ByteArray} {maxL maxL' : Nat} {ret ret' : Option FieldType} {e : Env} {s s₁ : State} {m : MethodId} {args : Array Value} {below : List Frame} {meth : Method} {c : Code} {hh : List (Nat × Nat × Nat × Nat)}
    (B : BodyLoose p l y S cc maxL ret e s m args below meth c s₁) (h : (Cond.codeWith y bytes maxL' ret' hh).before args s = true) : c.exceptionTable.toList = tableOf hh := by
  obtain ⟨m9, meth9, c9, hn9, h1, h2, -, -, h6, -⟩ := Cond.codeWith_spec h
  cases Option.some.inj (hn9.symm.trans B.named)
  cases Option.some.inj (h1.symm.trans B.method)
  cases Option.some.inj (h2.symm.trans (Stand.of_body B).code)
  rw [← h6, table_eq]
end Bodies
end VXA
/-! ===== END ===== -/
/-! ===== BEGIN a static call of a method with an exception table ===== -/
section VXS
variable {p : Program} {l : Launch} {e : Env} {R : Room} {s : State} {m : MethodId} {args : Array Value} {below : List Frame} {meth : Method} {c : Code} {T : State} {H : Heap} {locs : List Loc} {cells slots : Nat}
abbrev vx_CSW (R : Room) (s : State) (args : Array Value) (own : String) (index : Nat) (y : MethodName) (bytes : ByteArray) (maxL : Nat) (ret : Option FieldType) (hh : List (Nat × Nat × Nat × Nat)) (ws : List Cond) (rm : Room) (mc ms n : Nat) : Prop :=
  (rm.cells = mc ∧ rm.slots = ms ∧ rm.frames + 1 ≤ R.frames ∧ 8 + (maxL + 11) + rm.locals ≤ R.locals ∧ (∀ w ∈ ws, ∀ (a' : Array Value) (U : State), s.WarmedH U.vm → w.before a' U = true) ∧ Cond.codeWith y bytes maxL ret hh ∈ ws) ∧
  (Cond.codeWith y bytes maxL ret hh).before args s = true ∧ (Cond.initialized y.cls).before args s = true ∧ (y.cls ≠ "java/lang/invoke/MethodHandle" ∧ y.cls ≠ "java/lang/invoke/VarHandle") ∧
  (∀ sig, parseMethodDescriptor y.desc = some sig → n = sig.parameters.length) ∧ (Cond.methodLink own index y).before args s = true ∧ (Cond.static y).before args s = true
theorem vx_cwSW {own : String} {index maxL mc ms : Nat} {y : MethodName} {bytes : ByteArray} {ret : Option FieldType} {hh : List (Nat × Nat × Nat × Nat)} {Ts ws ws' : List Cond} {rm : Room} (n : Nat) (ht : ∀ w ∈ Ts, w.before args s = true) (hT : GoodIn Ts (va_wsS own index y ws)) (hw : ws = Cond.codeWith y bytes maxL ret hh :: ws') (hrc : rm.cells = mc) (hrs : rm.slots = ms)
    (hd : y.cls ≠ "java/lang/invoke/MethodHandle" ∧ y.cls ≠ "java/lang/invoke/VarHandle" ∧ (parseMethodDescriptor y.desc).map (fun d => d.parameters.length) = some n) (hR : rm.frames + 1 ≤ R.frames ∧ 8 + (maxL + 11) + rm.locals ≤ R.locals) :
    vx_CSW R s args own index y bytes maxL ret hh ws rm mc ms n := by
  have ok : ∀ w ∈ va_wsS own index y ws, w.before args s = true := fun w h => ht w (hT w h).1
  have hG : GoodIn Ts ws := fun w h => hT w (by unfold va_wsS; exact List.mem_append_right _ h)
  have hc : Cond.codeWith y bytes maxL ret hh ∈ ws := by rw [hw]; exact List.mem_cons_self
  refine ⟨⟨hrc, hrs, hR.1, hR.2, pay_in ht hG, hc⟩, ht _ (hG _ hc).1, ok _ (by simp [va_wsS]), ⟨hd.1, hd.2.1⟩, fun sig h => ?_, ok _ (by simp [va_wsS]), ok _ (by simp [va_wsS])⟩
  have h2 := hd.2.2
  rw [h] at h2
  exact (Option.some.inj h2).symm
theorem vx_callSW (X : Stand p l e R s m args below meth c T locs cells slots) (hexec : p.tables.exec = Jvm.exec) {own : String} {index : Nat} {y : MethodName} {bytes : ByteArray} {maxL : Nat} {ret : Option FieldType} {hh : List (Nat × Nat × Nat × Nat)}
    (hown : s.vm.findClass own = some m.cls) (hlink : (Cond.methodLink own index y).before args s = true) (hstat : (Cond.static y).before args s = true) (hinit : (Cond.initialized y.cls).before args s = true)
    (hcode : (Cond.codeWith y bytes maxL ret hh).before args s = true) (hy : y.cls ≠ "java/lang/invoke/MethodHandle" ∧ y.cls ≠ "java/lang/invoke/VarHandle")
    {W9 : Nat} {Pre : Pt → Array Value → Prop} {Post : Pt → Array Value → Option Value → Pt → Prop} (hK : Back l R p e below s args y 3 W9 Pre Post)
    {g : JFrame} (hg : g.method = m) (hsize : g.locals.size = c.maxLocals) {argsL rest : List Value} (hlen : ∀ sig, parseMethodDescriptor y.desc = some sig → argsL.length = sig.parameters.length)
    (hstack : g.stack = argsL.reverse ++ rest) (hW : 2 * g.monitorRoom + (rest.map fun v => v.category).sum ≤ W9) (hdg : decode c.code g.pc = .ok (.invokestatic index, 3))
    (hpre : ∀ vm₁, s.WarmedH vm₁ → Pre ⟨T.setVm vm₁, locs, cells, slots⟩ argsL.toArray) :
    ∃ (v : Option Value) (vm₁ : Vm) (B : Pt), s.WarmedH vm₁ ∧ Stand p l e R s m args below meth c B.U B.locs B.cells B.slots ∧ Post ⟨T.setVm vm₁, locs, cells, slots⟩ argsL.toArray v B ∧
      ∀ target, Steps p.tables e below (B.U.setTop { g with pc := g.pc + 3, stack := v.toList ++ rest }) target → Steps p.tables e below (T.setTop g) target := by
  obtain ⟨mk, methM, cM, hnamed, hmethM, -, -, -, -, -, -, hsigM⟩ := Cond.codeWith_spec hcode
  have hstatic : methM.isStatic = true := Cond.static_spec hnamed hmethM hstat
  obtain ⟨kP, hkP, -⟩ := className_of_methodNamed hnamed
  have hinitP : kP.init = .initialized := Cond.initialized_spec (findClass_of_methodNamed hnamed) hkP hinit
  obtain ⟨vm₁, X₁, hstep₁⟩ := X.invokestatic hexec hown hlink hnamed hmethM hstatic hkP hinitP hy (g := g) hg (argsL := argsL) (rest := rest) (hlen _ hsigM) hstack hdg
  obtain ⟨v, B, X', hpost, hsteps⟩ := hK m meth c ⟨T.setVm vm₁, locs, cells, slots⟩ { g with stack := rest } (.invokestatic index) mk argsL.toArray X₁ hg hsize hdg hW (X₁.named hnamed) (hpre vm₁ X₁.warmed)
  exact ⟨v, vm₁, B, X₁.warmed, X', hpost, fun target h => hstep₁ _ fun acts => by rw [doInvoke_state]; exact hsteps.trans h⟩
theorem vx_runSW {y : MethodName} {bytes cc : ByteArray} {maxL nL mc ms n index : Nat} {ret : Option FieldType} {hh : List (Nat × Nat × Nat × Nat)} {ws : List Cond} {rm : Room} {Pc : Array Value → State → Prop} {Qc : Array Value → State → Outcome → State → Prop} {free : Addr → Prop} {Ts : List Cond} {own : String} {As rest : List Value} {g : JFrame}
    (S : CallFix p m c cc nL s args Ts own) (hM : Met l y ws rm Pc Qc mc ms free) (cw : vx_CSW R s args own index y bytes maxL ret hh ws rm mc ms n) (hp : PreS s H Pc As)
    (hg : g.method = m) (hn : As.length = n) (hsize : g.locals.size = nL) (hstack : g.stack = As.reverse ++ rest) (hW : 2 * g.monitorRoom + (rest.map fun v => v.category).sum ≤ 8) (hdg : decode cc g.pc = .ok (.invokestatic index, 3)) (hf : cells + mc ≤ R.cells ∧ slots + ms ≤ R.slots) :
    va_Run p l e R s m args below meth c H locs cells slots mc ms g rest (Qc As.toArray) (free) := by
  obtain ⟨⟨hrc, hrs, hfr, hlo, hws, hcw⟩, hcode, hini, hy, hlen, hl, hstt⟩ := cw
  have hK : Back l R p e below s args y 3 8 (PreOf R mc ms Pc) (PostOf Qc mc ms free) := va_backW (hh := hh) (bytes := bytes) (maxL := maxL) (ret := ret) hM hp.1 hrc hrs hfr hlo hws hcw (fun a' U hW => word_at hW (Or.inl (by first | rfl | simp [Cond.onTables, Cond.keeps, Cond.steady])) hini)
  obtain ⟨hx, hb, hml, ho, -⟩ := S
  intro T hT X
  obtain ⟨v, vm₁, ⟨U', l2, c2, s2⟩, hW₁, X', ⟨g', mk, t, L, e1, e2, hq, h1, hL, h2, h3⟩, st⟩ := vx_callSW X hx (hh := hh) (bytes := bytes) (maxL := maxL) (ret := ret) ho hl hstt hini hcode hy hK hg (hsize.trans hml.symm) (argsL := As) (rest := rest) (fun sig h => hn.trans (hlen sig h)) hstack hW (by rw [hb]; exact hdg)
    (fun vm₁ hW₁ => ⟨hf.1, hf.2, hp.2 (T.setVm vm₁) hT hW₁⟩)
  dsimp only [Pt.U, Pt.locs, Pt.cells, Pt.slots] at X' e1 e2 h1 h2 h3 st
  subst h1; subst h2; subst h3
  exact ⟨v, (T.setVm vm₁).calling g' mk As.toArray, t, U', L, hT, X', hL, e1, e2, hq, st⟩
/-- not caught here, past rows that name other classes: it goes on to the caller -/
theorem vx_outP {p : Program} {l : Launch} {e : Env} {R : Room} {s : State} {m : MethodId} {args : Array Value} {below : List Frame} {meth : Method} {c : Code} {H : Heap} {locs : List Loc} {cells slots : Nat} {free : Addr → Prop} {ls : Array Slot} {rest : List Value} {Qc : Array Value → State → Outcome → State → Prop} {XC : String → State → State → Prop}
    {pc : Nat} {own E : String} {ce : Cell} {q : Addr} {mc ms : Nat} (hown : s.vm.findClass own = some m.cls) (hlocks : meth.locks = false)
    (hpass : ∀ z ∈ c.exceptionTable.toList, covers z pc = false ∨ (z.catchType ≠ 0 ∧ ∃ nm : String, (Cond.classLink own z.catchType nm).before args s = true ∧ va_Nc E nm s)) (hcell : H[q]? = some ce) (hv : ce.vm = .none) (hcl : s.vm.findClass E = some ce.cls)
    (hx : ∀ t : State, t.heap = H → s.vm.Alike t.vm → XC E s t) (hf : ∀ z ∈ locs, free z.base) (hc : cells ≤ mc) (hs : slots ≤ ms) :
    vx_W p l e R s m args below meth c H locs cells slots (vx_MQ below Qc XC args s mc ms free) (F0 m pc ls rest) q := by
  intro T hT X
  have hpl : e.platform.magicAccessors = ({} : Platform).magicAccessors := by rw [X.admits.platform]
  obtain ⟨vm', hW', X', st⟩ := X.outThrough hlocks q (g := F0 m pc ls rest) rfl rfl rfl (cell := ce) (by rw [hT]; exact hcell) (by rw [hv]; rfl)
    (by obtain ⟨k9, h9, -⟩ := Vm.findClass_spec hcl; exact ⟨k9, h9⟩) (fun z hz => by
      rcases hpass z hz with h | ⟨hz0, nm, hl1, hn1⟩
      · exact Or.inl h
      · obtain ⟨c6, hc6, hcl6⟩ := Cond.classLink_spec hown hl1 e.platform hpl
        obtain ⟨a8, b8, h1, h2, h3⟩ := hn1
        cases Option.some.inj (h1.symm.trans hcl)
        cases Option.some.inj (h2.symm.trans hc6)
        exact Or.inr ⟨hz0, _, hcl6, h3⟩)
  obtain ⟨g₀, hfr⟩ := X'.frames_eq
  have hcell9 : ((T.setVm vm').setFrames (.throwing q :: below)).heap[q]? = some ce := by
    show T.heap[q]? = some ce
    rw [hT]; exact hcell
  have hend : Ended ((T.setVm vm').setFrames (.throwing q :: below)) below (.threw q) := State.frames_setFrames _ (State.cur_lt_of_frames hfr)
  refine ⟨(T.setVm vm').setFrames (.throwing q :: below), ?_, .threw q, X'.here.running, hend, Or.inr ⟨q, rfl, E, ce, locs, hx _ hT (X'.ends _).1.alike, hcell9, hv, hcl, (X'.ends _).1, (X'.ends _).2.mono hc hs, hf⟩⟩
  rw [X.pushThrowing_eq]
  exact st
/-- a thing of a world lies in the heap -/
theorem vx_lt {D : va_G} {cl : List vw_C} {ws : va_W} {H1 : Heap} (h : va_P D cl ws H1) {k : Nat} {q : Nat × va_E} (hk : ws[k]? = some q) : q.1 < H1.size := (h k q hk).lt
end VXS
/-! ===== END ===== -/
/-! ===== BEGIN methods with a table of their own: called by a name, returning or throwing ===== -/
section VXH
/-! vx_backW, vx_callVX, vx_callSX, vx_callVW, vx_runVW, vx_runVX, vx_runSX, vx_ofWH follow the same proofs as their sisters above (Free/Laws.lean, Shelf42/LK1.lean); vx_outP calls Shelf42/NT130.lean (outThrough). -/
section
variable {l : Launch} {R : Room} {p : Program} {e : Env} {below : List Frame} {s : State} {sargs : Array Value} {y : MethodName} {len W9 : Nat}
theorem vx_backW {ws : List Cond} {rm : Room} {Pc : Array Value → State → Prop} {Qc : Array Value → State → Outcome → State → Prop} {XC : String → State → State → Prop} {mc ms : Nat} {free : Addr → Prop} {bytes : ByteArray} {maxL : Nat} {ret : Option FieldType} {hh : List (Nat × Nat × Nat × Nat)}
    (hM : vx_Met l y ws rm Pc Qc XC mc ms free) (hblind : FrameBlind Pc) (hrc : rm.cells = mc) (hrs : rm.slots = ms)
    (hframes : rm.frames + 1 ≤ R.frames) (hlocals : W9 + (maxL + 11) + rm.locals ≤ R.locals)
    (hws : ∀ w ∈ ws, ∀ a' U, s.WarmedH U.vm → w.before a' U = true) (hcode : Cond.codeWith y bytes maxL ret hh ∈ ws) (hinit : ∀ a' U, s.WarmedH U.vm → (Cond.initialized y.cls).before a' U = true) :
    vx_Back l R p e below s sargs y len W9 (PreOf R mc ms Pc) (PostOf Qc mc ms free) (vx_Post XC mc ms free) := by
  intro m meth c A g ig mk a X hg hsize hdg hW hn hp
  have h1 : (headSpec ws rm).pre.before a A.U = true := atoms_intro fun w hw => hws w hw _ _ X.warmed
  have h2 : (Cond.codeWith y bytes maxL ret hh).before a A.U = true := hws _ hcode _ _ X.warmed
  have h3 : (Cond.initialized y.cls).before a A.U = true := hinit _ _ X.warmed
  have h4 : A.cells + (headSpec ws rm).room.cells ≤ R.cells := by rw [show (headSpec ws rm).room.cells = mc from hrc]; exact hp.1
  have h5 : A.slots + (headSpec ws rm).room.slots ≤ R.slots := by rw [show (headSpec ws rm).room.slots = ms from hrs]; exact hp.2.1
  have hPc : Pc a (A.U.calling g mk a) := hblind _ _ _ _ hp.2.2
  obtain ⟨U, Ls, c0, s0⟩ := A
  dsimp only [Pt.U, Pt.locs, Pt.cells, Pt.slots] at h1 h2 h3 h4 h5 X hn hPc ⊢
  obtain ⟨m9, methY, cY, hn9, hmY, hcY, -, hlY, -⟩ := Cond.codeWith_spec h2
  cases Option.some.inj (hn9.symm.trans hn)
  obtain ⟨kY, hkY, -⟩ := className_of_methodNamed hn
  have hinitY : kY.init = .initialized := Cond.initialized_spec (findClass_of_methodNamed hn) hkY h3
  have h : At U g.method c below := by rw [hg]; exact X.here
  have hlocals9 : W9 + (maxL + 11) + (headSpec ws rm).room.locals ≤ R.locals := hlocals
  have happ : (headSpec ws rm).appliesLoose y e.platform (U.calling g mk a) = true :=
    Spec.appliesLoose_calling (g := g) h hdg hn hkY hinitY
      (X.room_calling (g := g) (R' := (headSpec ws rm).room) hsize hmY hcY hframes (by rw [hlY]; omega) h4 h5) h1
  obtain ⟨mid, hmid⟩ := h.above
  have hfr : (U.setTop g).frames = (.java g :: mid) ++ below := by rw [State.frames_setTop' g h.top, hmid]; rfl
  obtain ⟨o, s₂, hsteps, -, hend, hq⟩ := Steps.callFree hM p X.admits X.cas X.clock (acts := []) hfr happ hPc trivial
  have hq' : vx_Q Qc XC mc ms free a (U.calling g mk a) o s₂ := hq
  rw [State.frames_setTop' g h.top] at hend
  obtain ⟨g₀, hg0⟩ := Option.isSome_iff_exists.mp h.top
  obtain ⟨r, hr⟩ := State.topJava?_eq_some.mp hg0
  have hr' : (({ U with heap := s₂.heap, slotsUsed := s₂.slotsUsed } : State).setVm s₂.vm).frames = .java g₀ :: r := hr
  rcases hq' with ⟨hqc, L, hfe, hL⟩ | ⟨q, rfl, E, ce, L, hx, hce, hcv, hcl, hW₂, hsm, hL⟩
  · obtain ⟨⟨v, rfl⟩, hW₂, e2, q2, q3, q4, q5, q6⟩ := id hfe
    have e3 : s₂ = ({ (U.calling g mk a).setFrames s₂.frames with heap := s₂.heap, slotsUsed := s₂.slotsUsed } : State).setVm s₂.vm := by
      have : s₂ = ({ s₂ with vm := (U.calling g mk a).vm } : State).setVm s₂.vm := rfl
      rw [e2] at this
      exact this
    obtain ⟨c₂, i₂, len₂, hc₂, hd₂, hf₂⟩ := hend
    have hW' : U.WarmedH s₂.vm := hW₂
    have hcc : c₂ = c := by
      have h1 : s₂.code? g.method = U.code? g.method := by
        rw [State.code?_eq, State.code?_eq, hW'.alike.method?]
      exact Option.some.inj (hc₂.symm.trans (h1.trans h.code))
    subst hcc
    have hlen : len₂ = len := by rw [hdg] at hd₂; cases hd₂; rfl
    subst hlen
    have hs₂ : s₂ = (({ U with heap := s₂.heap, slotsUsed := s₂.slotsUsed } : State).setVm s₂.vm).setTop { g with pc := g.pc + len₂, stack := v.toList ++ g.stack } := by
      refine e3.trans ?_
      rw [hf₂, State.calling_eq h.top, State.setFrames_setFrames, State.setTop_of_frames _ hr', hr]
      rfl
    have hsame : U.sameButNew ({ U with heap := s₂.heap, slotsUsed := s₂.slotsUsed } : State) L mc ms := by
      refine ⟨?_, q2, q3, q4, q5, q6⟩
      obtain ⟨t, ht, -⟩ := State.frames_cons hr
      show ({ U with heap := s₂.heap, slotsUsed := s₂.slotsUsed } : State) = { U.setFrames U.frames with heap := s₂.heap, slotsUsed := s₂.slotsUsed }
      rw [State.setFrames_self ht]
    subst hg
    refine Or.inl ⟨v, ⟨(({ U with heap := s₂.heap, slotsUsed := s₂.slotsUsed } : State).setVm s₂.vm), Ls ++ L, c0 + mc, s0 + ms⟩,
      ⟨X.admits, X.cas, X.clock, X.frames, X.room, X.hears, X.method, X.code, (X.here.setHeapUsed s₂.heap s₂.slotsUsed).setVm hW'.alike, X.tail, State.WarmedH.trans X.warmed hW', X.limits, X.bytes, X.same.trans (hsame.setVm s.vm)⟩,
      ⟨g, mk, s₂, L, rfl, rfl, hqc, rfl, hL, rfl, rfl⟩, ?_⟩
    show Steps p.tables e below _ ((({ U with heap := s₂.heap, slotsUsed := s₂.slotsUsed } : State).setVm s₂.vm).setTop { g with pc := g.pc + len₂, stack := v.toList ++ g.stack })
    rw [← hs₂]
    exact hsteps
  · obtain ⟨e2, q2, q3, q4, q5, q6⟩ := id hsm
    have e3 : s₂ = ({ (U.calling g mk a).setFrames s₂.frames with heap := s₂.heap, slotsUsed := s₂.slotsUsed } : State).setVm s₂.vm := by
      have : s₂ = ({ s₂ with vm := (U.calling g mk a).vm } : State).setVm s₂.vm := rfl
      rw [e2] at this
      exact this
    have hf₂ : s₂.frames = .throwing q :: .java g :: U.frames.tail := hend
    have hW' : U.WarmedH s₂.vm := hW₂
    have hs₂ : s₂ = ((({ U with heap := s₂.heap, slotsUsed := s₂.slotsUsed } : State).setVm s₂.vm).setTop g).pushFrame (.throwing q) := by
      refine e3.trans ?_
      rw [hf₂, State.calling_eq h.top, State.setFrames_setFrames, State.pushFrame, State.frames_setTop _ hr', State.setTop_of_frames _ hr', State.setFrames_setFrames, hr]
      rfl
    have hsame : U.sameButNew ({ U with heap := s₂.heap, slotsUsed := s₂.slotsUsed } : State) L mc ms := by
      refine ⟨?_, q2, q3, q4, q5, q6⟩
      obtain ⟨t, ht, -⟩ := State.frames_cons hr
      show ({ U with heap := s₂.heap, slotsUsed := s₂.slotsUsed } : State) = { U.setFrames U.frames with heap := s₂.heap, slotsUsed := s₂.slotsUsed }
      rw [State.setFrames_self ht]
    subst hg
    refine Or.inr ⟨q, ⟨(({ U with heap := s₂.heap, slotsUsed := s₂.slotsUsed } : State).setVm s₂.vm), Ls ++ L, c0 + mc, s0 + ms⟩,
      ⟨X.admits, X.cas, X.clock, X.frames, X.room, X.hears, X.method, X.code, (X.here.setHeapUsed s₂.heap s₂.slotsUsed).setVm hW'.alike, X.tail, State.WarmedH.trans X.warmed hW', X.limits, X.bytes, X.same.trans (hsame.setVm s.vm)⟩,
      ⟨g, mk, s₂, L, E, ce, rfl, rfl, hx, hce, hcv, hcl, rfl, hL, rfl, rfl⟩, ?_⟩
    show Steps p.tables e below _ (((({ U with heap := s₂.heap, slotsUsed := s₂.slotsUsed } : State).setVm s₂.vm).setTop g).pushFrame (.throwing q))
    rw [← hs₂]
    exact hsteps
end
variable {p : Program} {l : Launch} {e : Env} {R : Room} {s : State} {m : MethodId} {args : Array Value} {below : List Frame} {meth : Method} {c : Code} {T : State} {H : Heap} {locs : List Loc} {cells slots : Nat}
theorem vx_callVX (X : Stand p l e R s m args below meth c T locs cells slots) (hexec : p.tables.exec = Jvm.exec) {own C : String} {index : Nat} {y : MethodName} {bytes : ByteArray} {maxL : Nat} {ret : Option FieldType} {hh : List (Nat × Nat × Nat × Nat)}
    (hown : s.vm.findClass own = some m.cls) (hlink : (Cond.methodLink own index y).before args s = true) (hinst : (Cond.instanceMethod y).before args s = true) (hsel : (Cond.selects C y y).before args s = true)
    (hcode : (Cond.codeWith y bytes maxL ret hh).before args s = true) (hy : y.cls ≠ "java/lang/invoke/MethodHandle" ∧ y.cls ≠ "java/lang/invoke/VarHandle")
    {W9 : Nat} {Pre : Pt → Array Value → Prop} {Post : Pt → Array Value → Option Value → Pt → Prop} {PostX : Pt → Array Value → Addr → Pt → Prop} (hK : vx_Back l R p e below s args y 3 W9 Pre Post PostX)
    {b : Addr} {cellB : Cell} (hcell : T.heap[b]? = some cellB) (hobj : cellB.vm.isStatics = false) (hcls : s.vm.findClass C = some cellB.cls)
    {g : JFrame} (hg : g.method = m) (hsize : g.locals.size = c.maxLocals) {argsL rest : List Value} (hlen : ∀ sig, parseMethodDescriptor y.desc = some sig → argsL.length = sig.parameters.length)
    (hstack : g.stack = argsL.reverse ++ .ref b :: rest) (hW : 2 * g.monitorRoom + (rest.map fun v => v.category).sum ≤ W9) (hdg : decode c.code g.pc = .ok (.invokevirtual index, 3))
    (hpre : ∀ vm₁, s.WarmedH vm₁ → Pre ⟨T.setVm vm₁, locs, cells, slots⟩ (Value.ref b :: argsL).toArray) :
    (∃ (v : Option Value) (vm₁ : Vm) (B : Pt), s.WarmedH vm₁ ∧ Stand p l e R s m args below meth c B.U B.locs B.cells B.slots ∧ Post ⟨T.setVm vm₁, locs, cells, slots⟩ (Value.ref b :: argsL).toArray v B ∧
      ∀ target, Steps p.tables e below (B.U.setTop { g with pc := g.pc + 3, stack := v.toList ++ rest }) target → Steps p.tables e below (T.setTop g) target) ∨
    (∃ (q : Addr) (vm₁ : Vm) (B : Pt), s.WarmedH vm₁ ∧ Stand p l e R s m args below meth c B.U B.locs B.cells B.slots ∧ PostX ⟨T.setVm vm₁, locs, cells, slots⟩ (Value.ref b :: argsL).toArray q B ∧
      Steps p.tables e below (T.setTop g) ((B.U.setTop { g with stack := rest }).pushFrame (.throwing q))) := by
  obtain ⟨mk, methM, hnamed, hmethM, hstM, habM⟩ := Cond.instanceMethod_spec hinst
  obtain ⟨m8, methM', cM, hn8, hmethM', -, -, -, -, -, -, hsigM⟩ := Cond.codeWith_spec hcode
  cases Option.some.inj (hn8.symm.trans hnamed)
  cases hmethM.symm.trans hmethM'
  obtain ⟨c2, r2, m2, q1, q2, q3, q4, kP, hkP, hkPi⟩ := Cond.selects_spec hsel
  cases hcls.symm.trans q1
  cases (State.methodFound?_of_named hnamed hy).symm.trans q2
  cases hnamed.symm.trans q3
  have hselP : selectMethod e.platform s.vm cellB.cls mk = .method mk := by rw [Launch.admits_selectMethod X.admits]; exact q4
  obtain ⟨vm₁, X₁, hstep₁⟩ := X.invokevirtual hexec hown hlink hnamed hmethM hstM hkP hkPi hy (a := b) (cell := cellB) hcell
    (fun z h => by rw [h] at hobj; cases hobj) hselP hmethM habM hkP hkPi (g := g) hg (argsL := argsL) (rest := rest) (hlen _ hsigM) hstack hdg
  rcases hK m meth c ⟨T.setVm vm₁, locs, cells, slots⟩ { g with stack := rest } (.invokevirtual index) mk (Value.ref b :: argsL).toArray X₁ hg hsize hdg hW (X₁.named hnamed) (hpre vm₁ X₁.warmed) with ⟨v, B, X', hpost, hsteps⟩ | ⟨q, B, X', hpost, hsteps⟩
  · exact Or.inl ⟨v, vm₁, B, X₁.warmed, X', hpost, fun target h => hstep₁ _ fun acts => by rw [doInvoke_state]; exact hsteps.trans h⟩
  · exact Or.inr ⟨q, vm₁, B, X₁.warmed, X', hpost, hstep₁ _ fun acts => by rw [doInvoke_state]; exact hsteps⟩
theorem vx_callSX (X : Stand p l e R s m args below meth c T locs cells slots) (hexec : p.tables.exec = Jvm.exec) {own : String} {index : Nat} {y : MethodName} {bytes : ByteArray} {maxL : Nat} {ret : Option FieldType} {hh : List (Nat × Nat × Nat × Nat)}
    (hown : s.vm.findClass own = some m.cls) (hlink : (Cond.methodLink own index y).before args s = true) (hstat : (Cond.static y).before args s = true) (hinit : (Cond.initialized y.cls).before args s = true)
    (hcode : (Cond.codeWith y bytes maxL ret hh).before args s = true) (hy : y.cls ≠ "java/lang/invoke/MethodHandle" ∧ y.cls ≠ "java/lang/invoke/VarHandle")
    {W9 : Nat} {Pre : Pt → Array Value → Prop} {Post : Pt → Array Value → Option Value → Pt → Prop} {PostX : Pt → Array Value → Addr → Pt → Prop} (hK : vx_Back l R p e below s args y 3 W9 Pre Post PostX)
    {g : JFrame} (hg : g.method = m) (hsize : g.locals.size = c.maxLocals) {argsL rest : List Value} (hlen : ∀ sig, parseMethodDescriptor y.desc = some sig → argsL.length = sig.parameters.length)
    (hstack : g.stack = argsL.reverse ++ rest) (hW : 2 * g.monitorRoom + (rest.map fun v => v.category).sum ≤ W9) (hdg : decode c.code g.pc = .ok (.invokestatic index, 3))
    (hpre : ∀ vm₁, s.WarmedH vm₁ → Pre ⟨T.setVm vm₁, locs, cells, slots⟩ argsL.toArray) :
    (∃ (v : Option Value) (vm₁ : Vm) (B : Pt), s.WarmedH vm₁ ∧ Stand p l e R s m args below meth c B.U B.locs B.cells B.slots ∧ Post ⟨T.setVm vm₁, locs, cells, slots⟩ argsL.toArray v B ∧
      ∀ target, Steps p.tables e below (B.U.setTop { g with pc := g.pc + 3, stack := v.toList ++ rest }) target → Steps p.tables e below (T.setTop g) target) ∨
    (∃ (q : Addr) (vm₁ : Vm) (B : Pt), s.WarmedH vm₁ ∧ Stand p l e R s m args below meth c B.U B.locs B.cells B.slots ∧ PostX ⟨T.setVm vm₁, locs, cells, slots⟩ argsL.toArray q B ∧
      Steps p.tables e below (T.setTop g) ((B.U.setTop { g with stack := rest }).pushFrame (.throwing q))) := by
  obtain ⟨mk, methM, cM, hnamed, hmethM, -, -, -, -, -, -, hsigM⟩ := Cond.codeWith_spec hcode
  have hstatic : methM.isStatic = true := Cond.static_spec hnamed hmethM hstat
  obtain ⟨kP, hkP, -⟩ := className_of_methodNamed hnamed
  have hinitP : kP.init = .initialized := Cond.initialized_spec (findClass_of_methodNamed hnamed) hkP hinit
  obtain ⟨vm₁, X₁, hstep₁⟩ := X.invokestatic hexec hown hlink hnamed hmethM hstatic hkP hinitP hy (g := g) hg (argsL := argsL) (rest := rest) (hlen _ hsigM) hstack hdg
  rcases hK m meth c ⟨T.setVm vm₁, locs, cells, slots⟩ { g with stack := rest } (.invokestatic index) mk argsL.toArray X₁ hg hsize hdg hW (X₁.named hnamed) (hpre vm₁ X₁.warmed) with ⟨v, B, X', hpost, hsteps⟩ | ⟨q, B, X', hpost, hsteps⟩
  · exact Or.inl ⟨v, vm₁, B, X₁.warmed, X', hpost, fun target h => hstep₁ _ fun acts => by rw [doInvoke_state]; exact hsteps.trans h⟩
  · exact Or.inr ⟨q, vm₁, B, X₁.warmed, X', hpost, hstep₁ _ fun acts => by rw [doInvoke_state]; exact hsteps⟩
theorem vx_callVW (X : Stand p l e R s m args below meth c T locs cells slots) (hexec : p.tables.exec = Jvm.exec) {own C : String} {index : Nat} {y : MethodName} {bytes : ByteArray} {maxL : Nat} {ret : Option FieldType} {hh : List (Nat × Nat × Nat × Nat)}
    (hown : s.vm.findClass own = some m.cls) (hlink : (Cond.methodLink own index y).before args s = true) (hinst : (Cond.instanceMethod y).before args s = true) (hsel : (Cond.selects C y y).before args s = true)
    (hcode : (Cond.codeWith y bytes maxL ret hh).before args s = true) (hy : y.cls ≠ "java/lang/invoke/MethodHandle" ∧ y.cls ≠ "java/lang/invoke/VarHandle")
    {W9 : Nat} {Pre : Pt → Array Value → Prop} {Post : Pt → Array Value → Option Value → Pt → Prop} (hK : Back l R p e below s args y 3 W9 Pre Post)
    {b : Addr} {cellB : Cell} (hcell : T.heap[b]? = some cellB) (hobj : cellB.vm.isStatics = false) (hcls : s.vm.findClass C = some cellB.cls)
    {g : JFrame} (hg : g.method = m) (hsize : g.locals.size = c.maxLocals) {argsL rest : List Value} (hlen : ∀ sig, parseMethodDescriptor y.desc = some sig → argsL.length = sig.parameters.length)
    (hstack : g.stack = argsL.reverse ++ .ref b :: rest) (hW : 2 * g.monitorRoom + (rest.map fun v => v.category).sum ≤ W9) (hdg : decode c.code g.pc = .ok (.invokevirtual index, 3))
    (hpre : ∀ vm₁, s.WarmedH vm₁ → Pre ⟨T.setVm vm₁, locs, cells, slots⟩ (Value.ref b :: argsL).toArray) :
    ∃ (v : Option Value) (vm₁ : Vm) (B : Pt), s.WarmedH vm₁ ∧ Stand p l e R s m args below meth c B.U B.locs B.cells B.slots ∧ Post ⟨T.setVm vm₁, locs, cells, slots⟩ (Value.ref b :: argsL).toArray v B ∧
      ∀ target, Steps p.tables e below (B.U.setTop { g with pc := g.pc + 3, stack := v.toList ++ rest }) target → Steps p.tables e below (T.setTop g) target := by
  obtain ⟨mk, methM, hnamed, hmethM, hstM, habM⟩ := Cond.instanceMethod_spec hinst
  obtain ⟨m8, methM', cM, hn8, hmethM', -, -, -, -, -, -, hsigM⟩ := Cond.codeWith_spec hcode
  cases Option.some.inj (hn8.symm.trans hnamed)
  cases hmethM.symm.trans hmethM'
  obtain ⟨c2, r2, m2, q1, q2, q3, q4, kP, hkP, hkPi⟩ := Cond.selects_spec hsel
  cases hcls.symm.trans q1
  cases (State.methodFound?_of_named hnamed hy).symm.trans q2
  cases hnamed.symm.trans q3
  have hselP : selectMethod e.platform s.vm cellB.cls mk = .method mk := by rw [Launch.admits_selectMethod X.admits]; exact q4
  obtain ⟨vm₁, X₁, hstep₁⟩ := X.invokevirtual hexec hown hlink hnamed hmethM hstM hkP hkPi hy (a := b) (cell := cellB) hcell
    (fun z h => by rw [h] at hobj; cases hobj) hselP hmethM habM hkP hkPi (g := g) hg (argsL := argsL) (rest := rest) (hlen _ hsigM) hstack hdg
  obtain ⟨v, B, X', hpost, hsteps⟩ := hK m meth c ⟨T.setVm vm₁, locs, cells, slots⟩ { g with stack := rest } (.invokevirtual index) mk (Value.ref b :: argsL).toArray X₁ hg hsize hdg hW (X₁.named hnamed) (hpre vm₁ X₁.warmed)
  exact ⟨v, vm₁, B, X₁.warmed, X', hpost, fun target h => hstep₁ _ fun acts => by rw [doInvoke_state]; exact hsteps.trans h⟩
abbrev vx_CVW (R : Room) (s : State) (args : Array Value) (own C : String) (index : Nat) (y : MethodName) (bytes : ByteArray) (maxL : Nat) (ret : Option FieldType) (hh : List (Nat × Nat × Nat × Nat)) (ws : List Cond) (rm : Room) (mc ms n : Nat) : Prop :=
  (rm.cells = mc ∧ rm.slots = ms ∧ rm.frames + 1 ≤ R.frames ∧ 8 + (maxL + 11) + rm.locals ≤ R.locals ∧ (∀ w ∈ ws, ∀ (a' : Array Value) (U : State), s.WarmedH U.vm → w.before a' U = true) ∧ Cond.codeWith y bytes maxL ret hh ∈ ws) ∧
  (Cond.codeWith y bytes maxL ret hh).before args s = true ∧ (Cond.initialized y.cls).before args s = true ∧ (y.cls ≠ "java/lang/invoke/MethodHandle" ∧ y.cls ≠ "java/lang/invoke/VarHandle") ∧
  (∀ sig, parseMethodDescriptor y.desc = some sig → n = sig.parameters.length) ∧ (Cond.methodLink own index y).before args s = true ∧ (Cond.instanceMethod y).before args s = true ∧ (Cond.selects C y y).before args s = true
theorem vx_cwVW {own C : String} {index maxL mc ms : Nat} {y : MethodName} {bytes : ByteArray} {ret : Option FieldType} {hh : List (Nat × Nat × Nat × Nat)} {Ts ws ws' : List Cond} {rm : Room} (n : Nat) (ht : ∀ w ∈ Ts, w.before args s = true) (hT : GoodIn Ts (wsV own index C y ws)) (hw : ws = Cond.codeWith y bytes maxL ret hh :: ws') (hrc : rm.cells = mc) (hrs : rm.slots = ms)
    (hd : y.cls = C ∧ y.cls ≠ "java/lang/invoke/MethodHandle" ∧ y.cls ≠ "java/lang/invoke/VarHandle" ∧ (parseMethodDescriptor y.desc).map (fun d => d.parameters.length) = some n) (hR : rm.frames + 1 ≤ R.frames ∧ 8 + (maxL + 11) + rm.locals ≤ R.locals) :
    vx_CVW R s args own C index y bytes maxL ret hh ws rm mc ms n := by
  obtain ⟨hC, hd⟩ := hd
  subst hC
  have ok : ∀ w ∈ wsV own index y.cls y ws, w.before args s = true := fun w h => ht w (hT w h).1
  have hG : GoodIn Ts ws := fun w h => hT w (by unfold wsV; exact List.mem_append_right _ h)
  have hc : Cond.codeWith y bytes maxL ret hh ∈ ws := by rw [hw]; exact List.mem_cons_self
  refine ⟨⟨hrc, hrs, hR.1, hR.2, pay_in ht hG, hc⟩, ht _ (hG _ hc).1, ok _ (by simp [wsV]), ⟨hd.1, hd.2.1⟩, fun sig h => ?_, ok _ (by simp [wsV]), ok _ (by simp [wsV]), ok _ (by simp [wsV])⟩
  have h2 := hd.2.2
  rw [h] at h2
  exact (Option.some.inj h2).symm
theorem vx_runVW {y : MethodName} {bytes cc : ByteArray} {maxL nL mc ms n index : Nat} {ret : Option FieldType} {hh : List (Nat × Nat × Nat × Nat)} {ws : List Cond} {rm : Room} {Pc : Array Value → State → Prop} {Qc : Array Value → State → Outcome → State → Prop} {free : Addr → Prop} {Ts : List Cond} {own C : String} {b : Addr} {As rest : List Value} {g : JFrame}
    (S : CallFix p m c cc nL s args Ts own) (hM : Met l y ws rm Pc Qc mc ms free) (cw : vx_CVW R s args own C index y bytes maxL ret hh ws rm mc ms n) (hp : PreV s H C b Pc As)
    (hg : g.method = m) (hn : As.length = n) (hsize : g.locals.size = nL) (hstack : g.stack = As.reverse ++ .ref b :: rest) (hW : 2 * g.monitorRoom + (rest.map fun v => v.category).sum ≤ 8) (hdg : decode cc g.pc = .ok (.invokevirtual index, 3)) (hf : cells + mc ≤ R.cells ∧ slots + ms ≤ R.slots) :
    va_Run p l e R s m args below meth c H locs cells slots mc ms g rest (Qc (Value.ref b :: As).toArray) free := by
  obtain ⟨⟨hrc, hrs, hfr, hlo, hws, hcw⟩, hcode, hini, hy, hlen, hl, hin, hse⟩ := cw
  have hK : Back l R p e below s args y 3 8 (PreOf R mc ms Pc) (PostOf Qc mc ms free) := va_backW (hh := hh) (bytes := bytes) (maxL := maxL) (ret := ret) hM hp.1 hrc hrs hfr hlo hws hcw (fun a' U hW => word_at hW (Or.inl (by first | rfl | simp [Cond.onTables, Cond.keeps, Cond.steady])) hini)
  obtain ⟨hx, hb, hml, ho, -⟩ := S
  obtain ⟨-, ⟨cellB, hcB, hoB, hclB⟩, hPc⟩ := hp
  intro T hT X
  obtain ⟨v, vm₁, ⟨U', l2, c2, s2⟩, hW₁, X', ⟨g', mk, t, L, e1, e2, hq, h1, hL, h2, h3⟩, st⟩ := vx_callVW X hx (C := C) (hh := hh) (bytes := bytes) (maxL := maxL) (ret := ret) ho hl hin hse hcode hy hK (by rw [hT]; exact hcB) hoB hclB hg (hsize.trans hml.symm) (argsL := As) (rest := rest) (fun sig h => hn.trans (hlen sig h)) hstack hW (by rw [hb]; exact hdg)
    (fun vm₁ hW₁ => ⟨hf.1, hf.2, hPc (T.setVm vm₁) hT hW₁⟩)
  dsimp only [Pt.U, Pt.locs, Pt.cells, Pt.slots] at X' e1 e2 h1 h2 h3 st
  subst h1; subst h2; subst h3
  exact ⟨v, (T.setVm vm₁).calling g' mk (Value.ref b :: As).toArray, t, U', L, hT, X', hL, e1, e2, hq, st⟩
section
variable {y : MethodName} {bytes cc : ByteArray} {maxL nL mc ms n index : Nat} {ret : Option FieldType} {ws : List Cond} {rm : Room} {Pc : Array Value → State → Prop} {Qc : Array Value → State → Outcome → State → Prop} {XC : String → State → State → Prop} {free : Addr → Prop} {Ts : List Cond} {own C : String} {b : Addr} {As rest : List Value} {g : JFrame}
theorem vx_runVX {hh : List (Nat × Nat × Nat × Nat)} (S : CallFix p m c cc nL s args Ts own) (hM : vx_Met l y ws rm Pc Qc XC mc ms free) (cw : vx_CVW R s args own C index y bytes maxL ret hh ws rm mc ms n) (hp : PreV s H C b Pc As)
    (hg : g.method = m) (hn : As.length = n) (hsize : g.locals.size = nL) (hstack : g.stack = As.reverse ++ .ref b :: rest) (hW : 2 * g.monitorRoom + (rest.map fun v => v.category).sum ≤ 8) (hdg : decode cc g.pc = .ok (.invokevirtual index, 3)) (hf : cells + mc ≤ R.cells ∧ slots + ms ≤ R.slots) :
    vx_Run p l e R s m args below meth c H locs cells slots mc ms g rest (Qc (Value.ref b :: As).toArray) XC free := by
  obtain ⟨⟨hrc, hrs, hfr, hlo, hws, hcw⟩, hcode, hini, hy, hlen, hl, hin, hse⟩ := cw
  have hK : vx_Back l R p e below s args y 3 8 (PreOf R mc ms Pc) (PostOf Qc mc ms free) (vx_Post XC mc ms free) := vx_backW (hh := hh) (bytes := bytes) (maxL := maxL) (ret := ret) hM hp.1 hrc hrs hfr hlo hws hcw (fun a' U hW => word_at hW (Or.inl (by first | rfl | simp [Cond.onTables, Cond.keeps, Cond.steady])) hini)
  obtain ⟨hx, hb, hml, ho, -⟩ := S
  obtain ⟨-, ⟨cellB, hcB, hoB, hclB⟩, hPc⟩ := hp
  intro T hT X
  rcases vx_callVX X hx (C := C) (hh := hh) (bytes := bytes) (maxL := maxL) (ret := ret) ho hl hin hse hcode hy hK (by rw [hT]; exact hcB) hoB hclB hg (hsize.trans hml.symm) (argsL := As) (rest := rest) (fun sig h => hn.trans (hlen sig h)) hstack hW (by rw [hb]; exact hdg)
    (fun vm₁ hW₁ => ⟨hf.1, hf.2, hPc (T.setVm vm₁) hT hW₁⟩) with ⟨v, vm₁, ⟨U', l2, c2, s2⟩, hW₁, X', ⟨g', mk, t, L, e1, e2, hq, h1, hL, h2, h3⟩, st⟩ | ⟨q, vm₁, ⟨U', l2, c2, s2⟩, hW₁, X', ⟨g', mk, t, L, E, ce, e1, e2, hq, hce, hcv, hcl, h1, hL, h2, h3⟩, st⟩
  · dsimp only [Pt.U, Pt.locs, Pt.cells, Pt.slots] at X' e1 e2 h1 h2 h3 st
    subst h1; subst h2; subst h3
    exact Or.inl ⟨v, (T.setVm vm₁).calling g' mk (Value.ref b :: As).toArray, t, U', L, hT, X', hL, e1, e2, hq, st⟩
  · dsimp only [Pt.U, Pt.locs, Pt.cells, Pt.slots] at X' e1 e2 h1 h2 h3 st hcl
    subst h1; subst h2; subst h3
    exact Or.inr ⟨q, (T.setVm vm₁).calling g' mk (Value.ref b :: As).toArray, t, U', L, E, ce, hT, X', hL, e1, e2, hq, hce, hcv, vx_cls hW₁ hcl, st⟩
theorem vx_runSX {hh : List (Nat × Nat × Nat × Nat)} (S : CallFix p m c cc nL s args Ts own) (hM : vx_Met l y ws rm Pc Qc XC mc ms free) (cw : vx_CSW R s args own index y bytes maxL ret hh ws rm mc ms n) (hp : PreS s H Pc As)
    (hg : g.method = m) (hn : As.length = n) (hsize : g.locals.size = nL) (hstack : g.stack = As.reverse ++ rest) (hW : 2 * g.monitorRoom + (rest.map fun v => v.category).sum ≤ 8) (hdg : decode cc g.pc = .ok (.invokestatic index, 3)) (hf : cells + mc ≤ R.cells ∧ slots + ms ≤ R.slots) :
    vx_Run p l e R s m args below meth c H locs cells slots mc ms g rest (Qc As.toArray) XC free := by
  obtain ⟨⟨hrc, hrs, hfr, hlo, hws, hcw⟩, hcode, hini, hy, hlen, hl, hstt⟩ := cw
  have hK : vx_Back l R p e below s args y 3 8 (PreOf R mc ms Pc) (PostOf Qc mc ms free) (vx_Post XC mc ms free) := vx_backW (hh := hh) (bytes := bytes) (maxL := maxL) (ret := ret) hM hp.1 hrc hrs hfr hlo hws hcw (fun a' U hW => word_at hW (Or.inl (by first | rfl | simp [Cond.onTables, Cond.keeps, Cond.steady])) hini)
  obtain ⟨hx, hb, hml, ho, -⟩ := S
  intro T hT X
  rcases vx_callSX X hx (hh := hh) (bytes := bytes) (maxL := maxL) (ret := ret) ho hl hstt hini hcode hy hK hg (hsize.trans hml.symm) (argsL := As) (rest := rest) (fun sig h => hn.trans (hlen sig h)) hstack hW (by rw [hb]; exact hdg)
    (fun vm₁ hW₁ => ⟨hf.1, hf.2, hp.2 (T.setVm vm₁) hT hW₁⟩) with ⟨v, vm₁, ⟨U', l2, c2, s2⟩, hW₁, X', ⟨g', mk, t, L, e1, e2, hq, h1, hL, h2, h3⟩, st⟩ | ⟨q, vm₁, ⟨U', l2, c2, s2⟩, hW₁, X', ⟨g', mk, t, L, E, ce, e1, e2, hq, hce, hcv, hcl, h1, hL, h2, h3⟩, st⟩
  · dsimp only [Pt.U, Pt.locs, Pt.cells, Pt.slots] at X' e1 e2 h1 h2 h3 st
    subst h1; subst h2; subst h3
    exact Or.inl ⟨v, (T.setVm vm₁).calling g' mk As.toArray, t, U', L, hT, X', hL, e1, e2, hq, st⟩
  · dsimp only [Pt.U, Pt.locs, Pt.cells, Pt.slots] at X' e1 e2 h1 h2 h3 st hcl
    subst h1; subst h2; subst h3
    exact Or.inr ⟨q, (T.setVm vm₁).calling g' mk As.toArray, t, U', L, E, ce, hT, X', hL, e1, e2, hq, hce, hcv, vx_cls hW₁ hcl, st⟩
end
end VXH
theorem vx_ofWH {l : Launch} {y : MethodName} {ws ws' : List Cond} {rm : Room} {Pc : Array Value → State → Prop} {Qc : Array Value → State → Outcome → State → Prop} {XC : String → State → State → Prop} {mc ms : Nat} {free : Addr → Prop} {cc : ByteArray} {maxL : Nat} {ret : Option FieldType} {hh : List (Nat × Nat × Nat × Nat)}
    (hy : plainName y.cls = true) (hw : ws = Cond.codeWith y cc maxL ret hh :: ws')
    (body : ∀ p e s m args below meth c s₁, BodyLoose p l y (headSpec ws rm) cc maxL ret e s m args below meth c s₁ → c.maxLocals = maxL → Pc args s →
      W p l e (headSpec ws rm).room s m args below meth c s.heap [] 0 0 (vx_MQ below Qc XC args s mc ms free) (entryFrame m args maxL)) : vx_Met l y ws rm Pc Qc XC mc ms free := by
  refine MetFree.of_bodyS (code := cc) (maxLocals := maxL) (ret := ret) hy ?_ ?_
  · intro args s m h hn
    obtain ⟨m9, meth, c, hn9, h1, h2, h3, h4, -, h5, h6, -⟩ := Cond.codeWith_spec (atoms_spec (ws := ws) h _ (by rw [hw]; exact List.mem_cons_self))
    cases hn.symm.trans hn9
    exact ⟨meth, c, h1, h2, h3, h4, h5, h6⟩
  · intro p e s m args below meth c s₁ B hml hP _
    have hh0 : s₁.heap = s.heap := by rw [B.state]; rfl
    obtain ⟨t, a1, o, b1, b2, b3⟩ := body p e s m args below meth c s₁ B hml hP s₁ hh0 (Stand.of_body B)
    exact ⟨t, o, a1, b1, b2, b3⟩
/-! ===== END ===== -/
end
section
abbrev R_Fr : String := "ClaimTriangle$Fraction"
abbrev R_Le : String := "ClaimTriangle$Ledger"
abbrev R_Re : String := "ClaimTriangle$Reckoner"
abbrev R_Te : String := "ClaimTriangle$Terms"
abbrev R_Tr : String := "ClaimTriangle$Triangle"
abbrev R_CT : String := "ClaimTriangle"
abbrev R_Mo : String := "ClaimTriangleModel"
abbrev R_La : String := "ClaimTriangleLaw"
abbrev R_Ma : String := "java/lang/Math"
def T_Fr : u_T := fun k => match k with
  | 0 => ("ClaimTriangle$Fraction", "above", "J", false)
  | 1 => ("ClaimTriangle$Fraction", "below", "J", false)
  | _ => ("ClaimTriangle$Fraction", "state", "I", false)
def ty_Fr : Nat → FieldType := fun k => match k with
  | 0 => .long
  | 1 => .long
  | _ => .int
theorem nm_Fr : ∀ a, a < 3 → ∀ b, b < 3 → a ≠ b → (T_Fr a).2.1 ≠ (T_Fr b).2.1 := by decide +kernel
theorem tk_Fr : ∀ k, k < 3 → parseFieldDescriptor (T_Fr k).2.2.1 = some (ty_Fr k) := by decide +kernel
def T_Le : u_T := fun k => match k with
  | 0 => ("ClaimTriangle$Ledger", "lines", "[I", true)
  | 1 => ("ClaimTriangle$Ledger", "origins", "[I", true)
  | 2 => ("ClaimTriangle$Ledger", "months", "[I", true)
  | 3 => ("ClaimTriangle$Ledger", "amounts", "[I", true)
  | 4 => ("ClaimTriangle$Ledger", "estimated", "[Z", true)
  | 5 => ("ClaimTriangle$Ledger", "living", "[Z", true)
  | _ => ("ClaimTriangle$Ledger", "size", "I", false)
def ty_Le : Nat → FieldType := fun k => match k with
  | 0 => .array .int
  | 1 => .array .int
  | 2 => .array .int
  | 3 => .array .int
  | 4 => .array .boolean
  | 5 => .array .boolean
  | _ => .int
theorem nm_Le : ∀ a, a < 7 → ∀ b, b < 7 → a ≠ b → (T_Le a).2.1 ≠ (T_Le b).2.1 := by decide +kernel
theorem tk_Le : ∀ k, k < 7 → parseFieldDescriptor (T_Le k).2.2.1 = some (ty_Le k) := by decide +kernel
def T_Re : u_T := fun k => match k with
  | 0 => ("ClaimTriangle$Reckoner", "triangle", "LClaimTriangle$Triangle;", true)
  | 1 => ("ClaimTriangle$Reckoner", "terms", "LClaimTriangle$Terms;", true)
  | 2 => ("ClaimTriangle$Reckoner", "links", "[LClaimTriangle$Fraction;", true)
  | 3 => ("ClaimTriangle$Reckoner", "answer", "LClaimTriangle$Fraction;", true)
  | 4 => ("ClaimTriangle$Reckoner", "whole", "LClaimTriangle$Fraction;", true)
  | 5 => ("ClaimTriangle$Reckoner", "expected", "LClaimTriangle$Fraction;", true)
  | _ => ("ClaimTriangle$Reckoner", "sum", "LClaimTriangle$Fraction;", true)
def ty_Re : Nat → FieldType := fun k => match k with
  | 0 => .object "ClaimTriangle$Triangle"
  | 1 => .object "ClaimTriangle$Terms"
  | 2 => .array (.object "ClaimTriangle$Fraction")
  | 3 => .object "ClaimTriangle$Fraction"
  | 4 => .object "ClaimTriangle$Fraction"
  | 5 => .object "ClaimTriangle$Fraction"
  | _ => .object "ClaimTriangle$Fraction"
theorem nm_Re : ∀ a, a < 7 → ∀ b, b < 7 → a ≠ b → (T_Re a).2.1 ≠ (T_Re b).2.1 := by decide +kernel
theorem tk_Re : ∀ k, k < 7 → parseFieldDescriptor (T_Re k).2.2.1 = some (ty_Re k) := by decide +kernel
def T_Te : u_T := fun k => match k with
  | 0 => ("ClaimTriangle$Terms", "premiums", "[[I", true)
  | 1 => ("ClaimTriangle$Terms", "firstRatio", "LClaimTriangle$Fraction;", true)
  | 2 => ("ClaimTriangle$Terms", "secondRatio", "LClaimTriangle$Fraction;", true)
  | 3 => ("ClaimTriangle$Terms", "tail", "LClaimTriangle$Fraction;", true)
  | _ => ("ClaimTriangle$Terms", "window", "I", false)
def ty_Te : Nat → FieldType := fun k => match k with
  | 0 => .array (.array .int)
  | 1 => .object "ClaimTriangle$Fraction"
  | 2 => .object "ClaimTriangle$Fraction"
  | 3 => .object "ClaimTriangle$Fraction"
  | _ => .int
theorem nm_Te : ∀ a, a < 5 → ∀ b, b < 5 → a ≠ b → (T_Te a).2.1 ≠ (T_Te b).2.1 := by decide +kernel
theorem tk_Te : ∀ k, k < 5 → parseFieldDescriptor (T_Te k).2.2.1 = some (ty_Te k) := by decide +kernel
def T_Tr : u_T := fun k => match k with
  | 0 => ("ClaimTriangle$Triangle", "cells", "[[I", true)
  | 1 => ("ClaimTriangle$Triangle", "out", "[Z", true)
  | 2 => ("ClaimTriangle$Triangle", "line", "I", false)
  | 3 => ("ClaimTriangle$Triangle", "step", "I", false)
  | 4 => ("ClaimTriangle$Triangle", "incurred", "Z", false)
  | 5 => ("ClaimTriangle$Triangle", "size", "I", false)
  | _ => ("ClaimTriangle$Triangle", "hidden", "I", false)
def ty_Tr : Nat → FieldType := fun k => match k with
  | 0 => .array (.array .int)
  | 1 => .array .boolean
  | 2 => .int
  | 3 => .int
  | 4 => .boolean
  | 5 => .int
  | _ => .int
theorem nm_Tr : ∀ a, a < 7 → ∀ b, b < 7 → a ≠ b → (T_Tr a).2.1 ≠ (T_Tr b).2.1 := by decide +kernel
theorem tk_Tr : ∀ k, k < 7 → parseFieldDescriptor (T_Tr k).2.2.1 = some (ty_Tr k) := by decide +kernel
def T_CT : u_T := fun k => match k with
  | 0 => ("ClaimTriangle", "ledger", "LClaimTriangle$Ledger;", true)
  | 1 => ("ClaimTriangle", "reckoner", "LClaimTriangle$Reckoner;", true)
  | 2 => ("ClaimTriangle", "triangle", "LClaimTriangle$Triangle;", true)
  | _ => ("ClaimTriangle", "terms", "LClaimTriangle$Terms;", true)
def ty_CT : Nat → FieldType := fun k => match k with
  | 0 => .object "ClaimTriangle$Ledger"
  | 1 => .object "ClaimTriangle$Reckoner"
  | 2 => .object "ClaimTriangle$Triangle"
  | _ => .object "ClaimTriangle$Terms"
theorem nm_CT : ∀ a, a < 4 → ∀ b, b < 4 → a ≠ b → (T_CT a).2.1 ≠ (T_CT b).2.1 := by decide +kernel
theorem tk_CT : ∀ k, k < 4 → parseFieldDescriptor (T_CT k).2.2.1 = some (ty_CT k) := by decide +kernel
def T_Mo : u_T := fun k => match k with
  | 0 => ("ClaimTriangleModel", "thrown", "I", false)
  | 1 => ("ClaimTriangleModel", "entries", "I", false)
  | 2 => ("ClaimTriangleModel", "lines", "[I", false)
  | 3 => ("ClaimTriangleModel", "origins", "[I", false)
  | 4 => ("ClaimTriangleModel", "months", "[I", false)
  | 5 => ("ClaimTriangleModel", "amounts", "[I", false)
  | 6 => ("ClaimTriangleModel", "pays", "[Z", false)
  | 7 => ("ClaimTriangleModel", "struck", "[Z", false)
  | 8 => ("ClaimTriangleModel", "premiums", "[I", false)
  | 9 => ("ClaimTriangleModel", "ups", "[J", false)
  | 10 => ("ClaimTriangleModel", "downs", "[J", false)
  | 11 => ("ClaimTriangleModel", "line", "I", false)
  | 12 => ("ClaimTriangleModel", "step", "I", false)
  | 13 => ("ClaimTriangleModel", "incurred", "Z", false)
  | 14 => ("ClaimTriangleModel", "all", "I", false)
  | 15 => ("ClaimTriangleModel", "hidden", "I", false)
  | 16 => ("ClaimTriangleModel", "recent", "I", false)
  | 17 => ("ClaimTriangleModel", "out", "[Z", false)
  | 18 => ("ClaimTriangleModel", "cells", "[I", false)
  | 19 => ("ClaimTriangleModel", "x", "J", false)
  | 20 => ("ClaimTriangleModel", "y", "J", false)
  | 21 => ("ClaimTriangleModel", "tooLong", "Z", false)
  | 22 => ("ClaimTriangleModel", "sideUp", "J", false)
  | 23 => ("ClaimTriangleModel", "sideDown", "J", false)
  | 24 => ("ClaimTriangleModel", "factorUp", "J", false)
  | _ => ("ClaimTriangleModel", "factorDown", "J", false)
def ty_Mo : Nat → FieldType := fun k => match k with
  | 0 => .int
  | 1 => .int
  | 2 => .array .int
  | 3 => .array .int
  | 4 => .array .int
  | 5 => .array .int
  | 6 => .array .boolean
  | 7 => .array .boolean
  | 8 => .array .int
  | 9 => .array .long
  | 10 => .array .long
  | 11 => .int
  | 12 => .int
  | 13 => .boolean
  | 14 => .int
  | 15 => .int
  | 16 => .int
  | 17 => .array .boolean
  | 18 => .array .int
  | 19 => .long
  | 20 => .long
  | 21 => .boolean
  | 22 => .long
  | 23 => .long
  | 24 => .long
  | _ => .long
theorem nm_Mo : ∀ a, a < 26 → ∀ b, b < 26 → a ≠ b → (T_Mo a).2.1 ≠ (T_Mo b).2.1 := by decide +kernel
theorem tk_Mo : ∀ k, k < 26 → parseFieldDescriptor (T_Mo k).2.2.1 = some (ty_Mo k) := by decide +kernel
abbrev kl : List vw_C := [(R_Fr, T_Fr, 3), (R_Le, T_Le, 7), (R_Re, T_Re, 7), (R_Te, T_Te, 5), (R_Tr, T_Tr, 7), (R_CT, T_CT, 4), (R_Mo, T_Mo, 26)]
abbrev c_CT_init : ByteArray := prog_1_method_1_code
abbrev y_CT_init : MethodName := ⟨R_CT, "<init>", "()V"⟩
abbrev c_CT_pay : ByteArray := prog_1_method_2_code
abbrev y_CT_pay : MethodName := ⟨R_CT, "pay", "(IIII)I"⟩
abbrev c_CT_estimate : ByteArray := prog_1_method_3_code
abbrev y_CT_estimate : MethodName := ⟨R_CT, "estimate", "(IIII)I"⟩
abbrev c_CT_strike : ByteArray := prog_1_method_4_code
abbrev y_CT_strike : MethodName := ⟨R_CT, "strike", "(I)I"⟩
abbrev c_CT_move : ByteArray := prog_1_method_5_code
abbrev y_CT_move : MethodName := ⟨R_CT, "move", "(III)V"⟩
abbrev c_CT_premium : ByteArray := prog_1_method_6_code
abbrev y_CT_premium : MethodName := ⟨R_CT, "premium", "(III)V"⟩
abbrev c_CT_ratio : ByteArray := prog_1_method_7_code
abbrev y_CT_ratio : MethodName := ⟨R_CT, "ratio", "(III)V"⟩
abbrev c_CT_build : ByteArray := prog_1_method_8_code
abbrev y_CT_build : MethodName := ⟨R_CT, "build", "(IIZI)V"⟩
abbrev c_CT_cell : ByteArray := prog_1_method_9_code
abbrev y_CT_cell : MethodName := ⟨R_CT, "cell", "(II)I"⟩
abbrev c_CT_leave : ByteArray := prog_1_method_10_code
abbrev y_CT_leave : MethodName := ⟨R_CT, "leave", "(IIZ)I"⟩
abbrev c_CT_latest : ByteArray := prog_1_method_11_code
abbrev y_CT_latest : MethodName := ⟨R_CT, "latest", "(I)V"⟩
abbrev c_CT_hide : ByteArray := prog_1_method_12_code
abbrev y_CT_hide : MethodName := ⟨R_CT, "hide", "(I)I"⟩
abbrev c_CT_factor : ByteArray := prog_1_method_13_code
abbrev y_CT_factor : MethodName := ⟨R_CT, "factor", "(IIZ)J"⟩
abbrev c_CT_ultimate : ByteArray := prog_1_method_14_code
abbrev y_CT_ultimate : MethodName := ⟨R_CT, "ultimate", "(IIZ)J"⟩
abbrev c_CT_reserve : ByteArray := prog_1_method_15_code
abbrev y_CT_reserve : MethodName := ⟨R_CT, "reserve", "(IIZ)J"⟩
abbrev c_CT_rounded : ByteArray := prog_1_method_16_code
abbrev y_CT_rounded : MethodName := ⟨R_CT, "rounded", "(II)J"⟩
abbrev c_CT_total : ByteArray := prog_1_method_17_code
abbrev y_CT_total : MethodName := ⟨R_CT, "total", "(IZ)J"⟩
abbrev c_CT_marks : ByteArray := prog_1_method_18_code
abbrev y_CT_marks : MethodName := ⟨R_CT, "marks", "(I)I"⟩
abbrev c_CT_deviation : ByteArray := prog_1_method_19_code
abbrev y_CT_deviation : MethodName := ⟨R_CT, "deviation", "(IZ)J"⟩
abbrev c_CT_error : ByteArray := prog_1_method_20_code
abbrev y_CT_error : MethodName := ⟨R_CT, "error", "(IIZ)J"⟩
abbrev c_CT_diagonal : ByteArray := prog_1_method_21_code
abbrev y_CT_diagonal : MethodName := ⟨R_CT, "diagonal", "(I)I"⟩
abbrev c_CT_count : ByteArray := prog_1_method_22_code
abbrev y_CT_count : MethodName := ⟨R_CT, "count", "(I)I"⟩
abbrev c_CT_enter : ByteArray := prog_1_method_23_code
abbrev y_CT_enter : MethodName := ⟨R_CT, "enter", "(IIIIZ)I"⟩
abbrev c_CT_partOfAnswer : ByteArray := prog_1_method_24_code
abbrev y_CT_partOfAnswer : MethodName := ⟨R_CT, "partOfAnswer", "(Z)J"⟩
abbrev c_CT_checkAnswer : ByteArray := prog_1_method_25_code
abbrev y_CT_checkAnswer : MethodName := ⟨R_CT, "checkAnswer", "()V"⟩
abbrev c_CT_checkEntry : ByteArray := prog_1_method_26_code
abbrev y_CT_checkEntry : MethodName := ⟨R_CT, "checkEntry", "(I)V"⟩
abbrev c_CT_checkLiving : ByteArray := prog_1_method_27_code
abbrev y_CT_checkLiving : MethodName := ⟨R_CT, "checkLiving", "(I)V"⟩
abbrev c_CT_isRow : ByteArray := prog_1_method_28_code
abbrev y_CT_isRow : MethodName := ⟨R_CT, "isRow", "(I)Z"⟩
abbrev c_CT_checkMonths : ByteArray := prog_1_method_29_code
abbrev y_CT_checkMonths : MethodName := ⟨R_CT, "checkMonths", "(II)V"⟩
abbrev c_CT_check : ByteArray := prog_1_method_30_code
abbrev y_CT_check : MethodName := ⟨R_CT, "check", "(Z)V"⟩
abbrev c_CT_within : ByteArray := prog_1_method_31_code
abbrev y_CT_within : MethodName := ⟨R_CT, "within", "(III)Z"⟩
abbrev c_CT_isLine : ByteArray := prog_1_method_32_code
abbrev y_CT_isLine : MethodName := ⟨R_CT, "isLine", "(I)Z"⟩
abbrev c_CT_isCell : ByteArray := prog_1_method_33_code
abbrev y_CT_isCell : MethodName := ⟨R_CT, "isCell", "(III)Z"⟩
abbrev c_CT_isMethod : ByteArray := prog_1_method_34_code
abbrev y_CT_isMethod : MethodName := ⟨R_CT, "isMethod", "(I)Z"⟩
abbrev c_CT_isChain : ByteArray := prog_1_method_35_code
abbrev y_CT_isChain : MethodName := ⟨R_CT, "isChain", "(I)Z"⟩
abbrev c_Mo_init : ByteArray := prog_8_method_1_code
abbrev y_Mo_init : MethodName := ⟨R_Mo, "<init>", "()V"⟩
abbrev c_Mo_thrown : ByteArray := prog_8_method_2_code
abbrev y_Mo_thrown : MethodName := ⟨R_Mo, "thrown", "()I"⟩
abbrev c_Mo_noLine : ByteArray := prog_8_method_3_code
abbrev y_Mo_noLine : MethodName := ⟨R_Mo, "noLine", "(I)Z"⟩
abbrev c_Mo_noMonths : ByteArray := prog_8_method_4_code
abbrev y_Mo_noMonths : MethodName := ⟨R_Mo, "noMonths", "(II)Z"⟩
abbrev c_Mo_enter : ByteArray := prog_8_method_5_code
abbrev y_Mo_enter : MethodName := ⟨R_Mo, "enter", "(IIIIZ)I"⟩
abbrev c_Mo_pay : ByteArray := prog_8_method_6_code
abbrev y_Mo_pay : MethodName := ⟨R_Mo, "pay", "(IIII)I"⟩
abbrev c_Mo_estimate : ByteArray := prog_8_method_7_code
abbrev y_Mo_estimate : MethodName := ⟨R_Mo, "estimate", "(IIII)I"⟩
abbrev c_Mo_noEntry : ByteArray := prog_8_method_8_code
abbrev y_Mo_noEntry : MethodName := ⟨R_Mo, "noEntry", "(I)Z"⟩
abbrev c_Mo_strike : ByteArray := prog_8_method_9_code
abbrev y_Mo_strike : MethodName := ⟨R_Mo, "strike", "(I)I"⟩
abbrev c_Mo_move : ByteArray := prog_8_method_10_code
abbrev y_Mo_move : MethodName := ⟨R_Mo, "move", "(III)V"⟩
abbrev c_Mo_premium : ByteArray := prog_8_method_11_code
abbrev y_Mo_premium : MethodName := ⟨R_Mo, "premium", "(III)V"⟩
abbrev c_Mo_ratio : ByteArray := prog_8_method_12_code
abbrev y_Mo_ratio : MethodName := ⟨R_Mo, "ratio", "(III)V"⟩
abbrev c_Mo_build : ByteArray := prog_8_method_13_code
abbrev y_Mo_build : MethodName := ⟨R_Mo, "build", "(IIZI)V"⟩
abbrev c_Mo_estimateOf : ByteArray := prog_8_method_14_code
abbrev y_Mo_estimateOf : MethodName := ⟨R_Mo, "estimateOf", "(II)I"⟩
abbrev c_Mo_sumOf : ByteArray := prog_8_method_15_code
abbrev y_Mo_sumOf : MethodName := ⟨R_Mo, "sumOf", "(II)I"⟩
abbrev c_Mo_look : ByteArray := prog_8_method_16_code
abbrev y_Mo_look : MethodName := ⟨R_Mo, "look", "()V"⟩
abbrev c_Mo_left : ByteArray := prog_8_method_17_code
abbrev y_Mo_left : MethodName := ⟨R_Mo, "left", "()I"⟩
abbrev c_Mo_noCell : ByteArray := prog_8_method_18_code
abbrev y_Mo_noCell : MethodName := ⟨R_Mo, "noCell", "(III)Z"⟩
abbrev c_Mo_cell : ByteArray := prog_8_method_19_code
abbrev y_Mo_cell : MethodName := ⟨R_Mo, "cell", "(II)I"⟩
abbrev c_Mo_leave : ByteArray := prog_8_method_20_code
abbrev y_Mo_leave : MethodName := ⟨R_Mo, "leave", "(IIZ)I"⟩
abbrev c_Mo_latest : ByteArray := prog_8_method_21_code
abbrev y_Mo_latest : MethodName := ⟨R_Mo, "latest", "(I)V"⟩
abbrev c_Mo_hide : ByteArray := prog_8_method_22_code
abbrev y_Mo_hide : MethodName := ⟨R_Mo, "hide", "(I)I"⟩
abbrev c_Mo_divisor : ByteArray := prog_8_method_23_code
abbrev y_Mo_divisor : MethodName := ⟨R_Mo, "divisor", "(JJ)J"⟩
abbrev c_Mo_size : ByteArray := prog_8_method_24_code
abbrev y_Mo_size : MethodName := ⟨R_Mo, "size", "(J)J"⟩
abbrev c_Mo_isShort : ByteArray := prog_8_method_25_code
abbrev y_Mo_isShort : MethodName := ⟨R_Mo, "isShort", "(JJ)Z"⟩
abbrev c_Mo_set : ByteArray := prog_8_method_26_code
abbrev y_Mo_set : MethodName := ⟨R_Mo, "set", "(JJ)V"⟩
abbrev c_Mo_times : ByteArray := prog_8_method_27_code
abbrev y_Mo_times : MethodName := ⟨R_Mo, "times", "(JJ)V"⟩
abbrev c_Mo_plus : ByteArray := prog_8_method_28_code
abbrev y_Mo_plus : MethodName := ⟨R_Mo, "plus", "(JJ)V"⟩
abbrev c_Mo_turn : ByteArray := prog_8_method_29_code
abbrev y_Mo_turn : MethodName := ⟨R_Mo, "turn", "()V"⟩
abbrev c_Mo_takes : ByteArray := prog_8_method_30_code
abbrev y_Mo_takes : MethodName := ⟨R_Mo, "takes", "(III)Z"⟩
abbrev c_Mo_find : ByteArray := prog_8_method_31_code
abbrev y_Mo_find : MethodName := ⟨R_Mo, "find", "(II)Z"⟩
abbrev c_Mo_areDefined : ByteArray := prog_8_method_32_code
abbrev y_Mo_areDefined : MethodName := ⟨R_Mo, "areDefined", "(III)Z"⟩
abbrev c_Mo_way : ByteArray := prog_8_method_33_code
abbrev y_Mo_way : MethodName := ⟨R_Mo, "way", "(III)V"⟩
abbrev c_Mo_answer : ByteArray := prog_8_method_34_code
abbrev y_Mo_answer : MethodName := ⟨R_Mo, "answer", "()I"⟩
abbrev c_Mo_latestOf : ByteArray := prog_8_method_35_code
abbrev y_Mo_latestOf : MethodName := ⟨R_Mo, "latestOf", "(I)I"⟩
abbrev c_Mo_expect : ByteArray := prog_8_method_36_code
abbrev y_Mo_expect : MethodName := ⟨R_Mo, "expect", "(I)V"⟩
abbrev c_Mo_work : ByteArray := prog_8_method_37_code
abbrev y_Mo_work : MethodName := ⟨R_Mo, "work", "(II)I"⟩
abbrev c_Mo_workReserve : ByteArray := prog_8_method_38_code
abbrev y_Mo_workReserve : MethodName := ⟨R_Mo, "workReserve", "(II)I"⟩
abbrev c_Mo_told : ByteArray := prog_8_method_39_code
abbrev y_Mo_told : MethodName := ⟨R_Mo, "told", "(IZ)J"⟩
abbrev c_Mo_factor : ByteArray := prog_8_method_40_code
abbrev y_Mo_factor : MethodName := ⟨R_Mo, "factor", "(IIZ)J"⟩
abbrev c_Mo_noRow : ByteArray := prog_8_method_41_code
abbrev y_Mo_noRow : MethodName := ⟨R_Mo, "noRow", "(II)Z"⟩
abbrev c_Mo_ultimate : ByteArray := prog_8_method_42_code
abbrev y_Mo_ultimate : MethodName := ⟨R_Mo, "ultimate", "(IIZ)J"⟩
abbrev c_Mo_reserve : ByteArray := prog_8_method_43_code
abbrev y_Mo_reserve : MethodName := ⟨R_Mo, "reserve", "(IIZ)J"⟩
abbrev c_Mo_rounded : ByteArray := prog_8_method_44_code
abbrev y_Mo_rounded : MethodName := ⟨R_Mo, "rounded", "(II)J"⟩
abbrev c_Mo_total : ByteArray := prog_8_method_45_code
abbrev y_Mo_total : MethodName := ⟨R_Mo, "total", "(IZ)J"⟩
abbrev c_Mo_marks : ByteArray := prog_8_method_46_code
abbrev y_Mo_marks : MethodName := ⟨R_Mo, "marks", "(I)I"⟩
abbrev c_Mo_deviation : ByteArray := prog_8_method_47_code
abbrev y_Mo_deviation : MethodName := ⟨R_Mo, "deviation", "(IZ)J"⟩
abbrev c_Mo_error : ByteArray := prog_8_method_48_code
abbrev y_Mo_error : MethodName := ⟨R_Mo, "error", "(IIZ)J"⟩
abbrev c_Mo_diagonal : ByteArray := prog_8_method_49_code
abbrev y_Mo_diagonal : MethodName := ⟨R_Mo, "diagonal", "(I)I"⟩
abbrev c_Mo_count : ByteArray := prog_8_method_50_code
abbrev y_Mo_count : MethodName := ⟨R_Mo, "count", "(I)I"⟩
abbrev c_Fr_init : ByteArray := prog_2_method_1_code
abbrev y_Fr_init : MethodName := ⟨R_Fr, "<init>", "(J)V"⟩
abbrev c_Fr_becomeWhole : ByteArray := prog_2_method_2_code
abbrev y_Fr_becomeWhole : MethodName := ⟨R_Fr, "becomeWhole", "(J)V"⟩
abbrev c_Fr_become : ByteArray := prog_2_method_3_code
abbrev y_Fr_become : MethodName := ⟨R_Fr, "become", "(JJ)V"⟩
abbrev c_Fr_copy : ByteArray := prog_2_method_4_code
abbrev y_Fr_copy : MethodName := ⟨R_Fr, "copy", "(LClaimTriangle$Fraction;)V"⟩
abbrev c_Fr_times : ByteArray := prog_2_method_5_code
abbrev y_Fr_times : MethodName := ⟨R_Fr, "times", "(LClaimTriangle$Fraction;)V"⟩
abbrev c_Fr_plus : ByteArray := prog_2_method_6_code
abbrev y_Fr_plus : MethodName := ⟨R_Fr, "plus", "(LClaimTriangle$Fraction;)V"⟩
abbrev c_Fr_negate : ByteArray := prog_2_method_7_code
abbrev y_Fr_negate : MethodName := ⟨R_Fr, "negate", "()V"⟩
abbrev c_Fr_invert : ByteArray := prog_2_method_8_code
abbrev y_Fr_invert : MethodName := ⟨R_Fr, "invert", "()V"⟩
abbrev c_Fr_nearest : ByteArray := prog_2_method_9_code
abbrev y_Fr_nearest : MethodName := ⟨R_Fr, "nearest", "()J"⟩
abbrev c_Fr_fits : ByteArray := prog_2_method_10_code
abbrev y_Fr_fits : MethodName := ⟨R_Fr, "fits", "(JJ)Z"⟩
abbrev c_Fr_divisor : ByteArray := prog_2_method_11_code
abbrev y_Fr_divisor : MethodName := ⟨R_Fr, "divisor", "(JJ)J"⟩
abbrev c_Le_init : ByteArray := prog_3_method_1_code
abbrev y_Le_init : MethodName := ⟨R_Le, "<init>", "()V"⟩
abbrev c_Le_append : ByteArray := prog_3_method_2_code
abbrev y_Le_append : MethodName := ⟨R_Le, "append", "(IIIIZ)I"⟩
abbrev c_Le_livesIn : ByteArray := prog_3_method_3_code
abbrev y_Le_livesIn : MethodName := ⟨R_Le, "livesIn", "(II)Z"⟩
abbrev c_Le_countLiving : ByteArray := prog_3_method_4_code
abbrev y_Le_countLiving : MethodName := ⟨R_Le, "countLiving", "()I"⟩
abbrev c_Le_sumPayments : ByteArray := prog_3_method_5_code
abbrev y_Le_sumPayments : MethodName := ⟨R_Le, "sumPayments", "(I)I"⟩
abbrev c_Le_replacedIn : ByteArray := prog_3_method_6_code
abbrev y_Le_replacedIn : MethodName := ⟨R_Le, "replacedIn", "(I)I"⟩
abbrev c_Le_replaces : ByteArray := prog_3_method_7_code
abbrev y_Le_replaces : MethodName := ⟨R_Le, "replaces", "(II)Z"⟩
abbrev c_Re_init : ByteArray := prog_4_method_1_code
abbrev y_Re_init : MethodName := ⟨R_Re, "<init>", "()V"⟩
abbrev c_Re_prepare : ByteArray := prog_4_method_2_code
abbrev y_Re_prepare : MethodName := ⟨R_Re, "prepare", "(I)V"⟩
abbrev c_Re_linkUp : ByteArray := prog_4_method_3_code
abbrev y_Re_linkUp : MethodName := ⟨R_Re, "linkUp", "(II)V"⟩
abbrev c_Re_toLink : ByteArray := prog_4_method_4_code
abbrev y_Re_toLink : MethodName := ⟨R_Re, "toLink", "(I)V"⟩
abbrev c_Re_toUltimate : ByteArray := prog_4_method_5_code
abbrev y_Re_toUltimate : MethodName := ⟨R_Re, "toUltimate", "(II)V"⟩
abbrev c_Re_toReserve : ByteArray := prog_4_method_6_code
abbrev y_Re_toReserve : MethodName := ⟨R_Re, "toReserve", "(II)V"⟩
abbrev c_Re_toTotal : ByteArray := prog_4_method_7_code
abbrev y_Re_toTotal : MethodName := ⟨R_Re, "toTotal", "(I)V"⟩
abbrev c_Re_markRows : ByteArray := prog_4_method_8_code
abbrev y_Re_markRows : MethodName := ⟨R_Re, "markRows", "(I)I"⟩
abbrev c_Re_toDeviation : ByteArray := prog_4_method_9_code
abbrev y_Re_toDeviation : MethodName := ⟨R_Re, "toDeviation", "(I)V"⟩
abbrev c_Re_toSquare : ByteArray := prog_4_method_10_code
abbrev y_Re_toSquare : MethodName := ⟨R_Re, "toSquare", "(II)V"⟩
abbrev c_Re_toError : ByteArray := prog_4_method_11_code
abbrev y_Re_toError : MethodName := ⟨R_Re, "toError", "(I)V"⟩
abbrev c_Re_chain : ByteArray := prog_4_method_12_code
abbrev y_Re_chain : MethodName := ⟨R_Re, "chain", "(II)V"⟩
abbrev c_Re_expect : ByteArray := prog_4_method_13_code
abbrev y_Re_expect : MethodName := ⟨R_Re, "expect", "(I)V"⟩
abbrev c_Re_blend : ByteArray := prog_4_method_14_code
abbrev y_Re_blend : MethodName := ⟨R_Re, "blend", "(I)V"⟩
abbrev c_Re_asWhole : ByteArray := prog_4_method_15_code
abbrev y_Re_asWhole : MethodName := ⟨R_Re, "asWhole", "(J)LClaimTriangle$Fraction;"⟩
abbrev c_Te_init : ByteArray := prog_5_method_1_code
abbrev y_Te_init : MethodName := ⟨R_Te, "<init>", "()V"⟩
abbrev c_Te_ratioOf : ByteArray := prog_5_method_2_code
abbrev y_Te_ratioOf : MethodName := ⟨R_Te, "ratioOf", "(I)LClaimTriangle$Fraction;"⟩
abbrev c_Te_sumPremiums : ByteArray := prog_5_method_3_code
abbrev y_Te_sumPremiums : MethodName := ⟨R_Te, "sumPremiums", "(III)I"⟩
abbrev c_Tr_init : ByteArray := prog_6_method_1_code
abbrev y_Tr_init : MethodName := ⟨R_Tr, "<init>", "()V"⟩
abbrev c_Tr_shown : ByteArray := prog_6_method_2_code
abbrev y_Tr_shown : MethodName := ⟨R_Tr, "shown", "()I"⟩
abbrev c_Tr_reshape : ByteArray := prog_6_method_3_code
abbrev y_Tr_reshape : MethodName := ⟨R_Tr, "reshape", "(IIZI)V"⟩
abbrev c_Tr_mark : ByteArray := prog_6_method_4_code
abbrev y_Tr_mark : MethodName := ⟨R_Tr, "mark", "(IIZ)I"⟩
abbrev c_Tr_takes : ByteArray := prog_6_method_5_code
abbrev y_Tr_takes : MethodName := ⟨R_Tr, "takes", "(II)Z"⟩
abbrev c_Tr_latestOf : ByteArray := prog_6_method_6_code
abbrev y_Tr_latestOf : MethodName := ⟨R_Tr, "latestOf", "(I)I"⟩
abbrev c_Tr_growth : ByteArray := prog_6_method_7_code
abbrev y_Tr_growth : MethodName := ⟨R_Tr, "growth", "(I)I"⟩
abbrev c_Tr_fill : ByteArray := prog_6_method_8_code
abbrev y_Tr_fill : MethodName := ⟨R_Tr, "fill", "(LClaimTriangle$Ledger;)V"⟩
abbrev c_Tr_clear : ByteArray := prog_6_method_9_code
abbrev y_Tr_clear : MethodName := ⟨R_Tr, "clear", "()V"⟩
abbrev c_Tr_addEstimate : ByteArray := prog_6_method_10_code
abbrev y_Tr_addEstimate : MethodName := ⟨R_Tr, "addEstimate", "(LClaimTriangle$Ledger;I)V"⟩
abbrev c_Tr_add : ByteArray := prog_6_method_11_code
abbrev y_Tr_add : MethodName := ⟨R_Tr, "add", "(III)V"⟩
abbrev c_Tr_accumulate : ByteArray := prog_6_method_12_code
abbrev y_Tr_accumulate : MethodName := ⟨R_Tr, "accumulate", "()V"⟩
abbrev c_La_pay : ByteArray := method_3_code
abbrev y_La_pay : MethodName := ⟨R_La, "pay", "(LClaimTriangle;IIII[J)I"⟩
abbrev c_La_estimate : ByteArray := method_4_code
abbrev y_La_estimate : MethodName := ⟨R_La, "estimate", "(LClaimTriangle;IIII[J)I"⟩
abbrev c_La_strike : ByteArray := method_5_code
abbrev y_La_strike : MethodName := ⟨R_La, "strike", "(LClaimTriangle;I[J)I"⟩
abbrev c_La_move : ByteArray := method_6_code
abbrev y_La_move : MethodName := ⟨R_La, "move", "(LClaimTriangle;III)I"⟩
abbrev c_La_premium : ByteArray := method_7_code
abbrev y_La_premium : MethodName := ⟨R_La, "premium", "(LClaimTriangle;III)I"⟩
abbrev c_La_ratio : ByteArray := method_8_code
abbrev y_La_ratio : MethodName := ⟨R_La, "ratio", "(LClaimTriangle;III)I"⟩
abbrev c_La_build : ByteArray := method_9_code
abbrev y_La_build : MethodName := ⟨R_La, "build", "(LClaimTriangle;IIZI)I"⟩
abbrev c_La_cell : ByteArray := method_10_code
abbrev y_La_cell : MethodName := ⟨R_La, "cell", "(LClaimTriangle;II[J)I"⟩
abbrev c_La_leave : ByteArray := method_11_code
abbrev y_La_leave : MethodName := ⟨R_La, "leave", "(LClaimTriangle;IIZ[J)I"⟩
abbrev c_La_latest : ByteArray := method_12_code
abbrev y_La_latest : MethodName := ⟨R_La, "latest", "(LClaimTriangle;I)I"⟩
abbrev c_La_hide : ByteArray := method_13_code
abbrev y_La_hide : MethodName := ⟨R_La, "hide", "(LClaimTriangle;I[J)I"⟩
abbrev c_La_factor : ByteArray := method_14_code
abbrev y_La_factor : MethodName := ⟨R_La, "factor", "(LClaimTriangle;IIZ[J)I"⟩
abbrev c_La_ultimate : ByteArray := method_15_code
abbrev y_La_ultimate : MethodName := ⟨R_La, "ultimate", "(LClaimTriangle;IIZ[J)I"⟩
abbrev c_La_reserve : ByteArray := method_16_code
abbrev y_La_reserve : MethodName := ⟨R_La, "reserve", "(LClaimTriangle;IIZ[J)I"⟩
abbrev c_La_rounded : ByteArray := method_17_code
abbrev y_La_rounded : MethodName := ⟨R_La, "rounded", "(LClaimTriangle;II[J)I"⟩
abbrev c_La_total : ByteArray := method_18_code
abbrev y_La_total : MethodName := ⟨R_La, "total", "(LClaimTriangle;IZ[J)I"⟩
abbrev c_La_marks : ByteArray := method_19_code
abbrev y_La_marks : MethodName := ⟨R_La, "marks", "(LClaimTriangle;I[J)I"⟩
abbrev c_La_deviation : ByteArray := method_20_code
abbrev y_La_deviation : MethodName := ⟨R_La, "deviation", "(LClaimTriangle;IZ[J)I"⟩
abbrev c_La_error : ByteArray := method_21_code
abbrev y_La_error : MethodName := ⟨R_La, "error", "(LClaimTriangle;IIZ[J)I"⟩
abbrev c_La_diagonal : ByteArray := method_22_code
abbrev y_La_diagonal : MethodName := ⟨R_La, "diagonal", "(LClaimTriangle;I[J)I"⟩
abbrev c_La_count : ByteArray := method_23_code
abbrev y_La_count : MethodName := ⟨R_La, "count", "(LClaimTriangle;I[J)I"⟩
abbrev c_Ma_abs_J : ByteArray := prog_13_method_61_code
abbrev y_Ma_abs_J : MethodName := ⟨R_Ma, "abs", "(J)J"⟩
abbrev c_Ma_floorDiv : ByteArray := prog_13_method_49_code
abbrev y_Ma_floorDiv : MethodName := ⟨R_Ma, "floorDiv", "(JJ)J"⟩
abbrev c_Ma_max_I : ByteArray := prog_13_method_65_code
abbrev y_Ma_max_I : MethodName := ⟨R_Ma, "max", "(II)I"⟩
abbrev c_Ma_max_J : ByteArray := prog_13_method_66_code
abbrev y_Ma_max_J : MethodName := ⟨R_Ma, "max", "(JJ)J"⟩
end
section
def Wds : List Cond := lw_tbl.filter goodWord
def ct_nw (w : Cond) : Bool := match w with
  | .fieldLinkNest .. => true
  | .methodLinkNest .. => true
  | .castable .. => true
  | .declares .. => true
  | _ => false
def NW : List Cond := tables_1.filter ct_nw
def ct_str : List (Nat × String) := [(226, "there is none such"), (198, "there are 60 entries"), (224, "the entry is struck"), (216, "undefined"), (221, "a step is too long"), (191, "there is no such count")]
theorem in_Fr : ∀ w ∈ u_ws R_Fr T_Fr 3, w ∈ Wds := by decide +kernel
theorem in_Le : ∀ w ∈ u_ws R_Le T_Le 7, w ∈ Wds := by decide +kernel
theorem in_Re : ∀ w ∈ u_ws R_Re T_Re 7, w ∈ Wds := by decide +kernel
theorem in_Te : ∀ w ∈ u_ws R_Te T_Te 5, w ∈ Wds := by decide +kernel
theorem in_Tr : ∀ w ∈ u_ws R_Tr T_Tr 7, w ∈ Wds := by decide +kernel
theorem in_CT : ∀ w ∈ u_ws R_CT T_CT 4, w ∈ Wds := by decide +kernel
theorem in_Mo : ∀ w ∈ u_ws R_Mo T_Mo 26, w ∈ Wds := by decide +kernel
theorem wd_1 : (Cond.initialized "ClaimTriangle") ∈ Wds := List.mem_filter.mpr ⟨List.mem_append_right _ (List.mem_of_getElem? (i := 1) (by decide +kernel)), by decide +kernel⟩
theorem wd_2 : (Cond.initialized "ClaimTriangle$Ledger") ∈ Wds := List.mem_filter.mpr ⟨List.mem_append_right _ (List.mem_of_getElem? (i := 2) (by decide +kernel)), by decide +kernel⟩
theorem wd_3 : (Cond.initialized "ClaimTriangle$Reckoner") ∈ Wds := List.mem_filter.mpr ⟨List.mem_append_right _ (List.mem_of_getElem? (i := 3) (by decide +kernel)), by decide +kernel⟩
theorem wd_4 : (Cond.initialized "ClaimTriangle$Triangle") ∈ Wds := List.mem_filter.mpr ⟨List.mem_append_right _ (List.mem_of_getElem? (i := 4) (by decide +kernel)), by decide +kernel⟩
theorem wd_5 : (Cond.initialized "ClaimTriangle$Terms") ∈ Wds := List.mem_filter.mpr ⟨List.mem_append_right _ (List.mem_of_getElem? (i := 5) (by decide +kernel)), by decide +kernel⟩
theorem wd_6 : (Cond.initialized "ClaimTriangle$Fraction") ∈ Wds := List.mem_filter.mpr ⟨List.mem_append_right _ (List.mem_of_getElem? (i := 6) (by decide +kernel)), by decide +kernel⟩
theorem wd_7 : (Cond.initialized "ClaimTriangleModel") ∈ Wds := List.mem_filter.mpr ⟨List.mem_append_right _ (List.mem_of_getElem? (i := 7) (by decide +kernel)), by decide +kernel⟩
theorem wd_11 : (Cond.initialized "java/lang/IllegalArgumentException") ∈ Wds := List.mem_filter.mpr ⟨List.mem_append_right _ (List.mem_of_getElem? (i := 11) (by decide +kernel)), by decide +kernel⟩
theorem wd_12 : (Cond.initialized "java/lang/IllegalStateException") ∈ Wds := List.mem_filter.mpr ⟨List.mem_append_right _ (List.mem_of_getElem? (i := 12) (by decide +kernel)), by decide +kernel⟩
theorem wd_13 : (Cond.initialized "java/lang/Math") ∈ Wds := List.mem_filter.mpr ⟨List.mem_append_right _ (List.mem_of_getElem? (i := 13) (by decide +kernel)), by decide +kernel⟩
theorem wd_14 : (Cond.initialized "java/lang/ArithmeticException") ∈ Wds := List.mem_filter.mpr ⟨List.mem_append_right _ (List.mem_of_getElem? (i := 14) (by decide +kernel)), by decide +kernel⟩
theorem wd_15 : (Cond.initialized "java/lang/UnsupportedOperationException") ∈ Wds := List.mem_filter.mpr ⟨List.mem_append_right _ (List.mem_of_getElem? (i := 15) (by decide +kernel)), by decide +kernel⟩
theorem wd_30 : (Cond.fieldLink "ClaimTriangle$Ledger" (9 : Nat) "ClaimTriangle$Ledger" "lines" "[I") ∈ Wds := List.mem_filter.mpr ⟨List.mem_append_right _ (List.mem_of_getElem? (i := 30) (by decide +kernel)), by decide +kernel⟩
theorem wd_31 : (Cond.fieldLink "ClaimTriangle$Ledger" (15 : Nat) "ClaimTriangle$Ledger" "origins" "[I") ∈ Wds := List.mem_filter.mpr ⟨List.mem_append_right _ (List.mem_of_getElem? (i := 31) (by decide +kernel)), by decide +kernel⟩
theorem wd_32 : (Cond.fieldLinkNest "ClaimTriangle" (70 : Nat) "ClaimTriangle$Ledger" "origins" "[I" "ClaimTriangle") ∈ NW := List.mem_filter.mpr ⟨List.mem_of_getElem? (i := 32) (by decide +kernel), by decide +kernel⟩
theorem wd_33 : (Cond.fieldLinkNest "ClaimTriangle$Triangle" (54 : Nat) "ClaimTriangle$Ledger" "origins" "[I" "ClaimTriangle") ∈ NW := List.mem_filter.mpr ⟨List.mem_of_getElem? (i := 33) (by decide +kernel), by decide +kernel⟩
theorem wd_34 : (Cond.fieldLink "ClaimTriangle$Ledger" (18 : Nat) "ClaimTriangle$Ledger" "months" "[I") ∈ Wds := List.mem_filter.mpr ⟨List.mem_append_right _ (List.mem_of_getElem? (i := 34) (by decide +kernel)), by decide +kernel⟩
theorem wd_35 : (Cond.fieldLinkNest "ClaimTriangle" (73 : Nat) "ClaimTriangle$Ledger" "months" "[I" "ClaimTriangle") ∈ NW := List.mem_filter.mpr ⟨List.mem_of_getElem? (i := 35) (by decide +kernel), by decide +kernel⟩
theorem wd_36 : (Cond.fieldLinkNest "ClaimTriangle$Triangle" (58 : Nat) "ClaimTriangle$Ledger" "months" "[I" "ClaimTriangle") ∈ NW := List.mem_filter.mpr ⟨List.mem_of_getElem? (i := 36) (by decide +kernel), by decide +kernel⟩
theorem wd_37 : (Cond.fieldLink "ClaimTriangle$Ledger" (21 : Nat) "ClaimTriangle$Ledger" "amounts" "[I") ∈ Wds := List.mem_filter.mpr ⟨List.mem_append_right _ (List.mem_of_getElem? (i := 37) (by decide +kernel)), by decide +kernel⟩
theorem wd_38 : (Cond.fieldLinkNest "ClaimTriangle" (62 : Nat) "ClaimTriangle$Ledger" "amounts" "[I" "ClaimTriangle") ∈ NW := List.mem_filter.mpr ⟨List.mem_of_getElem? (i := 38) (by decide +kernel), by decide +kernel⟩
theorem wd_39 : (Cond.fieldLinkNest "ClaimTriangle$Triangle" (61 : Nat) "ClaimTriangle$Ledger" "amounts" "[I" "ClaimTriangle") ∈ NW := List.mem_filter.mpr ⟨List.mem_of_getElem? (i := 39) (by decide +kernel), by decide +kernel⟩
theorem wd_40 : (Cond.fieldLink "ClaimTriangle$Ledger" (24 : Nat) "ClaimTriangle$Ledger" "estimated" "[Z") ∈ Wds := List.mem_filter.mpr ⟨List.mem_append_right _ (List.mem_of_getElem? (i := 40) (by decide +kernel)), by decide +kernel⟩
theorem wd_41 : (Cond.fieldLinkNest "ClaimTriangle$Triangle" (51 : Nat) "ClaimTriangle$Ledger" "estimated" "[Z" "ClaimTriangle") ∈ NW := List.mem_filter.mpr ⟨List.mem_of_getElem? (i := 41) (by decide +kernel), by decide +kernel⟩
theorem wd_42 : (Cond.fieldLink "ClaimTriangle$Ledger" (28 : Nat) "ClaimTriangle$Ledger" "living" "[Z") ∈ Wds := List.mem_filter.mpr ⟨List.mem_append_right _ (List.mem_of_getElem? (i := 42) (by decide +kernel)), by decide +kernel⟩
theorem wd_43 : (Cond.fieldLinkNest "ClaimTriangle" (52 : Nat) "ClaimTriangle$Ledger" "living" "[Z" "ClaimTriangle") ∈ NW := List.mem_filter.mpr ⟨List.mem_of_getElem? (i := 43) (by decide +kernel), by decide +kernel⟩
theorem wd_44 : (Cond.fieldLink "ClaimTriangle$Ledger" (31 : Nat) "ClaimTriangle$Ledger" "size" "I") ∈ Wds := List.mem_filter.mpr ⟨List.mem_append_right _ (List.mem_of_getElem? (i := 44) (by decide +kernel)), by decide +kernel⟩
theorem wd_45 : (Cond.fieldLinkNest "ClaimTriangle$Triangle" (44 : Nat) "ClaimTriangle$Ledger" "size" "I" "ClaimTriangle") ∈ NW := List.mem_filter.mpr ⟨List.mem_of_getElem? (i := 45) (by decide +kernel), by decide +kernel⟩
theorem wd_46 : (Cond.fieldLinkNest "ClaimTriangle" (179 : Nat) "ClaimTriangle$Ledger" "size" "I" "ClaimTriangle") ∈ NW := List.mem_filter.mpr ⟨List.mem_of_getElem? (i := 46) (by decide +kernel), by decide +kernel⟩
theorem wd_78 : (Cond.fieldLink "ClaimTriangle$Triangle" (11 : Nat) "ClaimTriangle$Triangle" "cells" "[[I") ∈ Wds := List.mem_filter.mpr ⟨List.mem_append_right _ (List.mem_of_getElem? (i := 78) (by decide +kernel)), by decide +kernel⟩
theorem wd_79 : (Cond.fieldLinkNest "ClaimTriangle$Reckoner" (63 : Nat) "ClaimTriangle$Triangle" "cells" "[[I" "ClaimTriangle") ∈ NW := List.mem_filter.mpr ⟨List.mem_of_getElem? (i := 79) (by decide +kernel), by decide +kernel⟩
theorem wd_80 : (Cond.fieldLinkNest "ClaimTriangle" (111 : Nat) "ClaimTriangle$Triangle" "cells" "[[I" "ClaimTriangle") ∈ NW := List.mem_filter.mpr ⟨List.mem_of_getElem? (i := 80) (by decide +kernel), by decide +kernel⟩
theorem wd_81 : (Cond.fieldLink "ClaimTriangle$Triangle" (16 : Nat) "ClaimTriangle$Triangle" "out" "[Z") ∈ Wds := List.mem_filter.mpr ⟨List.mem_append_right _ (List.mem_of_getElem? (i := 81) (by decide +kernel)), by decide +kernel⟩
theorem wd_82 : (Cond.fieldLink "ClaimTriangle$Triangle" (20 : Nat) "ClaimTriangle$Triangle" "line" "I") ∈ Wds := List.mem_filter.mpr ⟨List.mem_append_right _ (List.mem_of_getElem? (i := 82) (by decide +kernel)), by decide +kernel⟩
theorem wd_83 : (Cond.fieldLinkNest "ClaimTriangle$Reckoner" (129 : Nat) "ClaimTriangle$Triangle" "line" "I" "ClaimTriangle") ∈ NW := List.mem_filter.mpr ⟨List.mem_of_getElem? (i := 83) (by decide +kernel), by decide +kernel⟩
theorem wd_84 : (Cond.fieldLinkNest "ClaimTriangle" (183 : Nat) "ClaimTriangle$Triangle" "line" "I" "ClaimTriangle") ∈ NW := List.mem_filter.mpr ⟨List.mem_of_getElem? (i := 84) (by decide +kernel), by decide +kernel⟩
theorem wd_85 : (Cond.fieldLink "ClaimTriangle$Triangle" (24 : Nat) "ClaimTriangle$Triangle" "step" "I") ∈ Wds := List.mem_filter.mpr ⟨List.mem_append_right _ (List.mem_of_getElem? (i := 85) (by decide +kernel)), by decide +kernel⟩
theorem wd_86 : (Cond.fieldLinkNest "ClaimTriangle$Reckoner" (132 : Nat) "ClaimTriangle$Triangle" "step" "I" "ClaimTriangle") ∈ NW := List.mem_filter.mpr ⟨List.mem_of_getElem? (i := 86) (by decide +kernel), by decide +kernel⟩
theorem wd_87 : (Cond.fieldLink "ClaimTriangle$Triangle" (27 : Nat) "ClaimTriangle$Triangle" "incurred" "Z") ∈ Wds := List.mem_filter.mpr ⟨List.mem_append_right _ (List.mem_of_getElem? (i := 87) (by decide +kernel)), by decide +kernel⟩
theorem wd_88 : (Cond.fieldLink "ClaimTriangle$Triangle" (31 : Nat) "ClaimTriangle$Triangle" "size" "I") ∈ Wds := List.mem_filter.mpr ⟨List.mem_append_right _ (List.mem_of_getElem? (i := 88) (by decide +kernel)), by decide +kernel⟩
theorem wd_89 : (Cond.fieldLinkNest "ClaimTriangle" (114 : Nat) "ClaimTriangle$Triangle" "size" "I" "ClaimTriangle") ∈ NW := List.mem_filter.mpr ⟨List.mem_of_getElem? (i := 89) (by decide +kernel), by decide +kernel⟩
theorem wd_90 : (Cond.fieldLinkNest "ClaimTriangle$Reckoner" (126 : Nat) "ClaimTriangle$Triangle" "size" "I" "ClaimTriangle") ∈ NW := List.mem_filter.mpr ⟨List.mem_of_getElem? (i := 90) (by decide +kernel), by decide +kernel⟩
theorem wd_91 : (Cond.fieldLink "ClaimTriangle$Triangle" (34 : Nat) "ClaimTriangle$Triangle" "hidden" "I") ∈ Wds := List.mem_filter.mpr ⟨List.mem_append_right _ (List.mem_of_getElem? (i := 91) (by decide +kernel)), by decide +kernel⟩
theorem wd_92 : (Cond.fieldLinkNest "ClaimTriangle" (125 : Nat) "ClaimTriangle$Triangle" "hidden" "I" "ClaimTriangle") ∈ NW := List.mem_filter.mpr ⟨List.mem_of_getElem? (i := 92) (by decide +kernel), by decide +kernel⟩
theorem wd_121 : (Cond.fieldLink "ClaimTriangle$Fraction" (19 : Nat) "ClaimTriangle$Fraction" "above" "J") ∈ Wds := List.mem_filter.mpr ⟨List.mem_append_right _ (List.mem_of_getElem? (i := 121) (by decide +kernel)), by decide +kernel⟩
theorem wd_122 : (Cond.fieldLinkNest "ClaimTriangle" (208 : Nat) "ClaimTriangle$Fraction" "above" "J" "ClaimTriangle") ∈ NW := List.mem_filter.mpr ⟨List.mem_of_getElem? (i := 122) (by decide +kernel), by decide +kernel⟩
theorem wd_123 : (Cond.fieldLink "ClaimTriangle$Fraction" (9 : Nat) "ClaimTriangle$Fraction" "below" "J") ∈ Wds := List.mem_filter.mpr ⟨List.mem_append_right _ (List.mem_of_getElem? (i := 123) (by decide +kernel)), by decide +kernel⟩
theorem wd_124 : (Cond.fieldLinkNest "ClaimTriangle" (204 : Nat) "ClaimTriangle$Fraction" "below" "J" "ClaimTriangle") ∈ NW := List.mem_filter.mpr ⟨List.mem_of_getElem? (i := 124) (by decide +kernel), by decide +kernel⟩
theorem wd_125 : (Cond.fieldLink "ClaimTriangle$Fraction" (15 : Nat) "ClaimTriangle$Fraction" "state" "I") ∈ Wds := List.mem_filter.mpr ⟨List.mem_append_right _ (List.mem_of_getElem? (i := 125) (by decide +kernel)), by decide +kernel⟩
theorem wd_126 : (Cond.fieldLinkNest "ClaimTriangle$Reckoner" (111 : Nat) "ClaimTriangle$Fraction" "state" "I" "ClaimTriangle") ∈ NW := List.mem_filter.mpr ⟨List.mem_of_getElem? (i := 126) (by decide +kernel), by decide +kernel⟩
theorem wd_127 : (Cond.fieldLinkNest "ClaimTriangle" (211 : Nat) "ClaimTriangle$Fraction" "state" "I" "ClaimTriangle") ∈ NW := List.mem_filter.mpr ⟨List.mem_of_getElem? (i := 127) (by decide +kernel), by decide +kernel⟩
theorem wd_135 : (Cond.fieldLink "ClaimTriangle$Terms" (11 : Nat) "ClaimTriangle$Terms" "premiums" "[[I") ∈ Wds := List.mem_filter.mpr ⟨List.mem_append_right _ (List.mem_of_getElem? (i := 135) (by decide +kernel)), by decide +kernel⟩
theorem wd_136 : (Cond.fieldLinkNest "ClaimTriangle" (80 : Nat) "ClaimTriangle$Terms" "premiums" "[[I" "ClaimTriangle") ∈ NW := List.mem_filter.mpr ⟨List.mem_of_getElem? (i := 136) (by decide +kernel), by decide +kernel⟩
theorem wd_137 : (Cond.fieldLink "ClaimTriangle$Terms" (21 : Nat) "ClaimTriangle$Terms" "firstRatio" "LClaimTriangle$Fraction;") ∈ Wds := List.mem_filter.mpr ⟨List.mem_append_right _ (List.mem_of_getElem? (i := 137) (by decide +kernel)), by decide +kernel⟩
theorem wd_138 : (Cond.fieldLink "ClaimTriangle$Terms" (25 : Nat) "ClaimTriangle$Terms" "secondRatio" "LClaimTriangle$Fraction;") ∈ Wds := List.mem_filter.mpr ⟨List.mem_append_right _ (List.mem_of_getElem? (i := 138) (by decide +kernel)), by decide +kernel⟩
theorem wd_140 : (Cond.fieldLinkNest "ClaimTriangle$Reckoner" (82 : Nat) "ClaimTriangle$Terms" "tail" "LClaimTriangle$Fraction;" "ClaimTriangle") ∈ NW := List.mem_filter.mpr ⟨List.mem_of_getElem? (i := 140) (by decide +kernel), by decide +kernel⟩
theorem wd_141 : (Cond.fieldLinkNest "ClaimTriangle" (86 : Nat) "ClaimTriangle$Terms" "tail" "LClaimTriangle$Fraction;" "ClaimTriangle") ∈ NW := List.mem_filter.mpr ⟨List.mem_of_getElem? (i := 141) (by decide +kernel), by decide +kernel⟩
theorem wd_143 : (Cond.fieldLinkNest "ClaimTriangle$Reckoner" (47 : Nat) "ClaimTriangle$Terms" "window" "I" "ClaimTriangle") ∈ NW := List.mem_filter.mpr ⟨List.mem_of_getElem? (i := 143) (by decide +kernel), by decide +kernel⟩
theorem wd_144 : (Cond.fieldLinkNest "ClaimTriangle" (122 : Nat) "ClaimTriangle$Terms" "window" "I" "ClaimTriangle") ∈ NW := List.mem_filter.mpr ⟨List.mem_of_getElem? (i := 144) (by decide +kernel), by decide +kernel⟩
theorem wd_159 : (Cond.fieldLink "ClaimTriangle$Reckoner" (12 : Nat) "ClaimTriangle$Reckoner" "triangle" "LClaimTriangle$Triangle;") ∈ Wds := List.mem_filter.mpr ⟨List.mem_append_right _ (List.mem_of_getElem? (i := 159) (by decide +kernel)), by decide +kernel⟩
theorem wd_161 : (Cond.fieldLink "ClaimTriangle$Reckoner" (21 : Nat) "ClaimTriangle$Reckoner" "terms" "LClaimTriangle$Terms;") ∈ Wds := List.mem_filter.mpr ⟨List.mem_append_right _ (List.mem_of_getElem? (i := 161) (by decide +kernel)), by decide +kernel⟩
theorem wd_163 : (Cond.fieldLink "ClaimTriangle$Reckoner" (27 : Nat) "ClaimTriangle$Reckoner" "links" "[LClaimTriangle$Fraction;") ∈ Wds := List.mem_filter.mpr ⟨List.mem_append_right _ (List.mem_of_getElem? (i := 163) (by decide +kernel)), by decide +kernel⟩
theorem wd_164 : (Cond.fieldLink "ClaimTriangle$Reckoner" (34 : Nat) "ClaimTriangle$Reckoner" "answer" "LClaimTriangle$Fraction;") ∈ Wds := List.mem_filter.mpr ⟨List.mem_append_right _ (List.mem_of_getElem? (i := 164) (by decide +kernel)), by decide +kernel⟩
theorem wd_165 : (Cond.fieldLinkNest "ClaimTriangle" (156 : Nat) "ClaimTriangle$Reckoner" "answer" "LClaimTriangle$Fraction;" "ClaimTriangle") ∈ NW := List.mem_filter.mpr ⟨List.mem_of_getElem? (i := 165) (by decide +kernel), by decide +kernel⟩
theorem wd_166 : (Cond.fieldLink "ClaimTriangle$Reckoner" (38 : Nat) "ClaimTriangle$Reckoner" "whole" "LClaimTriangle$Fraction;") ∈ Wds := List.mem_filter.mpr ⟨List.mem_append_right _ (List.mem_of_getElem? (i := 166) (by decide +kernel)), by decide +kernel⟩
theorem wd_167 : (Cond.fieldLink "ClaimTriangle$Reckoner" (41 : Nat) "ClaimTriangle$Reckoner" "expected" "LClaimTriangle$Fraction;") ∈ Wds := List.mem_filter.mpr ⟨List.mem_append_right _ (List.mem_of_getElem? (i := 167) (by decide +kernel)), by decide +kernel⟩
theorem wd_168 : (Cond.fieldLink "ClaimTriangle$Reckoner" (44 : Nat) "ClaimTriangle$Reckoner" "sum" "LClaimTriangle$Fraction;") ∈ Wds := List.mem_filter.mpr ⟨List.mem_append_right _ (List.mem_of_getElem? (i := 168) (by decide +kernel)), by decide +kernel⟩
theorem wd_184 : (Cond.fieldLink "ClaimTriangle" (10 : Nat) "ClaimTriangle" "ledger" "LClaimTriangle$Ledger;") ∈ Wds := List.mem_filter.mpr ⟨List.mem_append_right _ (List.mem_of_getElem? (i := 184) (by decide +kernel)), by decide +kernel⟩
theorem wd_185 : (Cond.fieldLink "ClaimTriangle" (19 : Nat) "ClaimTriangle" "reckoner" "LClaimTriangle$Reckoner;") ∈ Wds := List.mem_filter.mpr ⟨List.mem_append_right _ (List.mem_of_getElem? (i := 185) (by decide +kernel)), by decide +kernel⟩
theorem wd_186 : (Cond.fieldLink "ClaimTriangle" (27 : Nat) "ClaimTriangle" "triangle" "LClaimTriangle$Triangle;") ∈ Wds := List.mem_filter.mpr ⟨List.mem_append_right _ (List.mem_of_getElem? (i := 186) (by decide +kernel)), by decide +kernel⟩
theorem wd_187 : (Cond.fieldLink "ClaimTriangle" (32 : Nat) "ClaimTriangle" "terms" "LClaimTriangle$Terms;") ∈ Wds := List.mem_filter.mpr ⟨List.mem_append_right _ (List.mem_of_getElem? (i := 187) (by decide +kernel)), by decide +kernel⟩
theorem wd_206 : (Cond.methodLink "ClaimTriangle" (33 : Nat) ({ cls := "ClaimTriangle", name := "within", desc := "(III)Z" } : MethodName)) ∈ Wds := List.mem_filter.mpr ⟨List.mem_append_right _ (List.mem_of_getElem? (i := 206) (by decide +kernel)), by decide +kernel⟩
theorem wd_207 : (Cond.static ({ cls := "ClaimTriangle", name := "within", desc := "(III)Z" } : MethodName)) ∈ Wds := List.mem_filter.mpr ⟨List.mem_append_right _ (List.mem_of_getElem? (i := 207) (by decide +kernel)), by decide +kernel⟩
theorem wd_208 : (Cond.code ({ cls := "ClaimTriangle", name := "within", desc := "(III)Z" } : MethodName) prog_1_method_31_code (3 : Nat) (Option.some FieldType.boolean)) ∈ Wds := List.mem_filter.mpr ⟨List.mem_append_right _ (List.mem_of_getElem? (i := 208) (by decide +kernel)), by decide +kernel⟩
theorem wd_209 : (Cond.methodLink "ClaimTriangle" (37 : Nat) ({ cls := "ClaimTriangle", name := "check", desc := "(Z)V" } : MethodName)) ∈ Wds := List.mem_filter.mpr ⟨List.mem_append_right _ (List.mem_of_getElem? (i := 209) (by decide +kernel)), by decide +kernel⟩
theorem wd_210 : (Cond.static ({ cls := "ClaimTriangle", name := "check", desc := "(Z)V" } : MethodName)) ∈ Wds := List.mem_filter.mpr ⟨List.mem_append_right _ (List.mem_of_getElem? (i := 210) (by decide +kernel)), by decide +kernel⟩
theorem wd_211 : (Cond.code ({ cls := "ClaimTriangle", name := "check", desc := "(Z)V" } : MethodName) prog_1_method_30_code (1 : Nat) (Option.none : Option FieldType)) ∈ Wds := List.mem_filter.mpr ⟨List.mem_append_right _ (List.mem_of_getElem? (i := 211) (by decide +kernel)), by decide +kernel⟩
theorem wd_212 : (Cond.classLink "ClaimTriangle" (189 : Nat) "java/lang/IllegalArgumentException") ∈ Wds := List.mem_filter.mpr ⟨List.mem_append_right _ (List.mem_of_getElem? (i := 212) (by decide +kernel)), by decide +kernel⟩
theorem wd_281 : (Cond.methodLink "ClaimTriangle" (41 : Nat) ({ cls := "ClaimTriangle", name := "enter", desc := "(IIIIZ)I" } : MethodName)) ∈ Wds := List.mem_filter.mpr ⟨List.mem_append_right _ (List.mem_of_getElem? (i := 281) (by decide +kernel)), by decide +kernel⟩
theorem wd_283 : (Cond.instanceMethod ({ cls := "ClaimTriangle", name := "enter", desc := "(IIIIZ)I" } : MethodName)) ∈ Wds := List.mem_filter.mpr ⟨List.mem_append_right _ (List.mem_of_getElem? (i := 283) (by decide +kernel)), by decide +kernel⟩
theorem wd_284 : (Cond.code ({ cls := "ClaimTriangle", name := "enter", desc := "(IIIIZ)I" } : MethodName) prog_1_method_23_code (7 : Nat) (Option.some FieldType.int)) ∈ Wds := List.mem_filter.mpr ⟨List.mem_append_right _ (List.mem_of_getElem? (i := 284) (by decide +kernel)), by decide +kernel⟩
theorem wd_285 : (Cond.methodLink "ClaimTriangle" (76 : Nat) ({ cls := "ClaimTriangle", name := "isLine", desc := "(I)Z" } : MethodName)) ∈ Wds := List.mem_filter.mpr ⟨List.mem_append_right _ (List.mem_of_getElem? (i := 285) (by decide +kernel)), by decide +kernel⟩
theorem wd_286 : (Cond.static ({ cls := "ClaimTriangle", name := "isLine", desc := "(I)Z" } : MethodName)) ∈ Wds := List.mem_filter.mpr ⟨List.mem_append_right _ (List.mem_of_getElem? (i := 286) (by decide +kernel)), by decide +kernel⟩
theorem wd_287 : (Cond.code ({ cls := "ClaimTriangle", name := "isLine", desc := "(I)Z" } : MethodName) prog_1_method_32_code (1 : Nat) (Option.some FieldType.boolean)) ∈ Wds := List.mem_filter.mpr ⟨List.mem_append_right _ (List.mem_of_getElem? (i := 287) (by decide +kernel)), by decide +kernel⟩
theorem wd_288 : (Cond.methodLink "ClaimTriangle" (66 : Nat) ({ cls := "ClaimTriangle", name := "checkMonths", desc := "(II)V" } : MethodName)) ∈ Wds := List.mem_filter.mpr ⟨List.mem_append_right _ (List.mem_of_getElem? (i := 288) (by decide +kernel)), by decide +kernel⟩
theorem wd_289 : (Cond.static ({ cls := "ClaimTriangle", name := "checkMonths", desc := "(II)V" } : MethodName)) ∈ Wds := List.mem_filter.mpr ⟨List.mem_append_right _ (List.mem_of_getElem? (i := 289) (by decide +kernel)), by decide +kernel⟩
theorem wd_290 : (Cond.code ({ cls := "ClaimTriangle", name := "checkMonths", desc := "(II)V" } : MethodName) prog_1_method_29_code (2 : Nat) (Option.none : Option FieldType)) ∈ Wds := List.mem_filter.mpr ⟨List.mem_append_right _ (List.mem_of_getElem? (i := 290) (by decide +kernel)), by decide +kernel⟩
theorem wd_291 : (Cond.classLink "ClaimTriangle" (196 : Nat) "java/lang/IllegalStateException") ∈ Wds := List.mem_filter.mpr ⟨List.mem_append_right _ (List.mem_of_getElem? (i := 291) (by decide +kernel)), by decide +kernel⟩
theorem wd_307 : (Cond.methodLink "ClaimTriangle" (201 : Nat) ({ cls := "ClaimTriangle$Ledger", name := "append", desc := "(IIIIZ)I" } : MethodName)) ∈ Wds := List.mem_filter.mpr ⟨List.mem_append_right _ (List.mem_of_getElem? (i := 307) (by decide +kernel)), by decide +kernel⟩
theorem wd_308 : (Cond.instanceMethod ({ cls := "ClaimTriangle$Ledger", name := "append", desc := "(IIIIZ)I" } : MethodName)) ∈ Wds := List.mem_filter.mpr ⟨List.mem_append_right _ (List.mem_of_getElem? (i := 308) (by decide +kernel)), by decide +kernel⟩
theorem wd_309 : (Cond.selects "ClaimTriangle$Ledger" ({ cls := "ClaimTriangle$Ledger", name := "append", desc := "(IIIIZ)I" } : MethodName) ({ cls := "ClaimTriangle$Ledger", name := "append", desc := "(IIIIZ)I" } : MethodName)) ∈ Wds := List.mem_filter.mpr ⟨List.mem_append_right _ (List.mem_of_getElem? (i := 309) (by decide +kernel)), by decide +kernel⟩
theorem wd_310 : (Cond.code ({ cls := "ClaimTriangle$Ledger", name := "append", desc := "(IIIIZ)I" } : MethodName) prog_3_method_2_code (7 : Nat) (Option.some FieldType.int)) ∈ Wds := List.mem_filter.mpr ⟨List.mem_append_right _ (List.mem_of_getElem? (i := 310) (by decide +kernel)), by decide +kernel⟩
theorem wd_311 : (Cond.methodLink "ClaimTriangle" (56 : Nat) ({ cls := "ClaimTriangle$Triangle", name := "fill", desc := "(LClaimTriangle$Ledger;)V" } : MethodName)) ∈ Wds := List.mem_filter.mpr ⟨List.mem_append_right _ (List.mem_of_getElem? (i := 311) (by decide +kernel)), by decide +kernel⟩
theorem wd_312 : (Cond.instanceMethod ({ cls := "ClaimTriangle$Triangle", name := "fill", desc := "(LClaimTriangle$Ledger;)V" } : MethodName)) ∈ Wds := List.mem_filter.mpr ⟨List.mem_append_right _ (List.mem_of_getElem? (i := 312) (by decide +kernel)), by decide +kernel⟩
theorem wd_313 : (Cond.selects "ClaimTriangle$Triangle" ({ cls := "ClaimTriangle$Triangle", name := "fill", desc := "(LClaimTriangle$Ledger;)V" } : MethodName) ({ cls := "ClaimTriangle$Triangle", name := "fill", desc := "(LClaimTriangle$Ledger;)V" } : MethodName)) ∈ Wds := List.mem_filter.mpr ⟨List.mem_append_right _ (List.mem_of_getElem? (i := 313) (by decide +kernel)), by decide +kernel⟩
theorem wd_314 : (Cond.code ({ cls := "ClaimTriangle$Triangle", name := "fill", desc := "(LClaimTriangle$Ledger;)V" } : MethodName) prog_6_method_8_code (3 : Nat) (Option.none : Option FieldType)) ∈ Wds := List.mem_filter.mpr ⟨List.mem_append_right _ (List.mem_of_getElem? (i := 314) (by decide +kernel)), by decide +kernel⟩
theorem wd_315 : (Cond.methodLink "ClaimTriangle$Triangle" (41 : Nat) ({ cls := "ClaimTriangle$Triangle", name := "clear", desc := "()V" } : MethodName)) ∈ Wds := List.mem_filter.mpr ⟨List.mem_append_right _ (List.mem_of_getElem? (i := 315) (by decide +kernel)), by decide +kernel⟩
theorem wd_317 : (Cond.instanceMethod ({ cls := "ClaimTriangle$Triangle", name := "clear", desc := "()V" } : MethodName)) ∈ Wds := List.mem_filter.mpr ⟨List.mem_append_right _ (List.mem_of_getElem? (i := 317) (by decide +kernel)), by decide +kernel⟩
theorem wd_318 : (Cond.code ({ cls := "ClaimTriangle$Triangle", name := "clear", desc := "()V" } : MethodName) prog_6_method_9_code (3 : Nat) (Option.none : Option FieldType)) ∈ Wds := List.mem_filter.mpr ⟨List.mem_append_right _ (List.mem_of_getElem? (i := 318) (by decide +kernel)), by decide +kernel⟩
theorem wd_319 : (Cond.methodLink "ClaimTriangle$Triangle" (47 : Nat) ({ cls := "ClaimTriangle$Ledger", name := "livesIn", desc := "(II)Z" } : MethodName)) ∈ Wds := List.mem_filter.mpr ⟨List.mem_append_right _ (List.mem_of_getElem? (i := 319) (by decide +kernel)), by decide +kernel⟩
theorem wd_320 : (Cond.instanceMethod ({ cls := "ClaimTriangle$Ledger", name := "livesIn", desc := "(II)Z" } : MethodName)) ∈ Wds := List.mem_filter.mpr ⟨List.mem_append_right _ (List.mem_of_getElem? (i := 320) (by decide +kernel)), by decide +kernel⟩
theorem wd_321 : (Cond.selects "ClaimTriangle$Ledger" ({ cls := "ClaimTriangle$Ledger", name := "livesIn", desc := "(II)Z" } : MethodName) ({ cls := "ClaimTriangle$Ledger", name := "livesIn", desc := "(II)Z" } : MethodName)) ∈ Wds := List.mem_filter.mpr ⟨List.mem_append_right _ (List.mem_of_getElem? (i := 321) (by decide +kernel)), by decide +kernel⟩
theorem wd_322 : (Cond.code ({ cls := "ClaimTriangle$Ledger", name := "livesIn", desc := "(II)Z" } : MethodName) prog_3_method_3_code (3 : Nat) (Option.some FieldType.boolean)) ∈ Wds := List.mem_filter.mpr ⟨List.mem_append_right _ (List.mem_of_getElem? (i := 322) (by decide +kernel)), by decide +kernel⟩
theorem wd_323 : (Cond.methodLink "ClaimTriangle$Triangle" (64 : Nat) ({ cls := "ClaimTriangle$Triangle", name := "add", desc := "(III)V" } : MethodName)) ∈ Wds := List.mem_filter.mpr ⟨List.mem_append_right _ (List.mem_of_getElem? (i := 323) (by decide +kernel)), by decide +kernel⟩
theorem wd_325 : (Cond.instanceMethod ({ cls := "ClaimTriangle$Triangle", name := "add", desc := "(III)V" } : MethodName)) ∈ Wds := List.mem_filter.mpr ⟨List.mem_append_right _ (List.mem_of_getElem? (i := 325) (by decide +kernel)), by decide +kernel⟩
theorem wd_326 : (Cond.code ({ cls := "ClaimTriangle$Triangle", name := "add", desc := "(III)V" } : MethodName) prog_6_method_11_code (6 : Nat) (Option.none : Option FieldType)) ∈ Wds := List.mem_filter.mpr ⟨List.mem_append_right _ (List.mem_of_getElem? (i := 326) (by decide +kernel)), by decide +kernel⟩
theorem wd_327 : (Cond.methodLink "ClaimTriangle$Triangle" (68 : Nat) ({ cls := "ClaimTriangle$Triangle", name := "addEstimate", desc := "(LClaimTriangle$Ledger;I)V" } : MethodName)) ∈ Wds := List.mem_filter.mpr ⟨List.mem_append_right _ (List.mem_of_getElem? (i := 327) (by decide +kernel)), by decide +kernel⟩
theorem wd_329 : (Cond.instanceMethod ({ cls := "ClaimTriangle$Triangle", name := "addEstimate", desc := "(LClaimTriangle$Ledger;I)V" } : MethodName)) ∈ Wds := List.mem_filter.mpr ⟨List.mem_append_right _ (List.mem_of_getElem? (i := 329) (by decide +kernel)), by decide +kernel⟩
theorem wd_330 : (Cond.code ({ cls := "ClaimTriangle$Triangle", name := "addEstimate", desc := "(LClaimTriangle$Ledger;I)V" } : MethodName) prog_6_method_10_code (5 : Nat) (Option.none : Option FieldType)) ∈ Wds := List.mem_filter.mpr ⟨List.mem_append_right _ (List.mem_of_getElem? (i := 330) (by decide +kernel)), by decide +kernel⟩
theorem wd_331 : (Cond.methodLink "ClaimTriangle$Triangle" (75 : Nat) ({ cls := "ClaimTriangle$Ledger", name := "replacedIn", desc := "(I)I" } : MethodName)) ∈ Wds := List.mem_filter.mpr ⟨List.mem_append_right _ (List.mem_of_getElem? (i := 331) (by decide +kernel)), by decide +kernel⟩
theorem wd_332 : (Cond.instanceMethod ({ cls := "ClaimTriangle$Ledger", name := "replacedIn", desc := "(I)I" } : MethodName)) ∈ Wds := List.mem_filter.mpr ⟨List.mem_append_right _ (List.mem_of_getElem? (i := 332) (by decide +kernel)), by decide +kernel⟩
theorem wd_333 : (Cond.selects "ClaimTriangle$Ledger" ({ cls := "ClaimTriangle$Ledger", name := "replacedIn", desc := "(I)I" } : MethodName) ({ cls := "ClaimTriangle$Ledger", name := "replacedIn", desc := "(I)I" } : MethodName)) ∈ Wds := List.mem_filter.mpr ⟨List.mem_append_right _ (List.mem_of_getElem? (i := 333) (by decide +kernel)), by decide +kernel⟩
theorem wd_334 : (Cond.code ({ cls := "ClaimTriangle$Ledger", name := "replacedIn", desc := "(I)I" } : MethodName) prog_3_method_6_code (4 : Nat) (Option.some FieldType.int)) ∈ Wds := List.mem_filter.mpr ⟨List.mem_append_right _ (List.mem_of_getElem? (i := 334) (by decide +kernel)), by decide +kernel⟩
theorem wd_335 : (Cond.methodLink "ClaimTriangle$Ledger" (39 : Nat) ({ cls := "ClaimTriangle$Ledger", name := "replaces", desc := "(II)Z" } : MethodName)) ∈ Wds := List.mem_filter.mpr ⟨List.mem_append_right _ (List.mem_of_getElem? (i := 335) (by decide +kernel)), by decide +kernel⟩
theorem wd_337 : (Cond.instanceMethod ({ cls := "ClaimTriangle$Ledger", name := "replaces", desc := "(II)Z" } : MethodName)) ∈ Wds := List.mem_filter.mpr ⟨List.mem_append_right _ (List.mem_of_getElem? (i := 337) (by decide +kernel)), by decide +kernel⟩
theorem wd_338 : (Cond.code ({ cls := "ClaimTriangle$Ledger", name := "replaces", desc := "(II)Z" } : MethodName) prog_3_method_7_code (3 : Nat) (Option.some FieldType.boolean)) ∈ Wds := List.mem_filter.mpr ⟨List.mem_append_right _ (List.mem_of_getElem? (i := 338) (by decide +kernel)), by decide +kernel⟩
theorem wd_339 : (Cond.methodLink "ClaimTriangle$Ledger" (35 : Nat) ({ cls := "ClaimTriangle$Ledger", name := "livesIn", desc := "(II)Z" } : MethodName)) ∈ Wds := List.mem_filter.mpr ⟨List.mem_append_right _ (List.mem_of_getElem? (i := 339) (by decide +kernel)), by decide +kernel⟩
theorem wd_340 : (Cond.methodLink "ClaimTriangle$Triangle" (72 : Nat) ({ cls := "ClaimTriangle$Triangle", name := "accumulate", desc := "()V" } : MethodName)) ∈ Wds := List.mem_filter.mpr ⟨List.mem_append_right _ (List.mem_of_getElem? (i := 340) (by decide +kernel)), by decide +kernel⟩
theorem wd_342 : (Cond.instanceMethod ({ cls := "ClaimTriangle$Triangle", name := "accumulate", desc := "()V" } : MethodName)) ∈ Wds := List.mem_filter.mpr ⟨List.mem_append_right _ (List.mem_of_getElem? (i := 342) (by decide +kernel)), by decide +kernel⟩
theorem wd_343 : (Cond.code ({ cls := "ClaimTriangle$Triangle", name := "accumulate", desc := "()V" } : MethodName) prog_6_method_12_code (3 : Nat) (Option.none : Option FieldType)) ∈ Wds := List.mem_filter.mpr ⟨List.mem_append_right _ (List.mem_of_getElem? (i := 343) (by decide +kernel)), by decide +kernel⟩
theorem wd_358 : (Cond.methodLink "ClaimTriangle" (45 : Nat) ({ cls := "ClaimTriangle", name := "checkEntry", desc := "(I)V" } : MethodName)) ∈ Wds := List.mem_filter.mpr ⟨List.mem_append_right _ (List.mem_of_getElem? (i := 358) (by decide +kernel)), by decide +kernel⟩
theorem wd_360 : (Cond.instanceMethod ({ cls := "ClaimTriangle", name := "checkEntry", desc := "(I)V" } : MethodName)) ∈ Wds := List.mem_filter.mpr ⟨List.mem_append_right _ (List.mem_of_getElem? (i := 360) (by decide +kernel)), by decide +kernel⟩
theorem wd_361 : (Cond.code ({ cls := "ClaimTriangle", name := "checkEntry", desc := "(I)V" } : MethodName) prog_1_method_26_code (2 : Nat) (Option.none : Option FieldType)) ∈ Wds := List.mem_filter.mpr ⟨List.mem_append_right _ (List.mem_of_getElem? (i := 361) (by decide +kernel)), by decide +kernel⟩
theorem wd_362 : (Cond.methodLink "ClaimTriangle" (49 : Nat) ({ cls := "ClaimTriangle", name := "checkLiving", desc := "(I)V" } : MethodName)) ∈ Wds := List.mem_filter.mpr ⟨List.mem_append_right _ (List.mem_of_getElem? (i := 362) (by decide +kernel)), by decide +kernel⟩
theorem wd_364 : (Cond.instanceMethod ({ cls := "ClaimTriangle", name := "checkLiving", desc := "(I)V" } : MethodName)) ∈ Wds := List.mem_filter.mpr ⟨List.mem_append_right _ (List.mem_of_getElem? (i := 364) (by decide +kernel)), by decide +kernel⟩
theorem wd_365 : (Cond.code ({ cls := "ClaimTriangle", name := "checkLiving", desc := "(I)V" } : MethodName) prog_1_method_27_code (2 : Nat) (Option.none : Option FieldType)) ∈ Wds := List.mem_filter.mpr ⟨List.mem_append_right _ (List.mem_of_getElem? (i := 365) (by decide +kernel)), by decide +kernel⟩
theorem wd_388 : (Cond.methodLink "ClaimTriangle" (90 : Nat) ({ cls := "ClaimTriangle$Fraction", name := "become", desc := "(JJ)V" } : MethodName)) ∈ Wds := List.mem_filter.mpr ⟨List.mem_append_right _ (List.mem_of_getElem? (i := 388) (by decide +kernel)), by decide +kernel⟩
theorem wd_389 : (Cond.instanceMethod ({ cls := "ClaimTriangle$Fraction", name := "become", desc := "(JJ)V" } : MethodName)) ∈ Wds := List.mem_filter.mpr ⟨List.mem_append_right _ (List.mem_of_getElem? (i := 389) (by decide +kernel)), by decide +kernel⟩
theorem wd_390 : (Cond.selects "ClaimTriangle$Fraction" ({ cls := "ClaimTriangle$Fraction", name := "become", desc := "(JJ)V" } : MethodName) ({ cls := "ClaimTriangle$Fraction", name := "become", desc := "(JJ)V" } : MethodName)) ∈ Wds := List.mem_filter.mpr ⟨List.mem_append_right _ (List.mem_of_getElem? (i := 390) (by decide +kernel)), by decide +kernel⟩
theorem wd_391 : (Cond.code ({ cls := "ClaimTriangle$Fraction", name := "become", desc := "(JJ)V" } : MethodName) prog_2_method_3_code (9 : Nat) (Option.none : Option FieldType)) ∈ Wds := List.mem_filter.mpr ⟨List.mem_append_right _ (List.mem_of_getElem? (i := 391) (by decide +kernel)), by decide +kernel⟩
theorem wd_392 : (Cond.methodLink "ClaimTriangle$Fraction" (22 : Nat) ({ cls := "ClaimTriangle$Fraction", name := "divisor", desc := "(JJ)J" } : MethodName)) ∈ Wds := List.mem_filter.mpr ⟨List.mem_append_right _ (List.mem_of_getElem? (i := 392) (by decide +kernel)), by decide +kernel⟩
theorem wd_393 : (Cond.static ({ cls := "ClaimTriangle$Fraction", name := "divisor", desc := "(JJ)J" } : MethodName)) ∈ Wds := List.mem_filter.mpr ⟨List.mem_append_right _ (List.mem_of_getElem? (i := 393) (by decide +kernel)), by decide +kernel⟩
theorem wd_394 : (Cond.code ({ cls := "ClaimTriangle$Fraction", name := "divisor", desc := "(JJ)J" } : MethodName) prog_2_method_11_code (11 : Nat) (Option.some FieldType.long)) ∈ Wds := List.mem_filter.mpr ⟨List.mem_append_right _ (List.mem_of_getElem? (i := 394) (by decide +kernel)), by decide +kernel⟩
theorem wd_395 : (Cond.methodLink "ClaimTriangle$Fraction" (40 : Nat) ({ cls := "java/lang/Math", name := "abs", desc := "(J)J" } : MethodName)) ∈ Wds := List.mem_filter.mpr ⟨List.mem_append_right _ (List.mem_of_getElem? (i := 395) (by decide +kernel)), by decide +kernel⟩
theorem wd_396 : (Cond.static ({ cls := "java/lang/Math", name := "abs", desc := "(J)J" } : MethodName)) ∈ Wds := List.mem_filter.mpr ⟨List.mem_append_right _ (List.mem_of_getElem? (i := 396) (by decide +kernel)), by decide +kernel⟩
theorem wd_397 : (Cond.code ({ cls := "java/lang/Math", name := "abs", desc := "(J)J" } : MethodName) prog_13_method_61_code (2 : Nat) (Option.some FieldType.long)) ∈ Wds := List.mem_filter.mpr ⟨List.mem_append_right _ (List.mem_of_getElem? (i := 397) (by decide +kernel)), by decide +kernel⟩
theorem wd_398 : (Cond.methodLink "ClaimTriangle$Fraction" (47 : Nat) ({ cls := "java/lang/Math", name := "max", desc := "(JJ)J" } : MethodName)) ∈ Wds := List.mem_filter.mpr ⟨List.mem_append_right _ (List.mem_of_getElem? (i := 398) (by decide +kernel)), by decide +kernel⟩
theorem wd_399 : (Cond.static ({ cls := "java/lang/Math", name := "max", desc := "(JJ)J" } : MethodName)) ∈ Wds := List.mem_filter.mpr ⟨List.mem_append_right _ (List.mem_of_getElem? (i := 399) (by decide +kernel)), by decide +kernel⟩
theorem wd_400 : (Cond.code ({ cls := "java/lang/Math", name := "max", desc := "(JJ)J" } : MethodName) prog_13_method_66_code (4 : Nat) (Option.some FieldType.long)) ∈ Wds := List.mem_filter.mpr ⟨List.mem_append_right _ (List.mem_of_getElem? (i := 400) (by decide +kernel)), by decide +kernel⟩
theorem wd_401 : (Cond.methodLink "ClaimTriangle" (96 : Nat) ({ cls := "ClaimTriangle$Terms", name := "ratioOf", desc := "(I)LClaimTriangle$Fraction;" } : MethodName)) ∈ Wds := List.mem_filter.mpr ⟨List.mem_append_right _ (List.mem_of_getElem? (i := 401) (by decide +kernel)), by decide +kernel⟩
theorem wd_402 : (Cond.instanceMethod ({ cls := "ClaimTriangle$Terms", name := "ratioOf", desc := "(I)LClaimTriangle$Fraction;" } : MethodName)) ∈ Wds := List.mem_filter.mpr ⟨List.mem_append_right _ (List.mem_of_getElem? (i := 402) (by decide +kernel)), by decide +kernel⟩
theorem wd_403 : (Cond.selects "ClaimTriangle$Terms" ({ cls := "ClaimTriangle$Terms", name := "ratioOf", desc := "(I)LClaimTriangle$Fraction;" } : MethodName) ({ cls := "ClaimTriangle$Terms", name := "ratioOf", desc := "(I)LClaimTriangle$Fraction;" } : MethodName)) ∈ Wds := List.mem_filter.mpr ⟨List.mem_append_right _ (List.mem_of_getElem? (i := 403) (by decide +kernel)), by decide +kernel⟩
theorem wd_404 : (Cond.code ({ cls := "ClaimTriangle$Terms", name := "ratioOf", desc := "(I)LClaimTriangle$Fraction;" } : MethodName) prog_5_method_2_code (2 : Nat) (Option.some (FieldType.object "ClaimTriangle$Fraction"))) ∈ Wds := List.mem_filter.mpr ⟨List.mem_append_right _ (List.mem_of_getElem? (i := 404) (by decide +kernel)), by decide +kernel⟩
theorem wd_412 : (Cond.methodLink "ClaimTriangle" (100 : Nat) ({ cls := "ClaimTriangle$Triangle", name := "reshape", desc := "(IIZI)V" } : MethodName)) ∈ Wds := List.mem_filter.mpr ⟨List.mem_append_right _ (List.mem_of_getElem? (i := 412) (by decide +kernel)), by decide +kernel⟩
theorem wd_413 : (Cond.instanceMethod ({ cls := "ClaimTriangle$Triangle", name := "reshape", desc := "(IIZI)V" } : MethodName)) ∈ Wds := List.mem_filter.mpr ⟨List.mem_append_right _ (List.mem_of_getElem? (i := 413) (by decide +kernel)), by decide +kernel⟩
theorem wd_414 : (Cond.selects "ClaimTriangle$Triangle" ({ cls := "ClaimTriangle$Triangle", name := "reshape", desc := "(IIZI)V" } : MethodName) ({ cls := "ClaimTriangle$Triangle", name := "reshape", desc := "(IIZI)V" } : MethodName)) ∈ Wds := List.mem_filter.mpr ⟨List.mem_append_right _ (List.mem_of_getElem? (i := 414) (by decide +kernel)), by decide +kernel⟩
theorem wd_415 : (Cond.code ({ cls := "ClaimTriangle$Triangle", name := "reshape", desc := "(IIZI)V" } : MethodName) prog_6_method_3_code (6 : Nat) (Option.none : Option FieldType)) ∈ Wds := List.mem_filter.mpr ⟨List.mem_append_right _ (List.mem_of_getElem? (i := 415) (by decide +kernel)), by decide +kernel⟩
theorem wd_423 : (Cond.methodLink "ClaimTriangle" (104 : Nat) ({ cls := "ClaimTriangle$Triangle", name := "shown", desc := "()I" } : MethodName)) ∈ Wds := List.mem_filter.mpr ⟨List.mem_append_right _ (List.mem_of_getElem? (i := 423) (by decide +kernel)), by decide +kernel⟩
theorem wd_424 : (Cond.instanceMethod ({ cls := "ClaimTriangle$Triangle", name := "shown", desc := "()I" } : MethodName)) ∈ Wds := List.mem_filter.mpr ⟨List.mem_append_right _ (List.mem_of_getElem? (i := 424) (by decide +kernel)), by decide +kernel⟩
theorem wd_425 : (Cond.selects "ClaimTriangle$Triangle" ({ cls := "ClaimTriangle$Triangle", name := "shown", desc := "()I" } : MethodName) ({ cls := "ClaimTriangle$Triangle", name := "shown", desc := "()I" } : MethodName)) ∈ Wds := List.mem_filter.mpr ⟨List.mem_append_right _ (List.mem_of_getElem? (i := 425) (by decide +kernel)), by decide +kernel⟩
theorem wd_426 : (Cond.code ({ cls := "ClaimTriangle$Triangle", name := "shown", desc := "()I" } : MethodName) prog_6_method_2_code (1 : Nat) (Option.some FieldType.int)) ∈ Wds := List.mem_filter.mpr ⟨List.mem_append_right _ (List.mem_of_getElem? (i := 426) (by decide +kernel)), by decide +kernel⟩
theorem wd_427 : (Cond.methodLink "ClaimTriangle" (108 : Nat) ({ cls := "ClaimTriangle", name := "isCell", desc := "(III)Z" } : MethodName)) ∈ Wds := List.mem_filter.mpr ⟨List.mem_append_right _ (List.mem_of_getElem? (i := 427) (by decide +kernel)), by decide +kernel⟩
theorem wd_428 : (Cond.static ({ cls := "ClaimTriangle", name := "isCell", desc := "(III)Z" } : MethodName)) ∈ Wds := List.mem_filter.mpr ⟨List.mem_append_right _ (List.mem_of_getElem? (i := 428) (by decide +kernel)), by decide +kernel⟩
theorem wd_429 : (Cond.code ({ cls := "ClaimTriangle", name := "isCell", desc := "(III)Z" } : MethodName) prog_1_method_33_code (3 : Nat) (Option.some FieldType.boolean)) ∈ Wds := List.mem_filter.mpr ⟨List.mem_append_right _ (List.mem_of_getElem? (i := 429) (by decide +kernel)), by decide +kernel⟩
theorem wd_437 : (Cond.methodLink "ClaimTriangle" (118 : Nat) ({ cls := "ClaimTriangle$Triangle", name := "mark", desc := "(IIZ)I" } : MethodName)) ∈ Wds := List.mem_filter.mpr ⟨List.mem_append_right _ (List.mem_of_getElem? (i := 437) (by decide +kernel)), by decide +kernel⟩
theorem wd_438 : (Cond.instanceMethod ({ cls := "ClaimTriangle$Triangle", name := "mark", desc := "(IIZ)I" } : MethodName)) ∈ Wds := List.mem_filter.mpr ⟨List.mem_append_right _ (List.mem_of_getElem? (i := 438) (by decide +kernel)), by decide +kernel⟩
theorem wd_439 : (Cond.selects "ClaimTriangle$Triangle" ({ cls := "ClaimTriangle$Triangle", name := "mark", desc := "(IIZ)I" } : MethodName) ({ cls := "ClaimTriangle$Triangle", name := "mark", desc := "(IIZ)I" } : MethodName)) ∈ Wds := List.mem_filter.mpr ⟨List.mem_append_right _ (List.mem_of_getElem? (i := 439) (by decide +kernel)), by decide +kernel⟩
theorem wd_440 : (Cond.code ({ cls := "ClaimTriangle$Triangle", name := "mark", desc := "(IIZ)I" } : MethodName) prog_6_method_4_code (6 : Nat) (Option.some FieldType.int)) ∈ Wds := List.mem_filter.mpr ⟨List.mem_append_right _ (List.mem_of_getElem? (i := 440) (by decide +kernel)), by decide +kernel⟩
theorem wd_464 : (Cond.methodLink "ClaimTriangle" (128 : Nat) ({ cls := "ClaimTriangle", name := "isChain", desc := "(I)Z" } : MethodName)) ∈ Wds := List.mem_filter.mpr ⟨List.mem_append_right _ (List.mem_of_getElem? (i := 464) (by decide +kernel)), by decide +kernel⟩
theorem wd_465 : (Cond.static ({ cls := "ClaimTriangle", name := "isChain", desc := "(I)Z" } : MethodName)) ∈ Wds := List.mem_filter.mpr ⟨List.mem_append_right _ (List.mem_of_getElem? (i := 465) (by decide +kernel)), by decide +kernel⟩
theorem wd_466 : (Cond.code ({ cls := "ClaimTriangle", name := "isChain", desc := "(I)Z" } : MethodName) prog_1_method_35_code (1 : Nat) (Option.some FieldType.boolean)) ∈ Wds := List.mem_filter.mpr ⟨List.mem_append_right _ (List.mem_of_getElem? (i := 466) (by decide +kernel)), by decide +kernel⟩
theorem wd_467 : (Cond.methodLink "ClaimTriangle" (131 : Nat) ({ cls := "ClaimTriangle$Reckoner", name := "prepare", desc := "(I)V" } : MethodName)) ∈ Wds := List.mem_filter.mpr ⟨List.mem_append_right _ (List.mem_of_getElem? (i := 467) (by decide +kernel)), by decide +kernel⟩
theorem wd_468 : (Cond.instanceMethod ({ cls := "ClaimTriangle$Reckoner", name := "prepare", desc := "(I)V" } : MethodName)) ∈ Wds := List.mem_filter.mpr ⟨List.mem_append_right _ (List.mem_of_getElem? (i := 468) (by decide +kernel)), by decide +kernel⟩
theorem wd_469 : (Cond.selects "ClaimTriangle$Reckoner" ({ cls := "ClaimTriangle$Reckoner", name := "prepare", desc := "(I)V" } : MethodName) ({ cls := "ClaimTriangle$Reckoner", name := "prepare", desc := "(I)V" } : MethodName)) ∈ Wds := List.mem_filter.mpr ⟨List.mem_append_right _ (List.mem_of_getElem? (i := 469) (by decide +kernel)), by decide +kernel⟩
theorem wd_470 : (Cond.code ({ cls := "ClaimTriangle$Reckoner", name := "prepare", desc := "(I)V" } : MethodName) prog_4_method_2_code (4 : Nat) (Option.none : Option FieldType)) ∈ Wds := List.mem_filter.mpr ⟨List.mem_append_right _ (List.mem_of_getElem? (i := 470) (by decide +kernel)), by decide +kernel⟩
theorem wd_471 : (Cond.methodLink "ClaimTriangle$Reckoner" (51 : Nat) ({ cls := "ClaimTriangle$Triangle", name := "shown", desc := "()I" } : MethodName)) ∈ Wds := List.mem_filter.mpr ⟨List.mem_append_right _ (List.mem_of_getElem? (i := 471) (by decide +kernel)), by decide +kernel⟩
theorem wd_472 : (Cond.methodLink "ClaimTriangle$Reckoner" (55 : Nat) ({ cls := "ClaimTriangle$Reckoner", name := "linkUp", desc := "(II)V" } : MethodName)) ∈ Wds := List.mem_filter.mpr ⟨List.mem_append_right _ (List.mem_of_getElem? (i := 472) (by decide +kernel)), by decide +kernel⟩
theorem wd_474 : (Cond.instanceMethod ({ cls := "ClaimTriangle$Reckoner", name := "linkUp", desc := "(II)V" } : MethodName)) ∈ Wds := List.mem_filter.mpr ⟨List.mem_append_right _ (List.mem_of_getElem? (i := 474) (by decide +kernel)), by decide +kernel⟩
theorem wd_475 : (Cond.code ({ cls := "ClaimTriangle$Reckoner", name := "linkUp", desc := "(II)V" } : MethodName) prog_4_method_3_code (9 : Nat) (Option.none : Option FieldType)) ∈ Wds := List.mem_filter.mpr ⟨List.mem_append_right _ (List.mem_of_getElem? (i := 475) (by decide +kernel)), by decide +kernel⟩
theorem wd_476 : (Cond.methodLink "ClaimTriangle$Reckoner" (59 : Nat) ({ cls := "ClaimTriangle$Triangle", name := "takes", desc := "(II)Z" } : MethodName)) ∈ Wds := List.mem_filter.mpr ⟨List.mem_append_right _ (List.mem_of_getElem? (i := 476) (by decide +kernel)), by decide +kernel⟩
theorem wd_477 : (Cond.instanceMethod ({ cls := "ClaimTriangle$Triangle", name := "takes", desc := "(II)Z" } : MethodName)) ∈ Wds := List.mem_filter.mpr ⟨List.mem_append_right _ (List.mem_of_getElem? (i := 477) (by decide +kernel)), by decide +kernel⟩
theorem wd_478 : (Cond.selects "ClaimTriangle$Triangle" ({ cls := "ClaimTriangle$Triangle", name := "takes", desc := "(II)Z" } : MethodName) ({ cls := "ClaimTriangle$Triangle", name := "takes", desc := "(II)Z" } : MethodName)) ∈ Wds := List.mem_filter.mpr ⟨List.mem_append_right _ (List.mem_of_getElem? (i := 478) (by decide +kernel)), by decide +kernel⟩
theorem wd_479 : (Cond.code ({ cls := "ClaimTriangle$Triangle", name := "takes", desc := "(II)Z" } : MethodName) prog_6_method_5_code (3 : Nat) (Option.some FieldType.boolean)) ∈ Wds := List.mem_filter.mpr ⟨List.mem_append_right _ (List.mem_of_getElem? (i := 479) (by decide +kernel)), by decide +kernel⟩
theorem wd_480 : (Cond.methodLink "ClaimTriangle$Reckoner" (67 : Nat) ({ cls := "ClaimTriangle$Fraction", name := "become", desc := "(JJ)V" } : MethodName)) ∈ Wds := List.mem_filter.mpr ⟨List.mem_append_right _ (List.mem_of_getElem? (i := 480) (by decide +kernel)), by decide +kernel⟩
theorem wd_481 : (Cond.methodLink "ClaimTriangle" (134 : Nat) ({ cls := "ClaimTriangle$Reckoner", name := "toLink", desc := "(I)V" } : MethodName)) ∈ Wds := List.mem_filter.mpr ⟨List.mem_append_right _ (List.mem_of_getElem? (i := 481) (by decide +kernel)), by decide +kernel⟩
theorem wd_482 : (Cond.instanceMethod ({ cls := "ClaimTriangle$Reckoner", name := "toLink", desc := "(I)V" } : MethodName)) ∈ Wds := List.mem_filter.mpr ⟨List.mem_append_right _ (List.mem_of_getElem? (i := 482) (by decide +kernel)), by decide +kernel⟩
theorem wd_483 : (Cond.selects "ClaimTriangle$Reckoner" ({ cls := "ClaimTriangle$Reckoner", name := "toLink", desc := "(I)V" } : MethodName) ({ cls := "ClaimTriangle$Reckoner", name := "toLink", desc := "(I)V" } : MethodName)) ∈ Wds := List.mem_filter.mpr ⟨List.mem_append_right _ (List.mem_of_getElem? (i := 483) (by decide +kernel)), by decide +kernel⟩
theorem wd_484 : (Cond.code ({ cls := "ClaimTriangle$Reckoner", name := "toLink", desc := "(I)V" } : MethodName) prog_4_method_4_code (2 : Nat) (Option.none : Option FieldType)) ∈ Wds := List.mem_filter.mpr ⟨List.mem_append_right _ (List.mem_of_getElem? (i := 484) (by decide +kernel)), by decide +kernel⟩
theorem wd_485 : (Cond.methodLink "ClaimTriangle$Reckoner" (71 : Nat) ({ cls := "ClaimTriangle$Fraction", name := "copy", desc := "(LClaimTriangle$Fraction;)V" } : MethodName)) ∈ Wds := List.mem_filter.mpr ⟨List.mem_append_right _ (List.mem_of_getElem? (i := 485) (by decide +kernel)), by decide +kernel⟩
theorem wd_486 : (Cond.instanceMethod ({ cls := "ClaimTriangle$Fraction", name := "copy", desc := "(LClaimTriangle$Fraction;)V" } : MethodName)) ∈ Wds := List.mem_filter.mpr ⟨List.mem_append_right _ (List.mem_of_getElem? (i := 486) (by decide +kernel)), by decide +kernel⟩
theorem wd_487 : (Cond.selects "ClaimTriangle$Fraction" ({ cls := "ClaimTriangle$Fraction", name := "copy", desc := "(LClaimTriangle$Fraction;)V" } : MethodName) ({ cls := "ClaimTriangle$Fraction", name := "copy", desc := "(LClaimTriangle$Fraction;)V" } : MethodName)) ∈ Wds := List.mem_filter.mpr ⟨List.mem_append_right _ (List.mem_of_getElem? (i := 487) (by decide +kernel)), by decide +kernel⟩
theorem wd_488 : (Cond.code ({ cls := "ClaimTriangle$Fraction", name := "copy", desc := "(LClaimTriangle$Fraction;)V" } : MethodName) prog_2_method_4_code (2 : Nat) (Option.none : Option FieldType)) ∈ Wds := List.mem_filter.mpr ⟨List.mem_append_right _ (List.mem_of_getElem? (i := 488) (by decide +kernel)), by decide +kernel⟩
theorem wd_489 : (Cond.methodLink "ClaimTriangle" (137 : Nat) ({ cls := "ClaimTriangle", name := "partOfAnswer", desc := "(Z)J" } : MethodName)) ∈ Wds := List.mem_filter.mpr ⟨List.mem_append_right _ (List.mem_of_getElem? (i := 489) (by decide +kernel)), by decide +kernel⟩
theorem wd_491 : (Cond.instanceMethod ({ cls := "ClaimTriangle", name := "partOfAnswer", desc := "(Z)J" } : MethodName)) ∈ Wds := List.mem_filter.mpr ⟨List.mem_append_right _ (List.mem_of_getElem? (i := 491) (by decide +kernel)), by decide +kernel⟩
theorem wd_492 : (Cond.code ({ cls := "ClaimTriangle", name := "partOfAnswer", desc := "(Z)J" } : MethodName) prog_1_method_24_code (2 : Nat) (Option.some FieldType.long)) ∈ Wds := List.mem_filter.mpr ⟨List.mem_append_right _ (List.mem_of_getElem? (i := 492) (by decide +kernel)), by decide +kernel⟩
theorem wd_493 : (Cond.methodLink "ClaimTriangle" (153 : Nat) ({ cls := "ClaimTriangle", name := "checkAnswer", desc := "()V" } : MethodName)) ∈ Wds := List.mem_filter.mpr ⟨List.mem_append_right _ (List.mem_of_getElem? (i := 493) (by decide +kernel)), by decide +kernel⟩
theorem wd_495 : (Cond.instanceMethod ({ cls := "ClaimTriangle", name := "checkAnswer", desc := "()V" } : MethodName)) ∈ Wds := List.mem_filter.mpr ⟨List.mem_append_right _ (List.mem_of_getElem? (i := 495) (by decide +kernel)), by decide +kernel⟩
theorem wd_496 : (Cond.code ({ cls := "ClaimTriangle", name := "checkAnswer", desc := "()V" } : MethodName) prog_1_method_25_code (1 : Nat) (Option.none : Option FieldType)) ∈ Wds := List.mem_filter.mpr ⟨List.mem_append_right _ (List.mem_of_getElem? (i := 496) (by decide +kernel)), by decide +kernel⟩
theorem wd_497 : (Cond.classLink "ClaimTriangle" (214 : Nat) "java/lang/ArithmeticException") ∈ Wds := List.mem_filter.mpr ⟨List.mem_append_right _ (List.mem_of_getElem? (i := 497) (by decide +kernel)), by decide +kernel⟩
theorem wd_513 : (Cond.classLink "ClaimTriangle" (219 : Nat) "java/lang/UnsupportedOperationException") ∈ Wds := List.mem_filter.mpr ⟨List.mem_append_right _ (List.mem_of_getElem? (i := 513) (by decide +kernel)), by decide +kernel⟩
theorem wd_536 : (Cond.methodLink "ClaimTriangle" (141 : Nat) ({ cls := "ClaimTriangle", name := "isMethod", desc := "(I)Z" } : MethodName)) ∈ Wds := List.mem_filter.mpr ⟨List.mem_append_right _ (List.mem_of_getElem? (i := 536) (by decide +kernel)), by decide +kernel⟩
theorem wd_537 : (Cond.static ({ cls := "ClaimTriangle", name := "isMethod", desc := "(I)Z" } : MethodName)) ∈ Wds := List.mem_filter.mpr ⟨List.mem_append_right _ (List.mem_of_getElem? (i := 537) (by decide +kernel)), by decide +kernel⟩
theorem wd_538 : (Cond.code ({ cls := "ClaimTriangle", name := "isMethod", desc := "(I)Z" } : MethodName) prog_1_method_34_code (1 : Nat) (Option.some FieldType.boolean)) ∈ Wds := List.mem_filter.mpr ⟨List.mem_append_right _ (List.mem_of_getElem? (i := 538) (by decide +kernel)), by decide +kernel⟩
theorem wd_539 : (Cond.methodLink "ClaimTriangle" (144 : Nat) ({ cls := "ClaimTriangle", name := "isRow", desc := "(I)Z" } : MethodName)) ∈ Wds := List.mem_filter.mpr ⟨List.mem_append_right _ (List.mem_of_getElem? (i := 539) (by decide +kernel)), by decide +kernel⟩
theorem wd_541 : (Cond.instanceMethod ({ cls := "ClaimTriangle", name := "isRow", desc := "(I)Z" } : MethodName)) ∈ Wds := List.mem_filter.mpr ⟨List.mem_append_right _ (List.mem_of_getElem? (i := 541) (by decide +kernel)), by decide +kernel⟩
theorem wd_542 : (Cond.code ({ cls := "ClaimTriangle", name := "isRow", desc := "(I)Z" } : MethodName) prog_1_method_28_code (2 : Nat) (Option.some FieldType.boolean)) ∈ Wds := List.mem_filter.mpr ⟨List.mem_append_right _ (List.mem_of_getElem? (i := 542) (by decide +kernel)), by decide +kernel⟩
theorem wd_543 : (Cond.methodLink "ClaimTriangle" (147 : Nat) ({ cls := "ClaimTriangle$Reckoner", name := "toUltimate", desc := "(II)V" } : MethodName)) ∈ Wds := List.mem_filter.mpr ⟨List.mem_append_right _ (List.mem_of_getElem? (i := 543) (by decide +kernel)), by decide +kernel⟩
theorem wd_544 : (Cond.instanceMethod ({ cls := "ClaimTriangle$Reckoner", name := "toUltimate", desc := "(II)V" } : MethodName)) ∈ Wds := List.mem_filter.mpr ⟨List.mem_append_right _ (List.mem_of_getElem? (i := 544) (by decide +kernel)), by decide +kernel⟩
theorem wd_545 : (Cond.selects "ClaimTriangle$Reckoner" ({ cls := "ClaimTriangle$Reckoner", name := "toUltimate", desc := "(II)V" } : MethodName) ({ cls := "ClaimTriangle$Reckoner", name := "toUltimate", desc := "(II)V" } : MethodName)) ∈ Wds := List.mem_filter.mpr ⟨List.mem_append_right _ (List.mem_of_getElem? (i := 545) (by decide +kernel)), by decide +kernel⟩
theorem wd_546 : (Cond.code ({ cls := "ClaimTriangle$Reckoner", name := "toUltimate", desc := "(II)V" } : MethodName) prog_4_method_5_code (3 : Nat) (Option.none : Option FieldType)) ∈ Wds := List.mem_filter.mpr ⟨List.mem_append_right _ (List.mem_of_getElem? (i := 546) (by decide +kernel)), by decide +kernel⟩
theorem wd_547 : (Cond.methodLink "ClaimTriangle$Reckoner" (75 : Nat) ({ cls := "ClaimTriangle$Reckoner", name := "expect", desc := "(I)V" } : MethodName)) ∈ Wds := List.mem_filter.mpr ⟨List.mem_append_right _ (List.mem_of_getElem? (i := 547) (by decide +kernel)), by decide +kernel⟩
theorem wd_549 : (Cond.instanceMethod ({ cls := "ClaimTriangle$Reckoner", name := "expect", desc := "(I)V" } : MethodName)) ∈ Wds := List.mem_filter.mpr ⟨List.mem_append_right _ (List.mem_of_getElem? (i := 549) (by decide +kernel)), by decide +kernel⟩
theorem wd_550 : (Cond.code ({ cls := "ClaimTriangle$Reckoner", name := "expect", desc := "(I)V" } : MethodName) prog_4_method_13_code (2 : Nat) (Option.none : Option FieldType)) ∈ Wds := List.mem_filter.mpr ⟨List.mem_append_right _ (List.mem_of_getElem? (i := 550) (by decide +kernel)), by decide +kernel⟩
theorem wd_551 : (Cond.methodLink "ClaimTriangle$Reckoner" (135 : Nat) ({ cls := "ClaimTriangle$Terms", name := "sumPremiums", desc := "(III)I" } : MethodName)) ∈ Wds := List.mem_filter.mpr ⟨List.mem_append_right _ (List.mem_of_getElem? (i := 551) (by decide +kernel)), by decide +kernel⟩
theorem wd_552 : (Cond.instanceMethod ({ cls := "ClaimTriangle$Terms", name := "sumPremiums", desc := "(III)I" } : MethodName)) ∈ Wds := List.mem_filter.mpr ⟨List.mem_append_right _ (List.mem_of_getElem? (i := 552) (by decide +kernel)), by decide +kernel⟩
theorem wd_553 : (Cond.selects "ClaimTriangle$Terms" ({ cls := "ClaimTriangle$Terms", name := "sumPremiums", desc := "(III)I" } : MethodName) ({ cls := "ClaimTriangle$Terms", name := "sumPremiums", desc := "(III)I" } : MethodName)) ∈ Wds := List.mem_filter.mpr ⟨List.mem_append_right _ (List.mem_of_getElem? (i := 553) (by decide +kernel)), by decide +kernel⟩
theorem wd_554 : (Cond.code ({ cls := "ClaimTriangle$Terms", name := "sumPremiums", desc := "(III)I" } : MethodName) prog_5_method_3_code (7 : Nat) (Option.some FieldType.int)) ∈ Wds := List.mem_filter.mpr ⟨List.mem_append_right _ (List.mem_of_getElem? (i := 554) (by decide +kernel)), by decide +kernel⟩
theorem wd_555 : (Cond.methodLink "ClaimTriangle$Reckoner" (105 : Nat) ({ cls := "ClaimTriangle$Fraction", name := "becomeWhole", desc := "(J)V" } : MethodName)) ∈ Wds := List.mem_filter.mpr ⟨List.mem_append_right _ (List.mem_of_getElem? (i := 555) (by decide +kernel)), by decide +kernel⟩
theorem wd_556 : (Cond.instanceMethod ({ cls := "ClaimTriangle$Fraction", name := "becomeWhole", desc := "(J)V" } : MethodName)) ∈ Wds := List.mem_filter.mpr ⟨List.mem_append_right _ (List.mem_of_getElem? (i := 556) (by decide +kernel)), by decide +kernel⟩
theorem wd_557 : (Cond.selects "ClaimTriangle$Fraction" ({ cls := "ClaimTriangle$Fraction", name := "becomeWhole", desc := "(J)V" } : MethodName) ({ cls := "ClaimTriangle$Fraction", name := "becomeWhole", desc := "(J)V" } : MethodName)) ∈ Wds := List.mem_filter.mpr ⟨List.mem_append_right _ (List.mem_of_getElem? (i := 557) (by decide +kernel)), by decide +kernel⟩
theorem wd_558 : (Cond.code ({ cls := "ClaimTriangle$Fraction", name := "becomeWhole", desc := "(J)V" } : MethodName) prog_2_method_2_code (3 : Nat) (Option.none : Option FieldType)) ∈ Wds := List.mem_filter.mpr ⟨List.mem_append_right _ (List.mem_of_getElem? (i := 558) (by decide +kernel)), by decide +kernel⟩
theorem wd_559 : (Cond.methodLink "ClaimTriangle$Reckoner" (139 : Nat) ({ cls := "ClaimTriangle$Terms", name := "ratioOf", desc := "(I)LClaimTriangle$Fraction;" } : MethodName)) ∈ Wds := List.mem_filter.mpr ⟨List.mem_append_right _ (List.mem_of_getElem? (i := 559) (by decide +kernel)), by decide +kernel⟩
theorem wd_560 : (Cond.methodLink "ClaimTriangle$Reckoner" (85 : Nat) ({ cls := "ClaimTriangle$Fraction", name := "times", desc := "(LClaimTriangle$Fraction;)V" } : MethodName)) ∈ Wds := List.mem_filter.mpr ⟨List.mem_append_right _ (List.mem_of_getElem? (i := 560) (by decide +kernel)), by decide +kernel⟩
theorem wd_561 : (Cond.instanceMethod ({ cls := "ClaimTriangle$Fraction", name := "times", desc := "(LClaimTriangle$Fraction;)V" } : MethodName)) ∈ Wds := List.mem_filter.mpr ⟨List.mem_append_right _ (List.mem_of_getElem? (i := 561) (by decide +kernel)), by decide +kernel⟩
theorem wd_562 : (Cond.selects "ClaimTriangle$Fraction" ({ cls := "ClaimTriangle$Fraction", name := "times", desc := "(LClaimTriangle$Fraction;)V" } : MethodName) ({ cls := "ClaimTriangle$Fraction", name := "times", desc := "(LClaimTriangle$Fraction;)V" } : MethodName)) ∈ Wds := List.mem_filter.mpr ⟨List.mem_append_right _ (List.mem_of_getElem? (i := 562) (by decide +kernel)), by decide +kernel⟩
theorem wd_563 : (Cond.code ({ cls := "ClaimTriangle$Fraction", name := "times", desc := "(LClaimTriangle$Fraction;)V" } : MethodName) prog_2_method_5_code (14 : Nat) (Option.none : Option FieldType)) ∈ Wds := List.mem_filter.mpr ⟨List.mem_append_right _ (List.mem_of_getElem? (i := 563) (by decide +kernel)), by decide +kernel⟩
theorem wd_564 : (Cond.methodLink "ClaimTriangle$Fraction" (26 : Nat) ({ cls := "java/lang/Math", name := "max", desc := "(II)I" } : MethodName)) ∈ Wds := List.mem_filter.mpr ⟨List.mem_append_right _ (List.mem_of_getElem? (i := 564) (by decide +kernel)), by decide +kernel⟩
theorem wd_565 : (Cond.static ({ cls := "java/lang/Math", name := "max", desc := "(II)I" } : MethodName)) ∈ Wds := List.mem_filter.mpr ⟨List.mem_append_right _ (List.mem_of_getElem? (i := 565) (by decide +kernel)), by decide +kernel⟩
theorem wd_566 : (Cond.code ({ cls := "java/lang/Math", name := "max", desc := "(II)I" } : MethodName) prog_13_method_65_code (2 : Nat) (Option.some FieldType.int)) ∈ Wds := List.mem_filter.mpr ⟨List.mem_append_right _ (List.mem_of_getElem? (i := 566) (by decide +kernel)), by decide +kernel⟩
theorem wd_567 : (Cond.methodLink "ClaimTriangle$Fraction" (32 : Nat) ({ cls := "ClaimTriangle$Fraction", name := "fits", desc := "(JJ)Z" } : MethodName)) ∈ Wds := List.mem_filter.mpr ⟨List.mem_append_right _ (List.mem_of_getElem? (i := 567) (by decide +kernel)), by decide +kernel⟩
theorem wd_568 : (Cond.static ({ cls := "ClaimTriangle$Fraction", name := "fits", desc := "(JJ)Z" } : MethodName)) ∈ Wds := List.mem_filter.mpr ⟨List.mem_append_right _ (List.mem_of_getElem? (i := 568) (by decide +kernel)), by decide +kernel⟩
theorem wd_569 : (Cond.code ({ cls := "ClaimTriangle$Fraction", name := "fits", desc := "(JJ)Z" } : MethodName) prog_2_method_10_code (4 : Nat) (Option.some FieldType.boolean)) ∈ Wds := List.mem_filter.mpr ⟨List.mem_append_right _ (List.mem_of_getElem? (i := 569) (by decide +kernel)), by decide +kernel⟩
theorem wd_570 : (Cond.constantLong "ClaimTriangle$Fraction" (36 : Nat) (4611686018427387904 : Int64)) ∈ Wds := List.mem_filter.mpr ⟨List.mem_append_right _ (List.mem_of_getElem? (i := 570) (by decide +kernel)), by decide +kernel⟩
theorem wd_571 : (Cond.methodLink "ClaimTriangle$Reckoner" (79 : Nat) ({ cls := "ClaimTriangle$Reckoner", name := "chain", desc := "(II)V" } : MethodName)) ∈ Wds := List.mem_filter.mpr ⟨List.mem_append_right _ (List.mem_of_getElem? (i := 571) (by decide +kernel)), by decide +kernel⟩
theorem wd_573 : (Cond.instanceMethod ({ cls := "ClaimTriangle$Reckoner", name := "chain", desc := "(II)V" } : MethodName)) ∈ Wds := List.mem_filter.mpr ⟨List.mem_append_right _ (List.mem_of_getElem? (i := 573) (by decide +kernel)), by decide +kernel⟩
theorem wd_574 : (Cond.code ({ cls := "ClaimTriangle$Reckoner", name := "chain", desc := "(II)V" } : MethodName) prog_4_method_12_code (4 : Nat) (Option.none : Option FieldType)) ∈ Wds := List.mem_filter.mpr ⟨List.mem_append_right _ (List.mem_of_getElem? (i := 574) (by decide +kernel)), by decide +kernel⟩
theorem wd_575 : (Cond.methodLink "ClaimTriangle$Reckoner" (88 : Nat) ({ cls := "ClaimTriangle$Reckoner", name := "blend", desc := "(I)V" } : MethodName)) ∈ Wds := List.mem_filter.mpr ⟨List.mem_append_right _ (List.mem_of_getElem? (i := 575) (by decide +kernel)), by decide +kernel⟩
theorem wd_577 : (Cond.instanceMethod ({ cls := "ClaimTriangle$Reckoner", name := "blend", desc := "(I)V" } : MethodName)) ∈ Wds := List.mem_filter.mpr ⟨List.mem_append_right _ (List.mem_of_getElem? (i := 577) (by decide +kernel)), by decide +kernel⟩
theorem wd_578 : (Cond.code ({ cls := "ClaimTriangle$Reckoner", name := "blend", desc := "(I)V" } : MethodName) prog_4_method_14_code (2 : Nat) (Option.none : Option FieldType)) ∈ Wds := List.mem_filter.mpr ⟨List.mem_append_right _ (List.mem_of_getElem? (i := 578) (by decide +kernel)), by decide +kernel⟩
theorem wd_579 : (Cond.methodLink "ClaimTriangle$Reckoner" (143 : Nat) ({ cls := "ClaimTriangle$Fraction", name := "invert", desc := "()V" } : MethodName)) ∈ Wds := List.mem_filter.mpr ⟨List.mem_append_right _ (List.mem_of_getElem? (i := 579) (by decide +kernel)), by decide +kernel⟩
theorem wd_580 : (Cond.instanceMethod ({ cls := "ClaimTriangle$Fraction", name := "invert", desc := "()V" } : MethodName)) ∈ Wds := List.mem_filter.mpr ⟨List.mem_append_right _ (List.mem_of_getElem? (i := 580) (by decide +kernel)), by decide +kernel⟩
theorem wd_581 : (Cond.selects "ClaimTriangle$Fraction" ({ cls := "ClaimTriangle$Fraction", name := "invert", desc := "()V" } : MethodName) ({ cls := "ClaimTriangle$Fraction", name := "invert", desc := "()V" } : MethodName)) ∈ Wds := List.mem_filter.mpr ⟨List.mem_append_right _ (List.mem_of_getElem? (i := 581) (by decide +kernel)), by decide +kernel⟩
theorem wd_582 : (Cond.code ({ cls := "ClaimTriangle$Fraction", name := "invert", desc := "()V" } : MethodName) prog_2_method_8_code (3 : Nat) (Option.none : Option FieldType)) ∈ Wds := List.mem_filter.mpr ⟨List.mem_append_right _ (List.mem_of_getElem? (i := 582) (by decide +kernel)), by decide +kernel⟩
theorem wd_583 : (Cond.methodLink "ClaimTriangle$Reckoner" (123 : Nat) ({ cls := "ClaimTriangle$Fraction", name := "negate", desc := "()V" } : MethodName)) ∈ Wds := List.mem_filter.mpr ⟨List.mem_append_right _ (List.mem_of_getElem? (i := 583) (by decide +kernel)), by decide +kernel⟩
theorem wd_584 : (Cond.instanceMethod ({ cls := "ClaimTriangle$Fraction", name := "negate", desc := "()V" } : MethodName)) ∈ Wds := List.mem_filter.mpr ⟨List.mem_append_right _ (List.mem_of_getElem? (i := 584) (by decide +kernel)), by decide +kernel⟩
theorem wd_585 : (Cond.selects "ClaimTriangle$Fraction" ({ cls := "ClaimTriangle$Fraction", name := "negate", desc := "()V" } : MethodName) ({ cls := "ClaimTriangle$Fraction", name := "negate", desc := "()V" } : MethodName)) ∈ Wds := List.mem_filter.mpr ⟨List.mem_append_right _ (List.mem_of_getElem? (i := 585) (by decide +kernel)), by decide +kernel⟩
theorem wd_586 : (Cond.code ({ cls := "ClaimTriangle$Fraction", name := "negate", desc := "()V" } : MethodName) prog_2_method_7_code (1 : Nat) (Option.none : Option FieldType)) ∈ Wds := List.mem_filter.mpr ⟨List.mem_append_right _ (List.mem_of_getElem? (i := 586) (by decide +kernel)), by decide +kernel⟩
theorem wd_587 : (Cond.methodLink "ClaimTriangle$Reckoner" (95 : Nat) ({ cls := "ClaimTriangle$Reckoner", name := "asWhole", desc := "(J)LClaimTriangle$Fraction;" } : MethodName)) ∈ Wds := List.mem_filter.mpr ⟨List.mem_append_right _ (List.mem_of_getElem? (i := 587) (by decide +kernel)), by decide +kernel⟩
theorem wd_589 : (Cond.instanceMethod ({ cls := "ClaimTriangle$Reckoner", name := "asWhole", desc := "(J)LClaimTriangle$Fraction;" } : MethodName)) ∈ Wds := List.mem_filter.mpr ⟨List.mem_append_right _ (List.mem_of_getElem? (i := 589) (by decide +kernel)), by decide +kernel⟩
theorem wd_590 : (Cond.code ({ cls := "ClaimTriangle$Reckoner", name := "asWhole", desc := "(J)LClaimTriangle$Fraction;" } : MethodName) prog_4_method_15_code (3 : Nat) (Option.some (FieldType.object "ClaimTriangle$Fraction"))) ∈ Wds := List.mem_filter.mpr ⟨List.mem_append_right _ (List.mem_of_getElem? (i := 590) (by decide +kernel)), by decide +kernel⟩
theorem wd_591 : (Cond.methodLink "ClaimTriangle$Reckoner" (102 : Nat) ({ cls := "ClaimTriangle$Fraction", name := "plus", desc := "(LClaimTriangle$Fraction;)V" } : MethodName)) ∈ Wds := List.mem_filter.mpr ⟨List.mem_append_right _ (List.mem_of_getElem? (i := 591) (by decide +kernel)), by decide +kernel⟩
theorem wd_592 : (Cond.instanceMethod ({ cls := "ClaimTriangle$Fraction", name := "plus", desc := "(LClaimTriangle$Fraction;)V" } : MethodName)) ∈ Wds := List.mem_filter.mpr ⟨List.mem_append_right _ (List.mem_of_getElem? (i := 592) (by decide +kernel)), by decide +kernel⟩
theorem wd_593 : (Cond.selects "ClaimTriangle$Fraction" ({ cls := "ClaimTriangle$Fraction", name := "plus", desc := "(LClaimTriangle$Fraction;)V" } : MethodName) ({ cls := "ClaimTriangle$Fraction", name := "plus", desc := "(LClaimTriangle$Fraction;)V" } : MethodName)) ∈ Wds := List.mem_filter.mpr ⟨List.mem_append_right _ (List.mem_of_getElem? (i := 593) (by decide +kernel)), by decide +kernel⟩
theorem wd_594 : (Cond.code ({ cls := "ClaimTriangle$Fraction", name := "plus", desc := "(LClaimTriangle$Fraction;)V" } : MethodName) prog_2_method_6_code (16 : Nat) (Option.none : Option FieldType)) ∈ Wds := List.mem_filter.mpr ⟨List.mem_append_right _ (List.mem_of_getElem? (i := 594) (by decide +kernel)), by decide +kernel⟩
theorem wd_595 : (Cond.constantLong "ClaimTriangle$Fraction" (38 : Nat) (-4611686018427387904 : Int64)) ∈ Wds := List.mem_filter.mpr ⟨List.mem_append_right _ (List.mem_of_getElem? (i := 595) (by decide +kernel)), by decide +kernel⟩
theorem wd_596 : (Cond.methodLink "ClaimTriangle$Reckoner" (91 : Nat) ({ cls := "ClaimTriangle$Triangle", name := "latestOf", desc := "(I)I" } : MethodName)) ∈ Wds := List.mem_filter.mpr ⟨List.mem_append_right _ (List.mem_of_getElem? (i := 596) (by decide +kernel)), by decide +kernel⟩
theorem wd_597 : (Cond.instanceMethod ({ cls := "ClaimTriangle$Triangle", name := "latestOf", desc := "(I)I" } : MethodName)) ∈ Wds := List.mem_filter.mpr ⟨List.mem_append_right _ (List.mem_of_getElem? (i := 597) (by decide +kernel)), by decide +kernel⟩
theorem wd_598 : (Cond.selects "ClaimTriangle$Triangle" ({ cls := "ClaimTriangle$Triangle", name := "latestOf", desc := "(I)I" } : MethodName) ({ cls := "ClaimTriangle$Triangle", name := "latestOf", desc := "(I)I" } : MethodName)) ∈ Wds := List.mem_filter.mpr ⟨List.mem_append_right _ (List.mem_of_getElem? (i := 598) (by decide +kernel)), by decide +kernel⟩
theorem wd_599 : (Cond.code ({ cls := "ClaimTriangle$Triangle", name := "latestOf", desc := "(I)I" } : MethodName) prog_6_method_6_code (2 : Nat) (Option.some FieldType.int)) ∈ Wds := List.mem_filter.mpr ⟨List.mem_append_right _ (List.mem_of_getElem? (i := 599) (by decide +kernel)), by decide +kernel⟩
theorem wd_600 : (Cond.methodLink "ClaimTriangle$Triangle" (37 : Nat) ({ cls := "ClaimTriangle$Triangle", name := "shown", desc := "()I" } : MethodName)) ∈ Wds := List.mem_filter.mpr ⟨List.mem_append_right _ (List.mem_of_getElem? (i := 600) (by decide +kernel)), by decide +kernel⟩
theorem wd_608 : (Cond.methodLink "ClaimTriangle" (150 : Nat) ({ cls := "ClaimTriangle$Reckoner", name := "toReserve", desc := "(II)V" } : MethodName)) ∈ Wds := List.mem_filter.mpr ⟨List.mem_append_right _ (List.mem_of_getElem? (i := 608) (by decide +kernel)), by decide +kernel⟩
theorem wd_609 : (Cond.instanceMethod ({ cls := "ClaimTriangle$Reckoner", name := "toReserve", desc := "(II)V" } : MethodName)) ∈ Wds := List.mem_filter.mpr ⟨List.mem_append_right _ (List.mem_of_getElem? (i := 609) (by decide +kernel)), by decide +kernel⟩
theorem wd_610 : (Cond.selects "ClaimTriangle$Reckoner" ({ cls := "ClaimTriangle$Reckoner", name := "toReserve", desc := "(II)V" } : MethodName) ({ cls := "ClaimTriangle$Reckoner", name := "toReserve", desc := "(II)V" } : MethodName)) ∈ Wds := List.mem_filter.mpr ⟨List.mem_append_right _ (List.mem_of_getElem? (i := 610) (by decide +kernel)), by decide +kernel⟩
theorem wd_611 : (Cond.code ({ cls := "ClaimTriangle$Reckoner", name := "toReserve", desc := "(II)V" } : MethodName) prog_4_method_6_code (3 : Nat) (Option.none : Option FieldType)) ∈ Wds := List.mem_filter.mpr ⟨List.mem_append_right _ (List.mem_of_getElem? (i := 611) (by decide +kernel)), by decide +kernel⟩
theorem wd_612 : (Cond.methodLink "ClaimTriangle$Reckoner" (99 : Nat) ({ cls := "ClaimTriangle$Reckoner", name := "toUltimate", desc := "(II)V" } : MethodName)) ∈ Wds := List.mem_filter.mpr ⟨List.mem_append_right _ (List.mem_of_getElem? (i := 612) (by decide +kernel)), by decide +kernel⟩
theorem wd_620 : (Cond.methodLink "ClaimTriangle" (159 : Nat) ({ cls := "ClaimTriangle$Fraction", name := "nearest", desc := "()J" } : MethodName)) ∈ Wds := List.mem_filter.mpr ⟨List.mem_append_right _ (List.mem_of_getElem? (i := 620) (by decide +kernel)), by decide +kernel⟩
theorem wd_621 : (Cond.instanceMethod ({ cls := "ClaimTriangle$Fraction", name := "nearest", desc := "()J" } : MethodName)) ∈ Wds := List.mem_filter.mpr ⟨List.mem_append_right _ (List.mem_of_getElem? (i := 621) (by decide +kernel)), by decide +kernel⟩
theorem wd_622 : (Cond.selects "ClaimTriangle$Fraction" ({ cls := "ClaimTriangle$Fraction", name := "nearest", desc := "()J" } : MethodName) ({ cls := "ClaimTriangle$Fraction", name := "nearest", desc := "()J" } : MethodName)) ∈ Wds := List.mem_filter.mpr ⟨List.mem_append_right _ (List.mem_of_getElem? (i := 622) (by decide +kernel)), by decide +kernel⟩
theorem wd_623 : (Cond.code ({ cls := "ClaimTriangle$Fraction", name := "nearest", desc := "()J" } : MethodName) prog_2_method_9_code (5 : Nat) (Option.some FieldType.long)) ∈ Wds := List.mem_filter.mpr ⟨List.mem_append_right _ (List.mem_of_getElem? (i := 623) (by decide +kernel)), by decide +kernel⟩
theorem wd_624 : (Cond.methodLink "ClaimTriangle$Fraction" (44 : Nat) ({ cls := "java/lang/Math", name := "floorDiv", desc := "(JJ)J" } : MethodName)) ∈ Wds := List.mem_filter.mpr ⟨List.mem_append_right _ (List.mem_of_getElem? (i := 624) (by decide +kernel)), by decide +kernel⟩
theorem wd_625 : (Cond.static ({ cls := "java/lang/Math", name := "floorDiv", desc := "(JJ)J" } : MethodName)) ∈ Wds := List.mem_filter.mpr ⟨List.mem_append_right _ (List.mem_of_getElem? (i := 625) (by decide +kernel)), by decide +kernel⟩
theorem wd_626 : (Cond.code ({ cls := "java/lang/Math", name := "floorDiv", desc := "(JJ)J" } : MethodName) prog_13_method_49_code (6 : Nat) (Option.some FieldType.long)) ∈ Wds := List.mem_filter.mpr ⟨List.mem_append_right _ (List.mem_of_getElem? (i := 626) (by decide +kernel)), by decide +kernel⟩
theorem wd_634 : (Cond.methodLink "ClaimTriangle" (163 : Nat) ({ cls := "ClaimTriangle$Reckoner", name := "toTotal", desc := "(I)V" } : MethodName)) ∈ Wds := List.mem_filter.mpr ⟨List.mem_append_right _ (List.mem_of_getElem? (i := 634) (by decide +kernel)), by decide +kernel⟩
theorem wd_635 : (Cond.instanceMethod ({ cls := "ClaimTriangle$Reckoner", name := "toTotal", desc := "(I)V" } : MethodName)) ∈ Wds := List.mem_filter.mpr ⟨List.mem_append_right _ (List.mem_of_getElem? (i := 635) (by decide +kernel)), by decide +kernel⟩
theorem wd_636 : (Cond.selects "ClaimTriangle$Reckoner" ({ cls := "ClaimTriangle$Reckoner", name := "toTotal", desc := "(I)V" } : MethodName) ({ cls := "ClaimTriangle$Reckoner", name := "toTotal", desc := "(I)V" } : MethodName)) ∈ Wds := List.mem_filter.mpr ⟨List.mem_append_right _ (List.mem_of_getElem? (i := 636) (by decide +kernel)), by decide +kernel⟩
theorem wd_637 : (Cond.code ({ cls := "ClaimTriangle$Reckoner", name := "toTotal", desc := "(I)V" } : MethodName) prog_4_method_7_code (3 : Nat) (Option.none : Option FieldType)) ∈ Wds := List.mem_filter.mpr ⟨List.mem_append_right _ (List.mem_of_getElem? (i := 637) (by decide +kernel)), by decide +kernel⟩
theorem wd_638 : (Cond.methodLink "ClaimTriangle$Reckoner" (108 : Nat) ({ cls := "ClaimTriangle$Reckoner", name := "toReserve", desc := "(II)V" } : MethodName)) ∈ Wds := List.mem_filter.mpr ⟨List.mem_append_right _ (List.mem_of_getElem? (i := 638) (by decide +kernel)), by decide +kernel⟩
theorem wd_646 : (Cond.methodLink "ClaimTriangle" (166 : Nat) ({ cls := "ClaimTriangle$Reckoner", name := "markRows", desc := "(I)I" } : MethodName)) ∈ Wds := List.mem_filter.mpr ⟨List.mem_append_right _ (List.mem_of_getElem? (i := 646) (by decide +kernel)), by decide +kernel⟩
theorem wd_647 : (Cond.instanceMethod ({ cls := "ClaimTriangle$Reckoner", name := "markRows", desc := "(I)I" } : MethodName)) ∈ Wds := List.mem_filter.mpr ⟨List.mem_append_right _ (List.mem_of_getElem? (i := 647) (by decide +kernel)), by decide +kernel⟩
theorem wd_648 : (Cond.selects "ClaimTriangle$Reckoner" ({ cls := "ClaimTriangle$Reckoner", name := "markRows", desc := "(I)I" } : MethodName) ({ cls := "ClaimTriangle$Reckoner", name := "markRows", desc := "(I)I" } : MethodName)) ∈ Wds := List.mem_filter.mpr ⟨List.mem_append_right _ (List.mem_of_getElem? (i := 648) (by decide +kernel)), by decide +kernel⟩
theorem wd_649 : (Cond.code ({ cls := "ClaimTriangle$Reckoner", name := "markRows", desc := "(I)I" } : MethodName) prog_4_method_8_code (4 : Nat) (Option.some FieldType.int)) ∈ Wds := List.mem_filter.mpr ⟨List.mem_append_right _ (List.mem_of_getElem? (i := 649) (by decide +kernel)), by decide +kernel⟩
theorem wd_657 : (Cond.methodLink "ClaimTriangle" (170 : Nat) ({ cls := "ClaimTriangle$Reckoner", name := "toDeviation", desc := "(I)V" } : MethodName)) ∈ Wds := List.mem_filter.mpr ⟨List.mem_append_right _ (List.mem_of_getElem? (i := 657) (by decide +kernel)), by decide +kernel⟩
theorem wd_658 : (Cond.instanceMethod ({ cls := "ClaimTriangle$Reckoner", name := "toDeviation", desc := "(I)V" } : MethodName)) ∈ Wds := List.mem_filter.mpr ⟨List.mem_append_right _ (List.mem_of_getElem? (i := 658) (by decide +kernel)), by decide +kernel⟩
theorem wd_659 : (Cond.selects "ClaimTriangle$Reckoner" ({ cls := "ClaimTriangle$Reckoner", name := "toDeviation", desc := "(I)V" } : MethodName) ({ cls := "ClaimTriangle$Reckoner", name := "toDeviation", desc := "(I)V" } : MethodName)) ∈ Wds := List.mem_filter.mpr ⟨List.mem_append_right _ (List.mem_of_getElem? (i := 659) (by decide +kernel)), by decide +kernel⟩
theorem wd_660 : (Cond.code ({ cls := "ClaimTriangle$Reckoner", name := "toDeviation", desc := "(I)V" } : MethodName) prog_4_method_9_code (4 : Nat) (Option.none : Option FieldType)) ∈ Wds := List.mem_filter.mpr ⟨List.mem_append_right _ (List.mem_of_getElem? (i := 660) (by decide +kernel)), by decide +kernel⟩
theorem wd_661 : (Cond.methodLink "ClaimTriangle$Reckoner" (114 : Nat) ({ cls := "ClaimTriangle$Reckoner", name := "toSquare", desc := "(II)V" } : MethodName)) ∈ Wds := List.mem_filter.mpr ⟨List.mem_append_right _ (List.mem_of_getElem? (i := 661) (by decide +kernel)), by decide +kernel⟩
theorem wd_663 : (Cond.instanceMethod ({ cls := "ClaimTriangle$Reckoner", name := "toSquare", desc := "(II)V" } : MethodName)) ∈ Wds := List.mem_filter.mpr ⟨List.mem_append_right _ (List.mem_of_getElem? (i := 663) (by decide +kernel)), by decide +kernel⟩
theorem wd_664 : (Cond.code ({ cls := "ClaimTriangle$Reckoner", name := "toSquare", desc := "(II)V" } : MethodName) prog_4_method_10_code (3 : Nat) (Option.none : Option FieldType)) ∈ Wds := List.mem_filter.mpr ⟨List.mem_append_right _ (List.mem_of_getElem? (i := 664) (by decide +kernel)), by decide +kernel⟩
theorem wd_665 : (Cond.methodLink "ClaimTriangle$Reckoner" (117 : Nat) ({ cls := "java/lang/Math", name := "max", desc := "(II)I" } : MethodName)) ∈ Wds := List.mem_filter.mpr ⟨List.mem_append_right _ (List.mem_of_getElem? (i := 665) (by decide +kernel)), by decide +kernel⟩
theorem wd_673 : (Cond.methodLink "ClaimTriangle" (173 : Nat) ({ cls := "ClaimTriangle$Reckoner", name := "toError", desc := "(I)V" } : MethodName)) ∈ Wds := List.mem_filter.mpr ⟨List.mem_append_right _ (List.mem_of_getElem? (i := 673) (by decide +kernel)), by decide +kernel⟩
theorem wd_674 : (Cond.instanceMethod ({ cls := "ClaimTriangle$Reckoner", name := "toError", desc := "(I)V" } : MethodName)) ∈ Wds := List.mem_filter.mpr ⟨List.mem_append_right _ (List.mem_of_getElem? (i := 674) (by decide +kernel)), by decide +kernel⟩
theorem wd_675 : (Cond.selects "ClaimTriangle$Reckoner" ({ cls := "ClaimTriangle$Reckoner", name := "toError", desc := "(I)V" } : MethodName) ({ cls := "ClaimTriangle$Reckoner", name := "toError", desc := "(I)V" } : MethodName)) ∈ Wds := List.mem_filter.mpr ⟨List.mem_append_right _ (List.mem_of_getElem? (i := 675) (by decide +kernel)), by decide +kernel⟩
theorem wd_676 : (Cond.code ({ cls := "ClaimTriangle$Reckoner", name := "toError", desc := "(I)V" } : MethodName) prog_4_method_11_code (2 : Nat) (Option.none : Option FieldType)) ∈ Wds := List.mem_filter.mpr ⟨List.mem_append_right _ (List.mem_of_getElem? (i := 676) (by decide +kernel)), by decide +kernel⟩
theorem wd_684 : (Cond.methodLink "ClaimTriangle" (176 : Nat) ({ cls := "ClaimTriangle$Triangle", name := "growth", desc := "(I)I" } : MethodName)) ∈ Wds := List.mem_filter.mpr ⟨List.mem_append_right _ (List.mem_of_getElem? (i := 684) (by decide +kernel)), by decide +kernel⟩
theorem wd_685 : (Cond.instanceMethod ({ cls := "ClaimTriangle$Triangle", name := "growth", desc := "(I)I" } : MethodName)) ∈ Wds := List.mem_filter.mpr ⟨List.mem_append_right _ (List.mem_of_getElem? (i := 685) (by decide +kernel)), by decide +kernel⟩
theorem wd_686 : (Cond.selects "ClaimTriangle$Triangle" ({ cls := "ClaimTriangle$Triangle", name := "growth", desc := "(I)I" } : MethodName) ({ cls := "ClaimTriangle$Triangle", name := "growth", desc := "(I)I" } : MethodName)) ∈ Wds := List.mem_filter.mpr ⟨List.mem_append_right _ (List.mem_of_getElem? (i := 686) (by decide +kernel)), by decide +kernel⟩
theorem wd_687 : (Cond.code ({ cls := "ClaimTriangle$Triangle", name := "growth", desc := "(I)I" } : MethodName) prog_6_method_7_code (5 : Nat) (Option.some FieldType.int)) ∈ Wds := List.mem_filter.mpr ⟨List.mem_append_right _ (List.mem_of_getElem? (i := 687) (by decide +kernel)), by decide +kernel⟩
theorem wd_695 : (Cond.methodLink "ClaimTriangle" (180 : Nat) ({ cls := "ClaimTriangle$Ledger", name := "countLiving", desc := "()I" } : MethodName)) ∈ Wds := List.mem_filter.mpr ⟨List.mem_append_right _ (List.mem_of_getElem? (i := 695) (by decide +kernel)), by decide +kernel⟩
theorem wd_696 : (Cond.instanceMethod ({ cls := "ClaimTriangle$Ledger", name := "countLiving", desc := "()I" } : MethodName)) ∈ Wds := List.mem_filter.mpr ⟨List.mem_append_right _ (List.mem_of_getElem? (i := 696) (by decide +kernel)), by decide +kernel⟩
theorem wd_697 : (Cond.selects "ClaimTriangle$Ledger" ({ cls := "ClaimTriangle$Ledger", name := "countLiving", desc := "()I" } : MethodName) ({ cls := "ClaimTriangle$Ledger", name := "countLiving", desc := "()I" } : MethodName)) ∈ Wds := List.mem_filter.mpr ⟨List.mem_append_right _ (List.mem_of_getElem? (i := 697) (by decide +kernel)), by decide +kernel⟩
theorem wd_698 : (Cond.code ({ cls := "ClaimTriangle$Ledger", name := "countLiving", desc := "()I" } : MethodName) prog_3_method_4_code (3 : Nat) (Option.some FieldType.int)) ∈ Wds := List.mem_filter.mpr ⟨List.mem_append_right _ (List.mem_of_getElem? (i := 698) (by decide +kernel)), by decide +kernel⟩
theorem wd_699 : (Cond.methodLink "ClaimTriangle" (186 : Nat) ({ cls := "ClaimTriangle$Ledger", name := "sumPayments", desc := "(I)I" } : MethodName)) ∈ Wds := List.mem_filter.mpr ⟨List.mem_append_right _ (List.mem_of_getElem? (i := 699) (by decide +kernel)), by decide +kernel⟩
theorem wd_700 : (Cond.instanceMethod ({ cls := "ClaimTriangle$Ledger", name := "sumPayments", desc := "(I)I" } : MethodName)) ∈ Wds := List.mem_filter.mpr ⟨List.mem_append_right _ (List.mem_of_getElem? (i := 700) (by decide +kernel)), by decide +kernel⟩
theorem wd_701 : (Cond.selects "ClaimTriangle$Ledger" ({ cls := "ClaimTriangle$Ledger", name := "sumPayments", desc := "(I)I" } : MethodName) ({ cls := "ClaimTriangle$Ledger", name := "sumPayments", desc := "(I)I" } : MethodName)) ∈ Wds := List.mem_filter.mpr ⟨List.mem_append_right _ (List.mem_of_getElem? (i := 701) (by decide +kernel)), by decide +kernel⟩
theorem wd_702 : (Cond.code ({ cls := "ClaimTriangle$Ledger", name := "sumPayments", desc := "(I)I" } : MethodName) prog_3_method_5_code (4 : Nat) (Option.some FieldType.int)) ∈ Wds := List.mem_filter.mpr ⟨List.mem_append_right _ (List.mem_of_getElem? (i := 702) (by decide +kernel)), by decide +kernel⟩
theorem wd_710 : (Cond.fieldLink "ClaimTriangleModel" (55 : Nat) "ClaimTriangleModel" "thrown" "I") ∈ Wds := List.mem_filter.mpr ⟨List.mem_append_right _ (List.mem_of_getElem? (i := 710) (by decide +kernel)), by decide +kernel⟩
theorem wd_711 : (Cond.fieldLink "ClaimTriangleModel" (66 : Nat) "ClaimTriangleModel" "entries" "I") ∈ Wds := List.mem_filter.mpr ⟨List.mem_append_right _ (List.mem_of_getElem? (i := 711) (by decide +kernel)), by decide +kernel⟩
theorem wd_712 : (Cond.fieldLink "ClaimTriangleModel" (7 : Nat) "ClaimTriangleModel" "lines" "[I") ∈ Wds := List.mem_filter.mpr ⟨List.mem_append_right _ (List.mem_of_getElem? (i := 712) (by decide +kernel)), by decide +kernel⟩
theorem wd_713 : (Cond.fieldLink "ClaimTriangleModel" (13 : Nat) "ClaimTriangleModel" "origins" "[I") ∈ Wds := List.mem_filter.mpr ⟨List.mem_append_right _ (List.mem_of_getElem? (i := 713) (by decide +kernel)), by decide +kernel⟩
theorem wd_714 : (Cond.fieldLink "ClaimTriangleModel" (16 : Nat) "ClaimTriangleModel" "months" "[I") ∈ Wds := List.mem_filter.mpr ⟨List.mem_append_right _ (List.mem_of_getElem? (i := 714) (by decide +kernel)), by decide +kernel⟩
theorem wd_715 : (Cond.fieldLink "ClaimTriangleModel" (19 : Nat) "ClaimTriangleModel" "amounts" "[I") ∈ Wds := List.mem_filter.mpr ⟨List.mem_append_right _ (List.mem_of_getElem? (i := 715) (by decide +kernel)), by decide +kernel⟩
theorem wd_716 : (Cond.fieldLink "ClaimTriangleModel" (22 : Nat) "ClaimTriangleModel" "pays" "[Z") ∈ Wds := List.mem_filter.mpr ⟨List.mem_append_right _ (List.mem_of_getElem? (i := 716) (by decide +kernel)), by decide +kernel⟩
theorem wd_717 : (Cond.fieldLink "ClaimTriangleModel" (26 : Nat) "ClaimTriangleModel" "struck" "[Z") ∈ Wds := List.mem_filter.mpr ⟨List.mem_append_right _ (List.mem_of_getElem? (i := 717) (by decide +kernel)), by decide +kernel⟩
theorem wd_718 : (Cond.fieldLink "ClaimTriangleModel" (29 : Nat) "ClaimTriangleModel" "premiums" "[I") ∈ Wds := List.mem_filter.mpr ⟨List.mem_append_right _ (List.mem_of_getElem? (i := 718) (by decide +kernel)), by decide +kernel⟩
theorem wd_719 : (Cond.fieldLink "ClaimTriangleModel" (32 : Nat) "ClaimTriangleModel" "ups" "[J") ∈ Wds := List.mem_filter.mpr ⟨List.mem_append_right _ (List.mem_of_getElem? (i := 719) (by decide +kernel)), by decide +kernel⟩
theorem wd_720 : (Cond.fieldLink "ClaimTriangleModel" (36 : Nat) "ClaimTriangleModel" "downs" "[J") ∈ Wds := List.mem_filter.mpr ⟨List.mem_append_right _ (List.mem_of_getElem? (i := 720) (by decide +kernel)), by decide +kernel⟩
theorem wd_721 : (Cond.fieldLink "ClaimTriangleModel" (80 : Nat) "ClaimTriangleModel" "line" "I") ∈ Wds := List.mem_filter.mpr ⟨List.mem_append_right _ (List.mem_of_getElem? (i := 721) (by decide +kernel)), by decide +kernel⟩
theorem wd_722 : (Cond.fieldLink "ClaimTriangleModel" (39 : Nat) "ClaimTriangleModel" "step" "I") ∈ Wds := List.mem_filter.mpr ⟨List.mem_append_right _ (List.mem_of_getElem? (i := 722) (by decide +kernel)), by decide +kernel⟩
theorem wd_723 : (Cond.fieldLink "ClaimTriangleModel" (83 : Nat) "ClaimTriangleModel" "incurred" "Z") ∈ Wds := List.mem_filter.mpr ⟨List.mem_append_right _ (List.mem_of_getElem? (i := 723) (by decide +kernel)), by decide +kernel⟩
theorem wd_724 : (Cond.fieldLink "ClaimTriangleModel" (43 : Nat) "ClaimTriangleModel" "all" "I") ∈ Wds := List.mem_filter.mpr ⟨List.mem_append_right _ (List.mem_of_getElem? (i := 724) (by decide +kernel)), by decide +kernel⟩
theorem wd_725 : (Cond.fieldLink "ClaimTriangleModel" (87 : Nat) "ClaimTriangleModel" "hidden" "I") ∈ Wds := List.mem_filter.mpr ⟨List.mem_append_right _ (List.mem_of_getElem? (i := 725) (by decide +kernel)), by decide +kernel⟩
theorem wd_726 : (Cond.fieldLink "ClaimTriangleModel" (46 : Nat) "ClaimTriangleModel" "recent" "I") ∈ Wds := List.mem_filter.mpr ⟨List.mem_append_right _ (List.mem_of_getElem? (i := 726) (by decide +kernel)), by decide +kernel⟩
theorem wd_727 : (Cond.fieldLink "ClaimTriangleModel" (49 : Nat) "ClaimTriangleModel" "out" "[Z") ∈ Wds := List.mem_filter.mpr ⟨List.mem_append_right _ (List.mem_of_getElem? (i := 727) (by decide +kernel)), by decide +kernel⟩
theorem wd_728 : (Cond.fieldLink "ClaimTriangleModel" (52 : Nat) "ClaimTriangleModel" "cells" "[I") ∈ Wds := List.mem_filter.mpr ⟨List.mem_append_right _ (List.mem_of_getElem? (i := 728) (by decide +kernel)), by decide +kernel⟩
theorem wd_729 : (Cond.fieldLink "ClaimTriangleModel" (114 : Nat) "ClaimTriangleModel" "x" "J") ∈ Wds := List.mem_filter.mpr ⟨List.mem_append_right _ (List.mem_of_getElem? (i := 729) (by decide +kernel)), by decide +kernel⟩
theorem wd_730 : (Cond.fieldLink "ClaimTriangleModel" (118 : Nat) "ClaimTriangleModel" "y" "J") ∈ Wds := List.mem_filter.mpr ⟨List.mem_append_right _ (List.mem_of_getElem? (i := 730) (by decide +kernel)), by decide +kernel⟩
theorem wd_731 : (Cond.fieldLink "ClaimTriangleModel" (97 : Nat) "ClaimTriangleModel" "tooLong" "Z") ∈ Wds := List.mem_filter.mpr ⟨List.mem_append_right _ (List.mem_of_getElem? (i := 731) (by decide +kernel)), by decide +kernel⟩
theorem wd_732 : (Cond.fieldLink "ClaimTriangleModel" (146 : Nat) "ClaimTriangleModel" "sideUp" "J") ∈ Wds := List.mem_filter.mpr ⟨List.mem_append_right _ (List.mem_of_getElem? (i := 732) (by decide +kernel)), by decide +kernel⟩
theorem wd_733 : (Cond.fieldLink "ClaimTriangleModel" (149 : Nat) "ClaimTriangleModel" "sideDown" "J") ∈ Wds := List.mem_filter.mpr ⟨List.mem_append_right _ (List.mem_of_getElem? (i := 733) (by decide +kernel)), by decide +kernel⟩
theorem wd_734 : (Cond.fieldLink "ClaimTriangleModel" (134 : Nat) "ClaimTriangleModel" "factorUp" "J") ∈ Wds := List.mem_filter.mpr ⟨List.mem_append_right _ (List.mem_of_getElem? (i := 734) (by decide +kernel)), by decide +kernel⟩
theorem wd_735 : (Cond.fieldLink "ClaimTriangleModel" (137 : Nat) "ClaimTriangleModel" "factorDown" "J") ∈ Wds := List.mem_filter.mpr ⟨List.mem_append_right _ (List.mem_of_getElem? (i := 735) (by decide +kernel)), by decide +kernel⟩
theorem wd_798 : (Cond.methodLink "ClaimTriangleModel" (69 : Nat) ({ cls := "ClaimTriangleModel", name := "enter", desc := "(IIIIZ)I" } : MethodName)) ∈ Wds := List.mem_filter.mpr ⟨List.mem_append_right _ (List.mem_of_getElem? (i := 798) (by decide +kernel)), by decide +kernel⟩
theorem wd_800 : (Cond.instanceMethod ({ cls := "ClaimTriangleModel", name := "enter", desc := "(IIIIZ)I" } : MethodName)) ∈ Wds := List.mem_filter.mpr ⟨List.mem_append_right _ (List.mem_of_getElem? (i := 800) (by decide +kernel)), by decide +kernel⟩
theorem wd_801 : (Cond.code ({ cls := "ClaimTriangleModel", name := "enter", desc := "(IIIIZ)I" } : MethodName) prog_8_method_5_code (7 : Nat) (Option.some FieldType.int)) ∈ Wds := List.mem_filter.mpr ⟨List.mem_append_right _ (List.mem_of_getElem? (i := 801) (by decide +kernel)), by decide +kernel⟩
theorem wd_802 : (Cond.methodLink "ClaimTriangleModel" (58 : Nat) ({ cls := "ClaimTriangleModel", name := "noLine", desc := "(I)Z" } : MethodName)) ∈ Wds := List.mem_filter.mpr ⟨List.mem_append_right _ (List.mem_of_getElem? (i := 802) (by decide +kernel)), by decide +kernel⟩
theorem wd_804 : (Cond.instanceMethod ({ cls := "ClaimTriangleModel", name := "noLine", desc := "(I)Z" } : MethodName)) ∈ Wds := List.mem_filter.mpr ⟨List.mem_append_right _ (List.mem_of_getElem? (i := 804) (by decide +kernel)), by decide +kernel⟩
theorem wd_805 : (Cond.code ({ cls := "ClaimTriangleModel", name := "noLine", desc := "(I)Z" } : MethodName) prog_8_method_3_code (2 : Nat) (Option.some FieldType.boolean)) ∈ Wds := List.mem_filter.mpr ⟨List.mem_append_right _ (List.mem_of_getElem? (i := 805) (by decide +kernel)), by decide +kernel⟩
theorem wd_806 : (Cond.methodLink "ClaimTriangleModel" (62 : Nat) ({ cls := "ClaimTriangleModel", name := "noMonths", desc := "(II)Z" } : MethodName)) ∈ Wds := List.mem_filter.mpr ⟨List.mem_append_right _ (List.mem_of_getElem? (i := 806) (by decide +kernel)), by decide +kernel⟩
theorem wd_808 : (Cond.instanceMethod ({ cls := "ClaimTriangleModel", name := "noMonths", desc := "(II)Z" } : MethodName)) ∈ Wds := List.mem_filter.mpr ⟨List.mem_append_right _ (List.mem_of_getElem? (i := 808) (by decide +kernel)), by decide +kernel⟩
theorem wd_809 : (Cond.code ({ cls := "ClaimTriangleModel", name := "noMonths", desc := "(II)Z" } : MethodName) prog_8_method_4_code (3 : Nat) (Option.some FieldType.boolean)) ∈ Wds := List.mem_filter.mpr ⟨List.mem_append_right _ (List.mem_of_getElem? (i := 809) (by decide +kernel)), by decide +kernel⟩
theorem wd_818 : (Cond.methodLink "ClaimTriangleModel" (73 : Nat) ({ cls := "ClaimTriangleModel", name := "noEntry", desc := "(I)Z" } : MethodName)) ∈ Wds := List.mem_filter.mpr ⟨List.mem_append_right _ (List.mem_of_getElem? (i := 818) (by decide +kernel)), by decide +kernel⟩
theorem wd_820 : (Cond.instanceMethod ({ cls := "ClaimTriangleModel", name := "noEntry", desc := "(I)Z" } : MethodName)) ∈ Wds := List.mem_filter.mpr ⟨List.mem_append_right _ (List.mem_of_getElem? (i := 820) (by decide +kernel)), by decide +kernel⟩
theorem wd_821 : (Cond.code ({ cls := "ClaimTriangleModel", name := "noEntry", desc := "(I)Z" } : MethodName) prog_8_method_8_code (2 : Nat) (Option.some FieldType.boolean)) ∈ Wds := List.mem_filter.mpr ⟨List.mem_append_right _ (List.mem_of_getElem? (i := 821) (by decide +kernel)), by decide +kernel⟩
theorem wd_834 : (Cond.methodLink "ClaimTriangleModel" (76 : Nat) ({ cls := "ClaimTriangleModel", name := "divisor", desc := "(JJ)J" } : MethodName)) ∈ Wds := List.mem_filter.mpr ⟨List.mem_append_right _ (List.mem_of_getElem? (i := 834) (by decide +kernel)), by decide +kernel⟩
theorem wd_836 : (Cond.instanceMethod ({ cls := "ClaimTriangleModel", name := "divisor", desc := "(JJ)J" } : MethodName)) ∈ Wds := List.mem_filter.mpr ⟨List.mem_append_right _ (List.mem_of_getElem? (i := 836) (by decide +kernel)), by decide +kernel⟩
theorem wd_837 : (Cond.code ({ cls := "ClaimTriangleModel", name := "divisor", desc := "(JJ)J" } : MethodName) prog_8_method_23_code (11 : Nat) (Option.some FieldType.long)) ∈ Wds := List.mem_filter.mpr ⟨List.mem_append_right _ (List.mem_of_getElem? (i := 837) (by decide +kernel)), by decide +kernel⟩
theorem wd_846 : (Cond.methodLink "ClaimTriangleModel" (100 : Nat) ({ cls := "ClaimTriangleModel", name := "left", desc := "()I" } : MethodName)) ∈ Wds := List.mem_filter.mpr ⟨List.mem_append_right _ (List.mem_of_getElem? (i := 846) (by decide +kernel)), by decide +kernel⟩
theorem wd_848 : (Cond.instanceMethod ({ cls := "ClaimTriangleModel", name := "left", desc := "()I" } : MethodName)) ∈ Wds := List.mem_filter.mpr ⟨List.mem_append_right _ (List.mem_of_getElem? (i := 848) (by decide +kernel)), by decide +kernel⟩
theorem wd_849 : (Cond.code ({ cls := "ClaimTriangleModel", name := "left", desc := "()I" } : MethodName) prog_8_method_17_code (1 : Nat) (Option.some FieldType.int)) ∈ Wds := List.mem_filter.mpr ⟨List.mem_append_right _ (List.mem_of_getElem? (i := 849) (by decide +kernel)), by decide +kernel⟩
theorem wd_850 : (Cond.methodLink "ClaimTriangleModel" (104 : Nat) ({ cls := "ClaimTriangleModel", name := "noCell", desc := "(III)Z" } : MethodName)) ∈ Wds := List.mem_filter.mpr ⟨List.mem_append_right _ (List.mem_of_getElem? (i := 850) (by decide +kernel)), by decide +kernel⟩
theorem wd_852 : (Cond.instanceMethod ({ cls := "ClaimTriangleModel", name := "noCell", desc := "(III)Z" } : MethodName)) ∈ Wds := List.mem_filter.mpr ⟨List.mem_append_right _ (List.mem_of_getElem? (i := 852) (by decide +kernel)), by decide +kernel⟩
theorem wd_853 : (Cond.code ({ cls := "ClaimTriangleModel", name := "noCell", desc := "(III)Z" } : MethodName) prog_8_method_18_code (4 : Nat) (Option.some FieldType.boolean)) ∈ Wds := List.mem_filter.mpr ⟨List.mem_append_right _ (List.mem_of_getElem? (i := 853) (by decide +kernel)), by decide +kernel⟩
theorem wd_854 : (Cond.methodLink "ClaimTriangleModel" (94 : Nat) ({ cls := "ClaimTriangleModel", name := "sumOf", desc := "(II)I" } : MethodName)) ∈ Wds := List.mem_filter.mpr ⟨List.mem_append_right _ (List.mem_of_getElem? (i := 854) (by decide +kernel)), by decide +kernel⟩
theorem wd_856 : (Cond.instanceMethod ({ cls := "ClaimTriangleModel", name := "sumOf", desc := "(II)I" } : MethodName)) ∈ Wds := List.mem_filter.mpr ⟨List.mem_append_right _ (List.mem_of_getElem? (i := 856) (by decide +kernel)), by decide +kernel⟩
theorem wd_857 : (Cond.code ({ cls := "ClaimTriangleModel", name := "sumOf", desc := "(II)I" } : MethodName) prog_8_method_15_code (7 : Nat) (Option.some FieldType.int)) ∈ Wds := List.mem_filter.mpr ⟨List.mem_append_right _ (List.mem_of_getElem? (i := 857) (by decide +kernel)), by decide +kernel⟩
theorem wd_858 : (Cond.methodLink "ClaimTriangleModel" (90 : Nat) ({ cls := "ClaimTriangleModel", name := "estimateOf", desc := "(II)I" } : MethodName)) ∈ Wds := List.mem_filter.mpr ⟨List.mem_append_right _ (List.mem_of_getElem? (i := 858) (by decide +kernel)), by decide +kernel⟩
theorem wd_860 : (Cond.instanceMethod ({ cls := "ClaimTriangleModel", name := "estimateOf", desc := "(II)I" } : MethodName)) ∈ Wds := List.mem_filter.mpr ⟨List.mem_append_right _ (List.mem_of_getElem? (i := 860) (by decide +kernel)), by decide +kernel⟩
theorem wd_861 : (Cond.code ({ cls := "ClaimTriangleModel", name := "estimateOf", desc := "(II)I" } : MethodName) prog_8_method_14_code (6 : Nat) (Option.some FieldType.int)) ∈ Wds := List.mem_filter.mpr ⟨List.mem_append_right _ (List.mem_of_getElem? (i := 861) (by decide +kernel)), by decide +kernel⟩
theorem wd_878 : (Cond.methodLink "ClaimTriangleModel" (179 : Nat) ({ cls := "ClaimTriangleModel", name := "look", desc := "()V" } : MethodName)) ∈ Wds := List.mem_filter.mpr ⟨List.mem_append_right _ (List.mem_of_getElem? (i := 878) (by decide +kernel)), by decide +kernel⟩
theorem wd_880 : (Cond.instanceMethod ({ cls := "ClaimTriangleModel", name := "look", desc := "()V" } : MethodName)) ∈ Wds := List.mem_filter.mpr ⟨List.mem_append_right _ (List.mem_of_getElem? (i := 880) (by decide +kernel)), by decide +kernel⟩
theorem wd_881 : (Cond.code ({ cls := "ClaimTriangleModel", name := "look", desc := "()V" } : MethodName) prog_8_method_16_code (3 : Nat) (Option.none : Option FieldType)) ∈ Wds := List.mem_filter.mpr ⟨List.mem_append_right _ (List.mem_of_getElem? (i := 881) (by decide +kernel)), by decide +kernel⟩
theorem wd_882 : (Cond.methodLink "ClaimTriangleModel" (140 : Nat) ({ cls := "ClaimTriangleModel", name := "find", desc := "(II)Z" } : MethodName)) ∈ Wds := List.mem_filter.mpr ⟨List.mem_append_right _ (List.mem_of_getElem? (i := 882) (by decide +kernel)), by decide +kernel⟩
theorem wd_884 : (Cond.instanceMethod ({ cls := "ClaimTriangleModel", name := "find", desc := "(II)Z" } : MethodName)) ∈ Wds := List.mem_filter.mpr ⟨List.mem_append_right _ (List.mem_of_getElem? (i := 884) (by decide +kernel)), by decide +kernel⟩
theorem wd_885 : (Cond.code ({ cls := "ClaimTriangleModel", name := "find", desc := "(II)Z" } : MethodName) prog_8_method_31_code (11 : Nat) (Option.some FieldType.boolean)) ∈ Wds := List.mem_filter.mpr ⟨List.mem_append_right _ (List.mem_of_getElem? (i := 885) (by decide +kernel)), by decide +kernel⟩
theorem wd_886 : (Cond.methodLink "ClaimTriangleModel" (131 : Nat) ({ cls := "ClaimTriangleModel", name := "takes", desc := "(III)Z" } : MethodName)) ∈ Wds := List.mem_filter.mpr ⟨List.mem_append_right _ (List.mem_of_getElem? (i := 886) (by decide +kernel)), by decide +kernel⟩
theorem wd_888 : (Cond.instanceMethod ({ cls := "ClaimTriangleModel", name := "takes", desc := "(III)Z" } : MethodName)) ∈ Wds := List.mem_filter.mpr ⟨List.mem_append_right _ (List.mem_of_getElem? (i := 888) (by decide +kernel)), by decide +kernel⟩
theorem wd_889 : (Cond.code ({ cls := "ClaimTriangleModel", name := "takes", desc := "(III)Z" } : MethodName) prog_8_method_30_code (4 : Nat) (Option.some FieldType.boolean)) ∈ Wds := List.mem_filter.mpr ⟨List.mem_append_right _ (List.mem_of_getElem? (i := 889) (by decide +kernel)), by decide +kernel⟩
theorem wd_890 : (Cond.methodLink "ClaimTriangleModel" (108 : Nat) ({ cls := "ClaimTriangleModel", name := "size", desc := "(J)J" } : MethodName)) ∈ Wds := List.mem_filter.mpr ⟨List.mem_append_right _ (List.mem_of_getElem? (i := 890) (by decide +kernel)), by decide +kernel⟩
theorem wd_892 : (Cond.instanceMethod ({ cls := "ClaimTriangleModel", name := "size", desc := "(J)J" } : MethodName)) ∈ Wds := List.mem_filter.mpr ⟨List.mem_append_right _ (List.mem_of_getElem? (i := 892) (by decide +kernel)), by decide +kernel⟩
theorem wd_893 : (Cond.code ({ cls := "ClaimTriangleModel", name := "size", desc := "(J)J" } : MethodName) prog_8_method_24_code (3 : Nat) (Option.some FieldType.long)) ∈ Wds := List.mem_filter.mpr ⟨List.mem_append_right _ (List.mem_of_getElem? (i := 893) (by decide +kernel)), by decide +kernel⟩
theorem wd_894 : (Cond.methodLink "ClaimTriangleModel" (125 : Nat) ({ cls := "ClaimTriangleModel", name := "set", desc := "(JJ)V" } : MethodName)) ∈ Wds := List.mem_filter.mpr ⟨List.mem_append_right _ (List.mem_of_getElem? (i := 894) (by decide +kernel)), by decide +kernel⟩
theorem wd_896 : (Cond.instanceMethod ({ cls := "ClaimTriangleModel", name := "set", desc := "(JJ)V" } : MethodName)) ∈ Wds := List.mem_filter.mpr ⟨List.mem_append_right _ (List.mem_of_getElem? (i := 896) (by decide +kernel)), by decide +kernel⟩
theorem wd_897 : (Cond.code ({ cls := "ClaimTriangleModel", name := "set", desc := "(JJ)V" } : MethodName) prog_8_method_26_code (5 : Nat) (Option.none : Option FieldType)) ∈ Wds := List.mem_filter.mpr ⟨List.mem_append_right _ (List.mem_of_getElem? (i := 897) (by decide +kernel)), by decide +kernel⟩
theorem wd_898 : (Cond.methodLink "ClaimTriangleModel" (182 : Nat) ({ cls := "ClaimTriangleModel", name := "told", desc := "(IZ)J" } : MethodName)) ∈ Wds := List.mem_filter.mpr ⟨List.mem_append_right _ (List.mem_of_getElem? (i := 898) (by decide +kernel)), by decide +kernel⟩
theorem wd_900 : (Cond.instanceMethod ({ cls := "ClaimTriangleModel", name := "told", desc := "(IZ)J" } : MethodName)) ∈ Wds := List.mem_filter.mpr ⟨List.mem_append_right _ (List.mem_of_getElem? (i := 900) (by decide +kernel)), by decide +kernel⟩
theorem wd_901 : (Cond.code ({ cls := "ClaimTriangleModel", name := "told", desc := "(IZ)J" } : MethodName) prog_8_method_39_code (3 : Nat) (Option.some FieldType.long)) ∈ Wds := List.mem_filter.mpr ⟨List.mem_append_right _ (List.mem_of_getElem? (i := 901) (by decide +kernel)), by decide +kernel⟩
theorem wd_906 : (Cond.methodLink "ClaimTriangleModel" (186 : Nat) ({ cls := "ClaimTriangleModel", name := "noRow", desc := "(II)Z" } : MethodName)) ∈ Wds := List.mem_filter.mpr ⟨List.mem_append_right _ (List.mem_of_getElem? (i := 906) (by decide +kernel)), by decide +kernel⟩
theorem wd_908 : (Cond.instanceMethod ({ cls := "ClaimTriangleModel", name := "noRow", desc := "(II)Z" } : MethodName)) ∈ Wds := List.mem_filter.mpr ⟨List.mem_append_right _ (List.mem_of_getElem? (i := 908) (by decide +kernel)), by decide +kernel⟩
theorem wd_909 : (Cond.code ({ cls := "ClaimTriangleModel", name := "noRow", desc := "(II)Z" } : MethodName) prog_8_method_41_code (3 : Nat) (Option.some FieldType.boolean)) ∈ Wds := List.mem_filter.mpr ⟨List.mem_append_right _ (List.mem_of_getElem? (i := 909) (by decide +kernel)), by decide +kernel⟩
theorem wd_910 : (Cond.methodLink "ClaimTriangleModel" (176 : Nat) ({ cls := "ClaimTriangleModel", name := "work", desc := "(II)I" } : MethodName)) ∈ Wds := List.mem_filter.mpr ⟨List.mem_append_right _ (List.mem_of_getElem? (i := 910) (by decide +kernel)), by decide +kernel⟩
theorem wd_912 : (Cond.instanceMethod ({ cls := "ClaimTriangleModel", name := "work", desc := "(II)I" } : MethodName)) ∈ Wds := List.mem_filter.mpr ⟨List.mem_append_right _ (List.mem_of_getElem? (i := 912) (by decide +kernel)), by decide +kernel⟩
theorem wd_913 : (Cond.code ({ cls := "ClaimTriangleModel", name := "work", desc := "(II)I" } : MethodName) prog_8_method_37_code (5 : Nat) (Option.some FieldType.int)) ∈ Wds := List.mem_filter.mpr ⟨List.mem_append_right _ (List.mem_of_getElem? (i := 913) (by decide +kernel)), by decide +kernel⟩
theorem wd_914 : (Cond.methodLink "ClaimTriangleModel" (152 : Nat) ({ cls := "ClaimTriangleModel", name := "expect", desc := "(I)V" } : MethodName)) ∈ Wds := List.mem_filter.mpr ⟨List.mem_append_right _ (List.mem_of_getElem? (i := 914) (by decide +kernel)), by decide +kernel⟩
theorem wd_916 : (Cond.instanceMethod ({ cls := "ClaimTriangleModel", name := "expect", desc := "(I)V" } : MethodName)) ∈ Wds := List.mem_filter.mpr ⟨List.mem_append_right _ (List.mem_of_getElem? (i := 916) (by decide +kernel)), by decide +kernel⟩
theorem wd_917 : (Cond.code ({ cls := "ClaimTriangleModel", name := "expect", desc := "(I)V" } : MethodName) prog_8_method_36_code (5 : Nat) (Option.none : Option FieldType)) ∈ Wds := List.mem_filter.mpr ⟨List.mem_append_right _ (List.mem_of_getElem? (i := 917) (by decide +kernel)), by decide +kernel⟩
theorem wd_918 : (Cond.methodLink "ClaimTriangleModel" (143 : Nat) ({ cls := "ClaimTriangleModel", name := "times", desc := "(JJ)V" } : MethodName)) ∈ Wds := List.mem_filter.mpr ⟨List.mem_append_right _ (List.mem_of_getElem? (i := 918) (by decide +kernel)), by decide +kernel⟩
theorem wd_920 : (Cond.instanceMethod ({ cls := "ClaimTriangleModel", name := "times", desc := "(JJ)V" } : MethodName)) ∈ Wds := List.mem_filter.mpr ⟨List.mem_append_right _ (List.mem_of_getElem? (i := 920) (by decide +kernel)), by decide +kernel⟩
theorem wd_921 : (Cond.code ({ cls := "ClaimTriangleModel", name := "times", desc := "(JJ)V" } : MethodName) prog_8_method_27_code (13 : Nat) (Option.none : Option FieldType)) ∈ Wds := List.mem_filter.mpr ⟨List.mem_append_right _ (List.mem_of_getElem? (i := 921) (by decide +kernel)), by decide +kernel⟩
theorem wd_922 : (Cond.methodLink "ClaimTriangleModel" (121 : Nat) ({ cls := "ClaimTriangleModel", name := "isShort", desc := "(JJ)Z" } : MethodName)) ∈ Wds := List.mem_filter.mpr ⟨List.mem_append_right _ (List.mem_of_getElem? (i := 922) (by decide +kernel)), by decide +kernel⟩
theorem wd_924 : (Cond.instanceMethod ({ cls := "ClaimTriangleModel", name := "isShort", desc := "(JJ)Z" } : MethodName)) ∈ Wds := List.mem_filter.mpr ⟨List.mem_append_right _ (List.mem_of_getElem? (i := 924) (by decide +kernel)), by decide +kernel⟩
theorem wd_925 : (Cond.code ({ cls := "ClaimTriangleModel", name := "isShort", desc := "(JJ)Z" } : MethodName) prog_8_method_25_code (5 : Nat) (Option.some FieldType.boolean)) ∈ Wds := List.mem_filter.mpr ⟨List.mem_append_right _ (List.mem_of_getElem? (i := 925) (by decide +kernel)), by decide +kernel⟩
theorem wd_926 : (Cond.constantLong "ClaimTriangleModel" (112 : Nat) (4611686018427387904 : Int64)) ∈ Wds := List.mem_filter.mpr ⟨List.mem_append_right _ (List.mem_of_getElem? (i := 926) (by decide +kernel)), by decide +kernel⟩
theorem wd_927 : (Cond.methodLink "ClaimTriangleModel" (156 : Nat) ({ cls := "ClaimTriangleModel", name := "answer", desc := "()I" } : MethodName)) ∈ Wds := List.mem_filter.mpr ⟨List.mem_append_right _ (List.mem_of_getElem? (i := 927) (by decide +kernel)), by decide +kernel⟩
theorem wd_929 : (Cond.instanceMethod ({ cls := "ClaimTriangleModel", name := "answer", desc := "()I" } : MethodName)) ∈ Wds := List.mem_filter.mpr ⟨List.mem_append_right _ (List.mem_of_getElem? (i := 929) (by decide +kernel)), by decide +kernel⟩
theorem wd_930 : (Cond.code ({ cls := "ClaimTriangleModel", name := "answer", desc := "()I" } : MethodName) prog_8_method_34_code (1 : Nat) (Option.some FieldType.int)) ∈ Wds := List.mem_filter.mpr ⟨List.mem_append_right _ (List.mem_of_getElem? (i := 930) (by decide +kernel)), by decide +kernel⟩
theorem wd_931 : (Cond.methodLink "ClaimTriangleModel" (159 : Nat) ({ cls := "ClaimTriangleModel", name := "areDefined", desc := "(III)Z" } : MethodName)) ∈ Wds := List.mem_filter.mpr ⟨List.mem_append_right _ (List.mem_of_getElem? (i := 931) (by decide +kernel)), by decide +kernel⟩
theorem wd_933 : (Cond.instanceMethod ({ cls := "ClaimTriangleModel", name := "areDefined", desc := "(III)Z" } : MethodName)) ∈ Wds := List.mem_filter.mpr ⟨List.mem_append_right _ (List.mem_of_getElem? (i := 933) (by decide +kernel)), by decide +kernel⟩
theorem wd_934 : (Cond.code ({ cls := "ClaimTriangleModel", name := "areDefined", desc := "(III)Z" } : MethodName) prog_8_method_32_code (6 : Nat) (Option.some FieldType.boolean)) ∈ Wds := List.mem_filter.mpr ⟨List.mem_append_right _ (List.mem_of_getElem? (i := 934) (by decide +kernel)), by decide +kernel⟩
theorem wd_935 : (Cond.methodLink "ClaimTriangleModel" (162 : Nat) ({ cls := "ClaimTriangleModel", name := "way", desc := "(III)V" } : MethodName)) ∈ Wds := List.mem_filter.mpr ⟨List.mem_append_right _ (List.mem_of_getElem? (i := 935) (by decide +kernel)), by decide +kernel⟩
theorem wd_937 : (Cond.instanceMethod ({ cls := "ClaimTriangleModel", name := "way", desc := "(III)V" } : MethodName)) ∈ Wds := List.mem_filter.mpr ⟨List.mem_append_right _ (List.mem_of_getElem? (i := 937) (by decide +kernel)), by decide +kernel⟩
theorem wd_938 : (Cond.code ({ cls := "ClaimTriangleModel", name := "way", desc := "(III)V" } : MethodName) prog_8_method_33_code (5 : Nat) (Option.none : Option FieldType)) ∈ Wds := List.mem_filter.mpr ⟨List.mem_append_right _ (List.mem_of_getElem? (i := 938) (by decide +kernel)), by decide +kernel⟩
theorem wd_939 : (Cond.methodLink "ClaimTriangleModel" (166 : Nat) ({ cls := "ClaimTriangleModel", name := "latestOf", desc := "(I)I" } : MethodName)) ∈ Wds := List.mem_filter.mpr ⟨List.mem_append_right _ (List.mem_of_getElem? (i := 939) (by decide +kernel)), by decide +kernel⟩
theorem wd_941 : (Cond.instanceMethod ({ cls := "ClaimTriangleModel", name := "latestOf", desc := "(I)I" } : MethodName)) ∈ Wds := List.mem_filter.mpr ⟨List.mem_append_right _ (List.mem_of_getElem? (i := 941) (by decide +kernel)), by decide +kernel⟩
theorem wd_942 : (Cond.code ({ cls := "ClaimTriangleModel", name := "latestOf", desc := "(I)I" } : MethodName) prog_8_method_35_code (2 : Nat) (Option.some FieldType.int)) ∈ Wds := List.mem_filter.mpr ⟨List.mem_append_right _ (List.mem_of_getElem? (i := 942) (by decide +kernel)), by decide +kernel⟩
theorem wd_943 : (Cond.methodLink "ClaimTriangleModel" (170 : Nat) ({ cls := "ClaimTriangleModel", name := "turn", desc := "()V" } : MethodName)) ∈ Wds := List.mem_filter.mpr ⟨List.mem_append_right _ (List.mem_of_getElem? (i := 943) (by decide +kernel)), by decide +kernel⟩
theorem wd_945 : (Cond.instanceMethod ({ cls := "ClaimTriangleModel", name := "turn", desc := "()V" } : MethodName)) ∈ Wds := List.mem_filter.mpr ⟨List.mem_append_right _ (List.mem_of_getElem? (i := 945) (by decide +kernel)), by decide +kernel⟩
theorem wd_946 : (Cond.code ({ cls := "ClaimTriangleModel", name := "turn", desc := "()V" } : MethodName) prog_8_method_29_code (1 : Nat) (Option.none : Option FieldType)) ∈ Wds := List.mem_filter.mpr ⟨List.mem_append_right _ (List.mem_of_getElem? (i := 946) (by decide +kernel)), by decide +kernel⟩
theorem wd_947 : (Cond.methodLink "ClaimTriangleModel" (173 : Nat) ({ cls := "ClaimTriangleModel", name := "plus", desc := "(JJ)V" } : MethodName)) ∈ Wds := List.mem_filter.mpr ⟨List.mem_append_right _ (List.mem_of_getElem? (i := 947) (by decide +kernel)), by decide +kernel⟩
theorem wd_949 : (Cond.instanceMethod ({ cls := "ClaimTriangleModel", name := "plus", desc := "(JJ)V" } : MethodName)) ∈ Wds := List.mem_filter.mpr ⟨List.mem_append_right _ (List.mem_of_getElem? (i := 949) (by decide +kernel)), by decide +kernel⟩
theorem wd_950 : (Cond.code ({ cls := "ClaimTriangleModel", name := "plus", desc := "(JJ)V" } : MethodName) prog_8_method_28_code (15 : Nat) (Option.none : Option FieldType)) ∈ Wds := List.mem_filter.mpr ⟨List.mem_append_right _ (List.mem_of_getElem? (i := 950) (by decide +kernel)), by decide +kernel⟩
theorem wd_951 : (Cond.constantLong "ClaimTriangleModel" (129 : Nat) (-4611686018427387904 : Int64)) ∈ Wds := List.mem_filter.mpr ⟨List.mem_append_right _ (List.mem_of_getElem? (i := 951) (by decide +kernel)), by decide +kernel⟩
theorem wd_956 : (Cond.methodLink "ClaimTriangleModel" (189 : Nat) ({ cls := "ClaimTriangleModel", name := "workReserve", desc := "(II)I" } : MethodName)) ∈ Wds := List.mem_filter.mpr ⟨List.mem_append_right _ (List.mem_of_getElem? (i := 956) (by decide +kernel)), by decide +kernel⟩
theorem wd_958 : (Cond.instanceMethod ({ cls := "ClaimTriangleModel", name := "workReserve", desc := "(II)I" } : MethodName)) ∈ Wds := List.mem_filter.mpr ⟨List.mem_append_right _ (List.mem_of_getElem? (i := 958) (by decide +kernel)), by decide +kernel⟩
theorem wd_959 : (Cond.code ({ cls := "ClaimTriangleModel", name := "workReserve", desc := "(II)I" } : MethodName) prog_8_method_38_code (4 : Nat) (Option.some FieldType.int)) ∈ Wds := List.mem_filter.mpr ⟨List.mem_append_right _ (List.mem_of_getElem? (i := 959) (by decide +kernel)), by decide +kernel⟩
theorem wd_976 : (Cond.constantLong "ClaimTriangleModel" (192 : Nat) (-1 : Int64)) ∈ Wds := List.mem_filter.mpr ⟨List.mem_append_right _ (List.mem_of_getElem? (i := 976) (by decide +kernel)), by decide +kernel⟩
end
section
/-! the world: places 0 .. 34 the class's, 35 .. 46 the reference's, 47 the law's long[1]. g: where classes and fields lie, addresses by place, the array classes -/
abbrev Gx : Type := va_G × (Nat → Nat) × (Nat → ClassId)
def ct_ty (g : Gx) : List (ClassId × FieldType) := [(g.2.2 0, .int), (g.2.2 1, .boolean), (g.2.2 2, .long), (g.2.2 3, .array .int), (g.2.2 4, .object R_Fr)]
def cs_cell (g : Gx) (s : CS) (k : Nat) : va_E :=
  if k = 0 then .inr (5, [.ref (g.2.1 1), .ref (g.2.1 4), .ref (g.2.1 2), .ref (g.2.1 3)])
  else if k = 1 then .inr (1, [.ref (g.2.1 8), .ref (g.2.1 9), .ref (g.2.1 10), .ref (g.2.1 11), .ref (g.2.1 12), .ref (g.2.1 13), .int (cs_I s 0)])
  else if k = 2 then .inr (4, [.ref (g.2.1 5), .ref (g.2.1 14), .int (cs_I s 1), .int (cs_I s 2), .int (cs_I s 3), .int (cs_I s 4), .int (cs_I s 5)])
  else if k = 3 then .inr (3, [.ref (g.2.1 6), .ref (g.2.1 23), .ref (g.2.1 24), .ref (g.2.1 25), .int (cs_I s 6)])
  else if k = 4 then .inr (2, [.ref (g.2.1 2), .ref (g.2.1 3), .ref (g.2.1 7), .ref (g.2.1 31), .ref (g.2.1 32), .ref (g.2.1 33), .ref (g.2.1 34)])
  else if k = 5 then .inl (g.2.2 3, 6, .inr (.inr (.inr (.inr (fun i => if i < 6 then some (g.2.1 (15 + i)) else none)))))
  else if k = 6 then .inl (g.2.2 3, 2, .inr (.inr (.inr (.inr (fun i => if i < 2 then some (g.2.1 (21 + i)) else none)))))
  else if k = 7 then .inl (g.2.2 4, 5, .inr (.inr (.inr (.inr (fun i => if i < 5 then some (g.2.1 (26 + i)) else none)))))
  else if k < 12 then .inl (g.2.2 0, 60, .inl (cs_A s (k - 8)))
  else if k < 14 then .inl (g.2.2 1, 60, .inl (cs_A s (k - 8)))
  else if k < 15 then .inl (g.2.2 1, 36, .inl (cs_A s (k - 8)))
  else if k < 21 then .inl (g.2.2 0, 6, .inl (cs_R s (k - 15)))
  else if k < 23 then .inl (g.2.2 0, 72, .inl (cs_P s (k - 21)))
  else .inr (0, [.long (cs_F s (k - 23)).1, .long (cs_F s (k - 23)).2.1, .int (cs_F s (k - 23)).2.2])
def ms_cell (g : Gx) (s : MS) (k : Nat) : va_E :=
  if k = 35 then .inr (6, [.int (ms_I s 0), .int (ms_I s 1), .ref (g.2.1 36), .ref (g.2.1 37), .ref (g.2.1 38), .ref (g.2.1 39), .ref (g.2.1 40), .ref (g.2.1 41), .ref (g.2.1 42), .ref (g.2.1 43), .ref (g.2.1 44), .int (ms_I s 2), .int (ms_I s 3), .int (ms_I s 4), .int (ms_I s 5), .int (ms_I s 6), .int (ms_I s 7), .ref (g.2.1 45), .ref (g.2.1 46), .long (ms_L s 0), .long (ms_L s 1), .int (ms_I s 8), .long (ms_L s 2), .long (ms_L s 3), .long (ms_L s 4), .long (ms_L s 5)])
  else if k < 40 then .inl (g.2.2 0, 60, .inl (ms_A s (k - 36)))
  else if k < 42 then .inl (g.2.2 1, 60, .inl (ms_A s (k - 36)))
  else if k = 42 then .inl (g.2.2 0, 144, .inl (ms_A s 6))
  else if k < 45 then .inl (g.2.2 2, 3, .inr (.inl (ms_B s (k - 43))))
  else if k = 45 then .inl (g.2.2 1, 36, .inl (ms_A s 7))
  else .inl (g.2.2 0, 36, .inl (ms_A s 8))
def cs_Rel (g : Gx) (w0 ws : va_W) (s : CS) : Prop := (∀ k, k < 35 → ws[k]? = some (g.2.1 k, cs_cell g s k)) ∧ ∀ k, 35 ≤ k → ws[k]? = w0[k]?
def ms_Rel (g : Gx) (w0 ws : va_W) (s : MS) : Prop := (∀ k, 35 ≤ k → k < 47 → ws[k]? = some (g.2.1 k, ms_cell g s k)) ∧ ∀ k, (k < 35 ∨ 47 ≤ k) → ws[k]? = w0[k]?
theorem cs_Rel.put {g : Gx} {w0 ws : va_W} {s s' : CS} {k : Nat} {e : va_E} (h : cs_Rel g w0 ws s) (hk : k < 35) (he : cs_cell g s' k = e) (ho : ∀ j, j < 35 → j ≠ k → cs_cell g s' j = cs_cell g s j) : cs_Rel g w0 (ws.set k (g.2.1 k, e)) s' := by
  have hl : k < ws.length := (List.getElem?_eq_some_iff.mp (h.1 k hk)).1
  refine ⟨fun j hj => ?_, fun j hj => ?_⟩
  · by_cases hjk : j = k
    · subst hjk
      rw [List.getElem?_set_self hl, he]
    · rw [List.getElem?_set_ne (Ne.symm hjk), h.1 j hj, ho j hj hjk]
  · rw [List.getElem?_set_ne (by omega)]
    exact h.2 j hj
theorem ms_Rel.put {g : Gx} {w0 ws : va_W} {s s' : MS} {k : Nat} {e : va_E} (h : ms_Rel g w0 ws s) (h1 : 35 ≤ k) (hk : k < 47) (he : ms_cell g s' k = e) (ho : ∀ j, 35 ≤ j → j < 47 → j ≠ k → ms_cell g s' j = ms_cell g s j) : ms_Rel g w0 (ws.set k (g.2.1 k, e)) s' := by
  have hl : k < ws.length := (List.getElem?_eq_some_iff.mp (h.1 k h1 hk)).1
  refine ⟨fun j h2 hj => ?_, fun j hj => ?_⟩
  · by_cases hjk : j = k
    · subst hjk
      rw [List.getElem?_set_self hl, he]
    · rw [List.getElem?_set_ne (Ne.symm hjk), h.1 j h2 hj, ho j h2 hj hjk]
  · rw [List.getElem?_set_ne (by omega)]
    exact h.2 j hj

/-! what of the start the good words don't say: the classes, links across the nest, casts, strings, Throwable's two statics -/
def mn_AO (U : State) : Prop := ∃ (cI cA : ClassId) (kA : Class), U.vm.findClass (FieldType.array .int).toString = some cI ∧ U.vm.classes[cA]? = some kA ∧ kA.kind = .array cI (.array .int) ∧ U.vm.findClass ("[" ++ (FieldType.array .int).toString) = some cA
theorem mn_AO.moved {u U : State} (hvm : u.vm.Alike U.vm) (h : mn_AO u) : mn_AO U := by
  obtain ⟨cI, cA, kA, h1, h2, h3, h4⟩ := h
  obtain ⟨k', hk', he⟩ := hvm.2.2 _ _ h2
  exact ⟨cI, cA, k', by rw [hvm.findClass]; exact h1, hk', by rw [he]; exact h3, by rw [hvm.findClass]; exact h4⟩
def ct_Ex (U : State) : Prop := va_AO R_Fr U ∧ mn_AO U ∧ va_Nc "java/lang/IllegalStateException" "java/lang/IllegalArgumentException" U ∧ va_Nc "java/lang/ArithmeticException" "java/lang/IllegalArgumentException" U ∧ va_Nc "java/lang/UnsupportedOperationException" "java/lang/IllegalArgumentException" U ∧ va_Nc "java/lang/UnsupportedOperationException" "java/lang/ArithmeticException" U
theorem ct_Ex.moved {u U : State} (hvm : u.vm.Alike U.vm) (h : ct_Ex u) : ct_Ex U := ⟨va_AO.moved hvm h.1, mn_AO.moved hvm h.2.1, va_Nc.moved hvm h.2.2.1, va_Nc.moved hvm h.2.2.2.1, va_Nc.moved hvm h.2.2.2.2.1, va_Nc.moved hvm h.2.2.2.2.2⟩
def ct_Ev (g : Gx) (A : Nat → Prop) (U : State) (H : Heap) : Prop := va_K g.1 kl (ct_ty g) U ∧ (∀ w ∈ NW, va_Nw w U) ∧
  (∃ sa : Nat → Nat, ∀ q ∈ ct_str, vk_R R_CT q.1 q.2 (sa q.1) U) ∧ vx_Zq Bundle.tN "UNASSIGNED_STACK" Bundle.steD A U H ∧ vx_Zq Bundle.tN "SUPPRESSED_SENTINEL" Bundle.listD A U H ∧ ct_Ex U
theorem ct_NW_moved {s U : State} (hW : s.WarmedH U.vm) : ∀ w ∈ NW, va_Nw w s → va_Nw w U := by
  intro w hw h
  have h1 := (List.mem_filter.mp hw).2
  cases w <;> first | exact va_Nw.warmF hW h | exact va_Nw.warmM hW h | exact va_Nw.warmC hW h | exact va_Nw.warmD hW h | cases h1
theorem ct_NW_same {u U : State} (e : u.vm = U.vm) : ∀ w ∈ NW, va_Nw w u → va_Nw w U := by
  intro w hw h
  have h1 := (List.mem_filter.mp hw).2
  cases w <;> first | exact va_Nw.same rfl e h | cases h1
theorem ct_Ev.go {g : Gx} {A A' : Nat → Prop} {s U : State} {H : Heap} {locs : List Loc} (h : ct_Ev g A s s.heap) (hS : va_S A s.heap H locs) (hA : ∀ q, A' q → A q) (hW : s.WarmedH U.vm) : ct_Ev g A' U H := by
  obtain ⟨h1, h2, ⟨sa, h3⟩, h4, h5, h6⟩ := h
  exact ⟨va_K.moved hW.alike h1, fun w hw => ct_NW_moved hW w hw (h2 w hw), ⟨sa, fun q hq => (h3 q hq).warm hW⟩, ((h4.kept hS.2.1).moved hW.alike).narrow hA, ((h5.kept hS.2.1).moved hW.alike).narrow hA, h6.moved hW.alike⟩
theorem ct_Ev.same {g : Gx} {A : Nat → Prop} {u U : State} {H : Heap} (e : u.vm = U.vm) (h : ct_Ev g A u H) : ct_Ev g A U H := by
  obtain ⟨h1, h2, ⟨sa, h3⟩, h4, h5, h6⟩ := h
  have ha : u.vm.Alike U.vm := e ▸ Vm.Alike.refl u.vm
  exact ⟨va_K.moved ha h1, fun w hw => ct_NW_same e w hw (h2 w hw), ⟨sa, fun q hq => (h3 q hq).same e.symm⟩, h4.moved ha, h5.moved ha, h6.moved ha⟩
/-! a contract's start and end; what is fixed through a walk; the world at a point of it -/
def ct_Pre (g : Gx) (ws : va_W) (sz : Nat) (U : State) : Prop := U.heap.size = sz ∧ va_P g.1 kl ws U.heap ∧ va_D (fun _ => True) ws ∧ ct_Ev g (va_A ws sz) U U.heap
def ct_Pst (g : Gx) (A : Nat → Prop) (u : va_W) (t : State) : Prop := va_P g.1 kl u t.heap ∧ va_D A u
theorem ct_blind {g : Gx} {ws : va_W} {sz : Nat} {As : List Value} : FrameBlind (va_Pc As (ct_Pre g ws sz)) := fun a U g' mk h => ⟨h.1, h.2.1, h.2.2.1, h.2.2.2.1, ct_Ev.same (u := U) (U := U.calling g' mk a) rfl h.2.2.2.2⟩
abbrev ct_ws (y : MethodName) (c : ByteArray) (n : Nat) (ret : Option FieldType) : List Cond := Cond.code y c n ret :: Wds
abbrev ct_MI (l : Launch) (y : MethodName) (c : ByteArray) (n : Nat) (ret : Option FieldType) (rm : Room) (g : Gx) (ws : va_W) (sz : Nat) (As : List Value) (v : Int32) (PU : va_W → Prop) : Prop := Met l y (ct_ws y c n ret) rm (va_Pc As (ct_Pre g ws sz)) (va_Qi (fun r u => r = v ∧ PU u) (ct_Pst g (va_A ws sz)) (va_A ws sz)) 0 0 (va_A ws sz)
abbrev ct_ML (l : Launch) (y : MethodName) (c : ByteArray) (n : Nat) (ret : Option FieldType) (rm : Room) (g : Gx) (ws : va_W) (sz : Nat) (As : List Value) (v : Int64) (PU : va_W → Prop) : Prop := Met l y (ct_ws y c n ret) rm (va_Pc As (ct_Pre g ws sz)) (va_Ql (fun r u => r = v ∧ PU u) (ct_Pst g (va_A ws sz)) (va_A ws sz)) 0 0 (va_A ws sz)
abbrev ct_MV (l : Launch) (y : MethodName) (c : ByteArray) (n : Nat) (ret : Option FieldType) (rm : Room) (g : Gx) (ws : va_W) (sz : Nat) (As : List Value) (PU : va_W → Prop) : Prop := Met l y (ct_ws y c n ret) rm (va_Pc As (ct_Pre g ws sz)) (va_Qv PU (ct_Pst g (va_A ws sz)) (va_A ws sz)) 0 0 (va_A ws sz)
abbrev ct_MR (l : Launch) (y : MethodName) (c : ByteArray) (n : Nat) (ret : Option FieldType) (rm : Room) (g : Gx) (ws : va_W) (sz : Nat) (As : List Value) (a : Nat) (PU : va_W → Prop) : Prop := Met l y (ct_ws y c n ret) rm (va_Pc As (ct_Pre g ws sz)) (va_Qr PU (fun u b t => b = a ∧ ct_Pst g (va_A ws sz) u t) (va_A ws sz)) 0 0 (va_A ws sz)
def ct_Cx (own : String) (cc : ByteArray) (nL : Nat) (p : Program) (s : State) (m : MethodId) (args : Array Value) (meth : Method) (c : Code) (g : Gx) (A : Nat → Prop) : Prop :=
  p.tables.exec = Jvm.exec ∧ c.code = cc ∧ c.maxLocals = nL ∧ s.vm.findClass own = some m.cls ∧ (∀ w ∈ Wds, w.before args s = true) ∧ ct_Ev g A s s.heap ∧ (∀ q, s.heap.size ≤ q → A q) ∧ meth.locks = false
def ct_Wd (g : Gx) (A : Nat → Prop) (s : State) (ws : va_W) (H : Heap) (locs : List Loc) : Prop := va_P g.1 kl ws H ∧ va_D A ws ∧ va_S A s.heap H locs
/-! a method's start -/
theorem ct_start {l : Launch} {y : MethodName} {cc : ByteArray} {nL : Nat} {ret : Option FieldType} {rm : Room} {g : Gx} {ws : va_W} {sz : Nat} {As : List Value} {Qc : Array Value → State → Outcome → State → Prop} (hy : plainName y.cls = true) (hA : (lg_sl As).length ≤ nL)
    (body : ∀ p e s m below meth c ls, ct_Cx y.cls cc nL p s m As.toArray meth c g (va_A ws sz) → meth.sig.returnType = ret → s.heap.size = sz → lv_has ls nL (lv_args 0 As) → ct_Wd g (va_A ws sz) s ws s.heap [] →
      W p l e rm s m As.toArray below meth c s.heap [] 0 0 (MQ below Qc As.toArray s 0 0 (va_A ws sz)) (F0 m 0 ls [])) : Met l y (ct_ws y cc nL ret) rm (va_Pc As (ct_Pre g ws sz)) Qc 0 0 (va_A ws sz) := by
  refine Met.ofW (cc := cc) (maxL := nL) (ret := ret) hy rfl ?_
  intro p e s m args below meth c s₁ B hml hv
  obtain ⟨rfl, hsz, hP, hD0, hE⟩ := hv
  have hts := atoms_spec (ws := ct_ws y cc nL ret) B.pre
  rw [lg_entry_eq]
  exact body p e s m below meth c _ ⟨B.exec, B.bytes, hml, findClass_of_methodNamed B.named, fun w hw => hts w (List.mem_cons_of_mem _ hw), hE, fun q hq => Or.inr (by omega), B.notSynchronized⟩ B.returns hsz (lv_entry As hA) ⟨hP, hD0.self, va_S.rf⟩
/-! the ends -/
section CTE
variable {p : Program} {l : Launch} {e : Env} {R : Room} {s : State} {m : MethodId} {args : Array Value} {below : List Frame} {meth : Method} {c : Code} {H : Heap} {locs : List Loc}
variable {own : String} {cc : ByteArray} {nL : Nat} {g : Gx} {A : Nat → Prop} {ws : va_W} {PU : va_W → Prop} {pc : Nat} {ls : Array Slot}
theorem ct_reti {v : Int32} (C0 : ct_Cx own cc nL p s m args meth c g A) (hr : meth.sig.returnType = some .int) (hw : ct_Wd g A s ws H locs) (hp : PU ws) (hdg : decode cc pc = .ok (.ireturn, 1)) : W p l e R s m args below meth c H locs 0 0 (MQ below (va_Qi (fun r u => r = v ∧ PU u) (ct_Pst g A) A) args s 0 0 A) (F0 m pc ls [.int v]) :=
  W.iret (v := v) C0.1 C0.2.1 hr (fun t ht _ => ⟨⟨v, ws, rfl, ⟨rfl, hp⟩, by rw [ht]; exact hw.1, hw.2.1⟩, hw.2.2.F ht⟩) hw.2.2.2.2 hdg C0.2.2.2.2.2.2.2
theorem ct_retz {v : Int32} (C0 : ct_Cx own cc nL p s m args meth c g A) (hr : meth.sig.returnType = some .boolean) (hn : narrow .boolean (.int v) = .int v) (hw : ct_Wd g A s ws H locs) (hp : PU ws) (hdg : decode cc pc = .ok (.ireturn, 1)) : W p l e R s m args below meth c H locs 0 0 (MQ below (va_Qi (fun r u => r = v ∧ PU u) (ct_Pst g A) A) args s 0 0 A) (F0 m pc ls [.int v]) :=
  W.zret (v := v) C0.1 C0.2.1 hr hn (fun t ht _ => ⟨⟨v, ws, rfl, ⟨rfl, hp⟩, by rw [ht]; exact hw.1, hw.2.1⟩, hw.2.2.F ht⟩) hw.2.2.2.2 hdg C0.2.2.2.2.2.2.2
theorem ct_retl {v : Int64} (C0 : ct_Cx own cc nL p s m args meth c g A) (hr : meth.sig.returnType = some .long) (hw : ct_Wd g A s ws H locs) (hp : PU ws) (hdg : decode cc pc = .ok (.lreturn, 1)) : W p l e R s m args below meth c H locs 0 0 (MQ below (va_Ql (fun r u => r = v ∧ PU u) (ct_Pst g A) A) args s 0 0 A) (F0 m pc ls [.long v]) :=
  W.lret (v := v) C0.1 C0.2.1 hr (fun t ht _ => ⟨⟨v, ws, rfl, ⟨rfl, hp⟩, by rw [ht]; exact hw.1, hw.2.1⟩, hw.2.2.F ht⟩) hw.2.2.2.2 hdg C0.2.2.2.2.2.2.2
theorem ct_retv (C0 : ct_Cx own cc nL p s m args meth c g A) (hr : meth.sig.returnType = none) (hw : ct_Wd g A s ws H locs) (hp : PU ws) (hdg : decode cc pc = .ok (.return_, 1)) : W p l e R s m args below meth c H locs 0 0 (MQ below (va_Qv PU (ct_Pst g A) A) args s 0 0 A) (F0 m pc ls []) :=
  W.vret C0.1 C0.2.1 hr (fun t ht _ => ⟨⟨ws, rfl, hp, by rw [ht]; exact hw.1, hw.2.1⟩, hw.2.2.F ht⟩) hw.2.2.2.2 hdg C0.2.2.2.2.2.2.2
theorem ct_reta {a : Nat} {C : String} (C0 : ct_Cx own cc nL p s m args meth c g A) (hr : meth.sig.returnType = some (.object C)) (hw : ct_Wd g A s ws H locs) (hp : PU ws) (hdg : decode cc pc = .ok (.areturn, 1)) : W p l e R s m args below meth c H locs 0 0 (MQ below (va_Qr PU (fun u b t => b = a ∧ ct_Pst g A u t) A) args s 0 0 A) (F0 m pc ls [.ref a]) :=
  W.aret (v := .ref a) C0.1 C0.2.1 hr (Or.inl ⟨_, rfl⟩) (Or.inr ⟨_, rfl⟩) (fun t ht _ => ⟨⟨ws, a, rfl, hp, rfl, by rw [ht]; exact hw.1, hw.2.1⟩, hw.2.2.F ht⟩) hw.2.2.2.2 hdg C0.2.2.2.2.2.2.2
end CTE
/-! calls -/
theorem cs_Rel.trans {g : Gx} {w0 ws u : va_W} {s s' : CS} (h1 : cs_Rel g w0 ws s) (h2 : cs_Rel g ws u s') : cs_Rel g w0 u s' := ⟨h2.1, fun k hk => (h2.2 k hk).trans (h1.2 k hk)⟩
theorem ms_Rel.trans {g : Gx} {w0 ws u : va_W} {s s' : MS} (h1 : ms_Rel g w0 ws s) (h2 : ms_Rel g ws u s') : ms_Rel g w0 u s' := ⟨h2.1, fun k hk => (h2.2 k hk).trans (h1.2 k hk)⟩
theorem cs_Rel.rf {g : Gx} {w0 ws : va_W} {s : CS} (h : cs_Rel g w0 ws s) : cs_Rel g ws ws s := ⟨h.1, fun _ _ => rfl⟩
theorem ms_Rel.rf {g : Gx} {w0 ws : va_W} {s : MS} (h : ms_Rel g w0 ws s) : ms_Rel g ws ws s := ⟨h.1, fun _ _ => rfl⟩
theorem ct_gi {ws : List Cond} (h : ∀ w ∈ ws, w ∈ Wds) : GoodIn Wds ws := fun w hw => ⟨h w hw, good_of_word (List.mem_filter.mp (h w hw)).2⟩
theorem ct_giV {own C : String} {idx n : Nat} {y : MethodName} {c : ByteArray} {r : Option FieldType} (h1 : Cond.methodLink own idx y ∈ Wds) (h2 : Cond.instanceMethod y ∈ Wds) (h3 : Cond.selects C y y ∈ Wds) (h4 : Cond.initialized C ∈ Wds) (h5 : Cond.code y c n r ∈ Wds) : GoodIn Wds (wsV own idx C y (ct_ws y c n r)) := ct_gi (fun w h => by
  simp only [wsV, ct_ws, List.cons_append, List.nil_append, List.mem_cons] at h
  rcases h with rfl | rfl | rfl | rfl | rfl | h <;> assumption)
theorem ct_giS {own : String} {idx n : Nat} {y : MethodName} {c : ByteArray} {r : Option FieldType} (h1 : Cond.methodLink own idx y ∈ Wds) (h2 : Cond.static y ∈ Wds) (h4 : Cond.initialized y.cls ∈ Wds) (h5 : Cond.code y c n r ∈ Wds) : GoodIn Wds (va_wsS own idx y (ct_ws y c n r)) := ct_gi (fun w h => by
  simp only [va_wsS, ct_ws, List.cons_append, List.nil_append, List.mem_cons] at h
  rcases h with rfl | rfl | rfl | rfl | h <;> assumption)
section CTC
variable {p : Program} {l : Launch} {e : Env} {R : Room} {s : State} {m : MethodId} {args : Array Value} {below : List Frame} {meth : Method} {c : Code} {H : Heap} {locs : List Loc} {cells slots : Nat} {Q : State → Prop}
variable {own : String} {cc : ByteArray} {nL : Nat} {g : Gx} {A : Nat → Prop} {ws : va_W} {PU : va_W → Prop} {pc : Nat} {ls : Array Slot} {As rest st0 : List Value}
variable {y : MethodName} {cY : ByteArray} {nY index : Nat} {ret : Option FieldType} {rm : Room}
theorem ct_fr (hA : ∀ q, s.heap.size ≤ q → A q) (hw : ct_Wd g A s ws H locs) : ∀ q, va_A ws H.size q → A q := by
  intro q h
  rcases h with ⟨k, e, h⟩ | h
  · exact hw.2.1.2 k (q, e) h
  · exact hA q (Nat.le_trans hw.2.2.1 h)
theorem ct_pr (C0 : ct_Cx own cc nL p s m args meth c g A) (hw : ct_Wd g A s ws H locs) : ∀ U : State, U.heap = H → s.WarmedH U.vm → va_Pc As (ct_Pre g ws H.size) As.toArray U := fun U hU hW =>
  ⟨rfl, by rw [hU], by rw [hU]; exact hw.1, hw.2.1.weaken (fun _ _ _ _ => trivial), by rw [hU]; exact C0.2.2.2.2.2.1.go hw.2.2 (ct_fr C0.2.2.2.2.2.2.1 hw) hW⟩
theorem ct_bk (hA : ∀ q, s.heap.size ≤ q → A q) (hw : ct_Wd g A s ws H locs) {u : va_W} {t : State} {H1 : Heap} {locs1 : List Loc} (ht : t.heap = H1) (hB : ct_Pst g (va_A ws H.size) u t) (hS : va_S A s.heap H1 locs1) : ct_Wd g A s u H1 locs1 :=
  ⟨by rw [← ht]; exact hB.1, hB.2.weaken (fun _ q _ h => ct_fr hA hw q.1 h), hS⟩
theorem ct_callSi {v : Int32} (C0 : ct_Cx own cc nL p s m args meth c g A) (hw : ct_Wd g A s ws H locs) (hls : ls.size = nL) (hG : GoodIn Wds (va_wsS own index y (ct_ws y cY nY ret))) (hM : ∀ sz, ct_MI l y cY nY ret rm g ws sz As v PU)
    (hd : y.cls ≠ "java/lang/invoke/MethodHandle" ∧ y.cls ≠ "java/lang/invoke/VarHandle" ∧ (parseMethodDescriptor y.desc).map (fun d => d.parameters.length) = some As.length) (hrm : rm.cells = 0 ∧ rm.slots = 0) (hR : rm.frames + 1 ≤ R.frames ∧ 8 + (nY + 11) + rm.locals ≤ R.locals) (hc : cells + 0 ≤ R.cells ∧ slots + 0 ≤ R.slots) (hst : st0 = As.reverse ++ rest) (hrest : (rest.map fun v => v.category).sum ≤ 8) (hdg : decode cc pc = .ok (.invokestatic index, 3))
    (kk : ∀ (ws : va_W) (H : Heap) (locs : List Loc), ct_Wd g A s ws H locs → PU ws → W p l e R s m args below meth c H locs cells slots Q (F0 m (pc + 3) ls (.int v :: rest))) : W p l e R s m args below meth c H locs cells slots Q (F0 m pc ls st0) := by
  refine va_calli (va_runS (As := As) (rest := rest) ⟨C0.1, C0.2.1, C0.2.2.1, C0.2.2.2.1, C0.2.2.2.2.1⟩ (hM H.size) (va_cwS As.length C0.2.2.2.2.1 hG rfl hrm.1 hrm.2 hd hR) ⟨ct_blind, ct_pr C0 hw⟩ rfl rfl hls hst (lv_room hrest) hdg hc) hw.2.2 (fun q _ h => ct_fr C0.2.2.2.2.2.2.1 hw q h) (ct_fr C0.2.2.2.2.2.2.1 hw) (fun r u t H1 locs1 ht _ hp hB _ _ hS => ?_)
  obtain ⟨rfl, hp⟩ := hp
  exact kk u H1 locs1 (ct_bk C0.2.2.2.2.2.2.1 hw ht hB hS) hp
theorem ct_callSl {v : Int64} (C0 : ct_Cx own cc nL p s m args meth c g A) (hw : ct_Wd g A s ws H locs) (hls : ls.size = nL) (hG : GoodIn Wds (va_wsS own index y (ct_ws y cY nY ret))) (hM : ∀ sz, ct_ML l y cY nY ret rm g ws sz As v PU)
    (hd : y.cls ≠ "java/lang/invoke/MethodHandle" ∧ y.cls ≠ "java/lang/invoke/VarHandle" ∧ (parseMethodDescriptor y.desc).map (fun d => d.parameters.length) = some As.length) (hrm : rm.cells = 0 ∧ rm.slots = 0) (hR : rm.frames + 1 ≤ R.frames ∧ 8 + (nY + 11) + rm.locals ≤ R.locals) (hc : cells + 0 ≤ R.cells ∧ slots + 0 ≤ R.slots) (hst : st0 = As.reverse ++ rest) (hrest : (rest.map fun v => v.category).sum ≤ 8) (hdg : decode cc pc = .ok (.invokestatic index, 3))
    (kk : ∀ (ws : va_W) (H : Heap) (locs : List Loc), ct_Wd g A s ws H locs → PU ws → W p l e R s m args below meth c H locs cells slots Q (F0 m (pc + 3) ls (.long v :: rest))) : W p l e R s m args below meth c H locs cells slots Q (F0 m pc ls st0) := by
  refine va_calll (va_runS (As := As) (rest := rest) ⟨C0.1, C0.2.1, C0.2.2.1, C0.2.2.2.1, C0.2.2.2.2.1⟩ (hM H.size) (va_cwS As.length C0.2.2.2.2.1 hG rfl hrm.1 hrm.2 hd hR) ⟨ct_blind, ct_pr C0 hw⟩ rfl rfl hls hst (lv_room hrest) hdg hc) hw.2.2 (fun q _ h => ct_fr C0.2.2.2.2.2.2.1 hw q h) (ct_fr C0.2.2.2.2.2.2.1 hw) (fun r u t H1 locs1 ht _ hp hB _ _ hS => ?_)
  obtain ⟨rfl, hp⟩ := hp
  exact kk u H1 locs1 (ct_bk C0.2.2.2.2.2.2.1 hw ht hB hS) hp
variable {b q0 ci N : Nat} {C : String} {T : u_T} {fs : List Value}
theorem ct_callVi {v : Int32} (C0 : ct_Cx own cc nL p s m args meth c g A) (hw : ct_Wd g A s ws H locs) (hls : ls.size = nL) (he : ws[q0]? = some (b, .inr (ci, fs))) (hcl : kl[ci]? = some (C, T, N)) (hG : GoodIn Wds (wsV own index C y (ct_ws y cY nY ret))) (hM : ∀ sz, ct_MI l y cY nY ret rm g ws sz (.ref b :: As) v PU)
    (hd : y.cls = C ∧ y.cls ≠ "java/lang/invoke/MethodHandle" ∧ y.cls ≠ "java/lang/invoke/VarHandle" ∧ (parseMethodDescriptor y.desc).map (fun d => d.parameters.length) = some As.length) (hrm : rm.cells = 0 ∧ rm.slots = 0) (hR : rm.frames + 1 ≤ R.frames ∧ 8 + (nY + 11) + rm.locals ≤ R.locals) (hc : cells + 0 ≤ R.cells ∧ slots + 0 ≤ R.slots) (hst : st0 = As.reverse ++ .ref b :: rest) (hrest : (rest.map fun v => v.category).sum ≤ 8) (hdg : decode cc pc = .ok (.invokevirtual index, 3))
    (kk : ∀ (ws : va_W) (H : Heap) (locs : List Loc), ct_Wd g A s ws H locs → PU ws → W p l e R s m args below meth c H locs cells slots Q (F0 m (pc + 3) ls (.int v :: rest))) : W p l e R s m args below meth c H locs cells slots Q (F0 m pc ls st0) := by
  refine va_calli (va_runV (As := As) (rest := rest) ⟨C0.1, C0.2.1, C0.2.2.1, C0.2.2.2.1, C0.2.2.2.2.1⟩ (hM H.size) (cwV As.length C0.2.2.2.2.1 hG rfl hrm.1 hrm.2 hd hR) ⟨ct_blind, va_recv C0.2.2.2.2.2.1.1 hw.1 hcl he, ct_pr C0 hw⟩ rfl rfl hls hst (lv_room hrest) hdg hc) hw.2.2 (fun q _ h => ct_fr C0.2.2.2.2.2.2.1 hw q h) (ct_fr C0.2.2.2.2.2.2.1 hw) (fun r u t H1 locs1 ht _ hp hB _ _ hS => ?_)
  obtain ⟨rfl, hp⟩ := hp
  exact kk u H1 locs1 (ct_bk C0.2.2.2.2.2.2.1 hw ht hB hS) hp
theorem ct_callVl {v : Int64} (C0 : ct_Cx own cc nL p s m args meth c g A) (hw : ct_Wd g A s ws H locs) (hls : ls.size = nL) (he : ws[q0]? = some (b, .inr (ci, fs))) (hcl : kl[ci]? = some (C, T, N)) (hG : GoodIn Wds (wsV own index C y (ct_ws y cY nY ret))) (hM : ∀ sz, ct_ML l y cY nY ret rm g ws sz (.ref b :: As) v PU)
    (hd : y.cls = C ∧ y.cls ≠ "java/lang/invoke/MethodHandle" ∧ y.cls ≠ "java/lang/invoke/VarHandle" ∧ (parseMethodDescriptor y.desc).map (fun d => d.parameters.length) = some As.length) (hrm : rm.cells = 0 ∧ rm.slots = 0) (hR : rm.frames + 1 ≤ R.frames ∧ 8 + (nY + 11) + rm.locals ≤ R.locals) (hc : cells + 0 ≤ R.cells ∧ slots + 0 ≤ R.slots) (hst : st0 = As.reverse ++ .ref b :: rest) (hrest : (rest.map fun v => v.category).sum ≤ 8) (hdg : decode cc pc = .ok (.invokevirtual index, 3))
    (kk : ∀ (ws : va_W) (H : Heap) (locs : List Loc), ct_Wd g A s ws H locs → PU ws → W p l e R s m args below meth c H locs cells slots Q (F0 m (pc + 3) ls (.long v :: rest))) : W p l e R s m args below meth c H locs cells slots Q (F0 m pc ls st0) := by
  refine va_calll (va_runV (As := As) (rest := rest) ⟨C0.1, C0.2.1, C0.2.2.1, C0.2.2.2.1, C0.2.2.2.2.1⟩ (hM H.size) (cwV As.length C0.2.2.2.2.1 hG rfl hrm.1 hrm.2 hd hR) ⟨ct_blind, va_recv C0.2.2.2.2.2.1.1 hw.1 hcl he, ct_pr C0 hw⟩ rfl rfl hls hst (lv_room hrest) hdg hc) hw.2.2 (fun q _ h => ct_fr C0.2.2.2.2.2.2.1 hw q h) (ct_fr C0.2.2.2.2.2.2.1 hw) (fun r u t H1 locs1 ht _ hp hB _ _ hS => ?_)
  obtain ⟨rfl, hp⟩ := hp
  exact kk u H1 locs1 (ct_bk C0.2.2.2.2.2.2.1 hw ht hB hS) hp
theorem ct_callVv (C0 : ct_Cx own cc nL p s m args meth c g A) (hw : ct_Wd g A s ws H locs) (hls : ls.size = nL) (he : ws[q0]? = some (b, .inr (ci, fs))) (hcl : kl[ci]? = some (C, T, N)) (hG : GoodIn Wds (wsV own index C y (ct_ws y cY nY ret))) (hM : ∀ sz, ct_MV l y cY nY ret rm g ws sz (.ref b :: As) PU)
    (hd : y.cls = C ∧ y.cls ≠ "java/lang/invoke/MethodHandle" ∧ y.cls ≠ "java/lang/invoke/VarHandle" ∧ (parseMethodDescriptor y.desc).map (fun d => d.parameters.length) = some As.length) (hrm : rm.cells = 0 ∧ rm.slots = 0) (hR : rm.frames + 1 ≤ R.frames ∧ 8 + (nY + 11) + rm.locals ≤ R.locals) (hc : cells + 0 ≤ R.cells ∧ slots + 0 ≤ R.slots) (hst : st0 = As.reverse ++ .ref b :: rest) (hrest : (rest.map fun v => v.category).sum ≤ 8) (hdg : decode cc pc = .ok (.invokevirtual index, 3))
    (kk : ∀ (ws : va_W) (H : Heap) (locs : List Loc), ct_Wd g A s ws H locs → PU ws → W p l e R s m args below meth c H locs cells slots Q (F0 m (pc + 3) ls rest)) : W p l e R s m args below meth c H locs cells slots Q (F0 m pc ls st0) := by
  refine va_callv (va_runV (As := As) (rest := rest) ⟨C0.1, C0.2.1, C0.2.2.1, C0.2.2.2.1, C0.2.2.2.2.1⟩ (hM H.size) (cwV As.length C0.2.2.2.2.1 hG rfl hrm.1 hrm.2 hd hR) ⟨ct_blind, va_recv C0.2.2.2.2.2.1.1 hw.1 hcl he, ct_pr C0 hw⟩ rfl rfl hls hst (lv_room hrest) hdg hc) hw.2.2 (fun q _ h => ct_fr C0.2.2.2.2.2.2.1 hw q h) (ct_fr C0.2.2.2.2.2.2.1 hw) (fun u t H1 locs1 ht _ hp hB _ _ hS => ?_)
  exact kk u H1 locs1 (ct_bk C0.2.2.2.2.2.2.1 hw ht hB hS) hp
theorem ct_callVr {a : Nat} (C0 : ct_Cx own cc nL p s m args meth c g A) (hw : ct_Wd g A s ws H locs) (hls : ls.size = nL) (he : ws[q0]? = some (b, .inr (ci, fs))) (hcl : kl[ci]? = some (C, T, N)) (hG : GoodIn Wds (wsV own index C y (ct_ws y cY nY ret))) (hM : ∀ sz, ct_MR l y cY nY ret rm g ws sz (.ref b :: As) a PU)
    (hd : y.cls = C ∧ y.cls ≠ "java/lang/invoke/MethodHandle" ∧ y.cls ≠ "java/lang/invoke/VarHandle" ∧ (parseMethodDescriptor y.desc).map (fun d => d.parameters.length) = some As.length) (hrm : rm.cells = 0 ∧ rm.slots = 0) (hR : rm.frames + 1 ≤ R.frames ∧ 8 + (nY + 11) + rm.locals ≤ R.locals) (hc : cells + 0 ≤ R.cells ∧ slots + 0 ≤ R.slots) (hst : st0 = As.reverse ++ .ref b :: rest) (hrest : (rest.map fun v => v.category).sum ≤ 8) (hdg : decode cc pc = .ok (.invokevirtual index, 3))
    (kk : ∀ (ws : va_W) (H : Heap) (locs : List Loc), ct_Wd g A s ws H locs → PU ws → W p l e R s m args below meth c H locs cells slots Q (F0 m (pc + 3) ls (.ref a :: rest))) : W p l e R s m args below meth c H locs cells slots Q (F0 m pc ls st0) := by
  refine va_callr (va_runV (As := As) (rest := rest) ⟨C0.1, C0.2.1, C0.2.2.1, C0.2.2.2.1, C0.2.2.2.2.1⟩ (hM H.size) (cwV As.length C0.2.2.2.2.1 hG rfl hrm.1 hrm.2 hd hR) ⟨ct_blind, va_recv C0.2.2.2.2.2.1.1 hw.1 hcl he, ct_pr C0 hw⟩ rfl rfl hls hst (lv_room hrest) hdg hc) hw.2.2 (fun q _ h => ct_fr C0.2.2.2.2.2.2.1 hw q h) (ct_fr C0.2.2.2.2.2.2.1 hw) (fun u ra t H1 locs1 ht _ hp hB _ _ hS => ?_)
  obtain ⟨rfl, hB⟩ := hB
  exact kk u H1 locs1 (ct_bk C0.2.2.2.2.2.2.1 hw ht hB hS) hp
end CTC
/-! methods that may throw: o is what the pure function says, thrown (number, state) or returned -/
def ct_exn (k : Nat) : String := if k = 1 then "java/lang/IllegalArgumentException" else if k = 2 then "java/lang/IllegalStateException" else if k = 3 then "java/lang/ArithmeticException" else "java/lang/UnsupportedOperationException"
abbrev ct_XX {α : Type} (g : Gx) (ws : va_W) (A : Nat → Prop) (o : (Nat × CS) ⊕ α) : String → State → State → Prop := vx_X (fun _ : va_W => True) (fun E u t => (∃ k s1, o = .inl (k, s1) ∧ E = ct_exn k ∧ cs_Rel g ws u s1) ∧ ct_Pst g A u t) A
abbrev ct_XI (l : Launch) (y : MethodName) (c : ByteArray) (n : Nat) (ret : Option FieldType) (rm : Room) (g : Gx) (ws : va_W) (sz : Nat) (As : List Value) (o : (Nat × CS) ⊕ (Int32 × CS)) (mc ms : Nat) : Prop := vx_Met l y (ct_ws y c n ret) rm (va_Pc As (ct_Pre g ws sz)) (va_Qi (fun r u => ∃ s1, o = .inr (r, s1) ∧ cs_Rel g ws u s1) (ct_Pst g (va_A ws sz)) (va_A ws sz)) (ct_XX g ws (va_A ws sz) o) mc ms (va_A ws sz)
abbrev ct_XL (l : Launch) (y : MethodName) (c : ByteArray) (n : Nat) (ret : Option FieldType) (rm : Room) (g : Gx) (ws : va_W) (sz : Nat) (As : List Value) (o : (Nat × CS) ⊕ (Int64 × CS)) (mc ms : Nat) : Prop := vx_Met l y (ct_ws y c n ret) rm (va_Pc As (ct_Pre g ws sz)) (va_Ql (fun r u => ∃ s1, o = .inr (r, s1) ∧ cs_Rel g ws u s1) (ct_Pst g (va_A ws sz)) (va_A ws sz)) (ct_XX g ws (va_A ws sz) o) mc ms (va_A ws sz)
abbrev ct_XV (l : Launch) (y : MethodName) (c : ByteArray) (n : Nat) (ret : Option FieldType) (rm : Room) (g : Gx) (ws : va_W) (sz : Nat) (As : List Value) (o : (Nat × CS) ⊕ CS) (mc ms : Nat) : Prop := vx_Met l y (ct_ws y c n ret) rm (va_Pc As (ct_Pre g ws sz)) (va_Qv (fun u => ∃ s1, o = .inr s1 ∧ cs_Rel g ws u s1) (ct_Pst g (va_A ws sz)) (va_A ws sz)) (ct_XX g ws (va_A ws sz) o) mc ms (va_A ws sz)
theorem ct_startX {l : Launch} {y : MethodName} {cc : ByteArray} {nL mc ms : Nat} {ret : Option FieldType} {rm : Room} {g : Gx} {ws : va_W} {sz : Nat} {As : List Value} {Qc : Array Value → State → Outcome → State → Prop} {XC : String → State → State → Prop} (hy : plainName y.cls = true) (hA : (lg_sl As).length ≤ nL)
    (body : ∀ p e s m below meth c ls, ct_Cx y.cls cc nL p s m As.toArray meth c g (va_A ws sz) → meth.sig.returnType = ret → s.heap.size = sz → (∀ x ∈ c.exceptionTable.toList, False) → lv_has ls nL (lv_args 0 As) → ct_Wd g (va_A ws sz) s ws s.heap [] →
      W p l e rm s m As.toArray below meth c s.heap [] 0 0 (vx_MQ below Qc XC As.toArray s mc ms (va_A ws sz)) (F0 m 0 ls [])) : vx_Met l y (ct_ws y cc nL ret) rm (va_Pc As (ct_Pre g ws sz)) Qc XC mc ms (va_A ws sz) := by
  refine vx_ofW (cc := cc) (maxL := nL) (ret := ret) hy rfl ?_
  intro p e s m args below meth c s₁ B hml hex hv
  obtain ⟨rfl, hsz, hP, hD0, hE⟩ := hv
  have hts := atoms_spec (ws := ct_ws y cc nL ret) B.pre
  rw [lg_entry_eq]
  exact body p e s m below meth c _ ⟨B.exec, B.bytes, hml, findClass_of_methodNamed B.named, fun w hw => hts w (List.mem_cons_of_mem _ hw), hE, fun q hq => Or.inr (by omega), B.notSynchronized⟩ B.returns hsz hex (lv_entry As hA) ⟨hP, hD0.self, va_S.rf⟩
theorem ct_NW_use {s : State} {args : Array Value} : ∀ w ∈ NW, va_Nw w s → w.before args s = true := by
  intro w hw h
  have h1 := (List.mem_filter.mp hw).2
  cases w <;> first | exact va_Nw.use rfl h | cases h1
section CTX
variable {p : Program} {l : Launch} {e : Env} {R : Room} {s : State} {m : MethodId} {args : Array Value} {below : List Frame} {meth : Method} {c : Code} {H : Heap} {locs : List Loc} {cells slots : Nat} {Q : State → Prop}
variable {own : String} {cc : ByteArray} {nL : Nat} {g : Gx} {A : Nat → Prop} {w0 ws : va_W} {pc : Nat} {ls : Array Slot} {As rest st0 : List Value} {mc ms mcY msY : Nat} {XC : String → State → State → Prop} {Qc : Array Value → State → Outcome → State → Prop}
variable {y : MethodName} {cY : ByteArray} {nY index : Nat} {ret : Option FieldType} {rm : Room} {α : Type}
theorem ct_xreti {o : (Nat × CS) ⊕ (Int32 × CS)} {v : Int32} (C0 : ct_Cx own cc nL p s m args meth c g A) (hr : meth.sig.returnType = some .int) (hw : ct_Wd g A s ws H locs) (hp : ∃ s1, o = .inr (v, s1) ∧ cs_Rel g w0 ws s1) (hc : cells ≤ mc) (hs : slots ≤ ms) (hdg : decode cc pc = .ok (.ireturn, 1)) : W p l e R s m args below meth c H locs cells slots (vx_MQ below (va_Qi (fun r u => ∃ s1, o = .inr (r, s1) ∧ cs_Rel g w0 u s1) (ct_Pst g A) A) XC args s mc ms A) (F0 m pc ls [.int v]) :=
  W.widen hc hs (vx_ret (W.iret (v := v) C0.1 C0.2.1 hr (fun t ht _ => ⟨⟨v, ws, rfl, hp, by rw [ht]; exact hw.1, hw.2.1⟩, hw.2.2.F ht⟩) hw.2.2.2.2 hdg C0.2.2.2.2.2.2.2))
theorem ct_xretl {o : (Nat × CS) ⊕ (Int64 × CS)} {v : Int64} (C0 : ct_Cx own cc nL p s m args meth c g A) (hr : meth.sig.returnType = some .long) (hw : ct_Wd g A s ws H locs) (hp : ∃ s1, o = .inr (v, s1) ∧ cs_Rel g w0 ws s1) (hc : cells ≤ mc) (hs : slots ≤ ms) (hdg : decode cc pc = .ok (.lreturn, 1)) : W p l e R s m args below meth c H locs cells slots (vx_MQ below (va_Ql (fun r u => ∃ s1, o = .inr (r, s1) ∧ cs_Rel g w0 u s1) (ct_Pst g A) A) XC args s mc ms A) (F0 m pc ls [.long v]) :=
  W.widen hc hs (vx_ret (W.lret (v := v) C0.1 C0.2.1 hr (fun t ht _ => ⟨⟨v, ws, rfl, hp, by rw [ht]; exact hw.1, hw.2.1⟩, hw.2.2.F ht⟩) hw.2.2.2.2 hdg C0.2.2.2.2.2.2.2))
theorem ct_xretv {o : (Nat × CS) ⊕ CS} (C0 : ct_Cx own cc nL p s m args meth c g A) (hr : meth.sig.returnType = none) (hw : ct_Wd g A s ws H locs) (hp : ∃ s1, o = .inr s1 ∧ cs_Rel g w0 ws s1) (hc : cells ≤ mc) (hs : slots ≤ ms) (hdg : decode cc pc = .ok (.return_, 1)) : W p l e R s m args below meth c H locs cells slots (vx_MQ below (va_Qv (fun u => ∃ s1, o = .inr s1 ∧ cs_Rel g w0 u s1) (ct_Pst g A) A) XC args s mc ms A) (F0 m pc ls []) :=
  W.widen hc hs (vx_ret (W.vret C0.1 C0.2.1 hr (fun t ht _ => ⟨⟨ws, rfl, hp, by rw [ht]; exact hw.1, hw.2.1⟩, hw.2.2.F ht⟩) hw.2.2.2.2 hdg C0.2.2.2.2.2.2.2))
theorem ct_xout {o : (Nat × CS) ⊕ α} {E : String} {ce : Cell} {q : Addr} {k : Nat} {s1 : CS} (C0 : ct_Cx own cc nL p s m args meth c g A) (hex : ∀ x ∈ c.exceptionTable.toList, False) (hw : ct_Wd g A s ws H locs) (ho : o = .inl (k, s1)) (hE : E = ct_exn k) (hR : cs_Rel g w0 ws s1) (hcell : H[q]? = some ce) (hv : ce.vm = .none) (hcl : s.vm.findClass E = some ce.cls) (hc : cells ≤ mc) (hs : slots ≤ ms) :
    vx_W p l e R s m args below meth c H locs cells slots (vx_MQ below Qc (ct_XX g w0 A o) args s mc ms A) (F0 m pc ls rest) q :=
  vx_out (fun x hx => (hex x hx).elim) C0.2.2.2.2.2.2.2 hcell hv hcl (fun t ht _ => ⟨ws, trivial, ⟨⟨k, s1, ho, hE, hR⟩, by rw [ht]; exact hw.1, hw.2.1⟩, hw.2.2.F ht⟩) hw.2.2.2.2 hc hs
theorem ct_throw {o : (Nat × CS) ⊕ α} {st : CS} {X : String} {k ik is ic : Nat} {text : String} (hl0 : l.stackTraces = false) (C0 : ct_Cx R_CT cc nL p s m args meth c g A) (hex : ∀ x ∈ c.exceptionTable.toList, False) (hls : ls.size = nL) (hw : ct_Wd g A s ws H locs) (hR : cs_Rel g w0 ws st) (ho : o = .inl (k, st)) (hX : X = ct_exn k) (hfit : Bundle.fit X = true)
    (hk : Cond.classLink R_CT ik X ∈ Wds) (hini : Cond.initialized X ∈ Wds) (hq : (is, text) ∈ ct_str) (ha1 : ∀ w ∈ (vx_atS R_CT ic X ["java/lang/RuntimeException", "java/lang/Exception"]).filter goodWord, w ∈ Wds) (ha2 : ∀ w ∈ (vx_atS R_CT ic X ["java/lang/RuntimeException", "java/lang/Exception"]).filter (fun w => !goodWord w), w ∈ NW)
    (hgood : ∀ w ∈ Cond.classLink R_CT ik X :: Cond.initialized X :: vx_atS R_CT ic X ["java/lang/RuntimeException", "java/lang/Exception"], vx_ot w = true)
    (d0 : decode cc pc = .ok (.new ik, 3)) (d3 : decode cc (pc + 3) = .ok (.dup, 1)) (d4 : decode cc (pc + 4) = .ok (.ldc is, 2)) (d6 : decode cc (pc + 6) = .ok (.invokespecial ic, 3)) (d9 : decode cc (pc + 9) = .ok (.athrow, 1))
    (hRf : 5 < R.frames) (hRl : (rest.map fun v => v.category).sum + 82 ≤ R.locals) (hRc : cells + 1 ≤ R.cells) (hRs : slots + 6 ≤ R.slots) (hc : cells + 1 ≤ mc) (hs : slots + 6 ≤ ms) :
    W p l e R s m args below meth c H locs cells slots (vx_MQ below Qc (ct_XX g w0 A o) args s mc ms A) (F0 m pc ls rest) := by
  obtain ⟨h1, h2, ⟨sa, h3⟩, h4, h5, -⟩ := C0.2.2.2.2.2.1
  refine vx_throwS (names := ["java/lang/RuntimeException", "java/lang/Exception"]) C0.1 C0.2.1 hl0 C0.2.2.2.1 hfit (by decide +kernel) (C0.2.2.2.2.1 _ hk) (C0.2.2.2.2.1 _ hini) (h3 _ hq) (vx_hat (fun w hw => C0.2.2.2.2.1 w (ha1 w hw)) ha2 (fun w hw => ct_NW_use w hw (h2 w hw))) hgood h4 h5 hw.2.2 (hls.trans C0.2.2.1.symm) d0 d3 d4 d6 d9 (fun x hx => (hex x hx).elim) hRf hRl hRc hRs C0.2.2.2.2.2.2.2 (fun t _ hsz hold => ?_) hw.2.2.2.2 hc hs
  exact ⟨ws, trivial, ⟨⟨k, st, ho, hX, hR⟩, hw.1.kept (fun j q hj => hold q.1 ((hw.1 j q hj).lt)), hw.2.1⟩, Nat.le_trans hw.2.2.1 hsz, fun q q1 q2 => (hold q (Nat.lt_of_lt_of_le q1 hw.2.2.1)).trans (hw.2.2.2.1 q q1 q2)⟩
theorem ct_callSXv {o : (Nat × CS) ⊕ CS} (C0 : ct_Cx own cc nL p s m args meth c g A) (hw : ct_Wd g A s ws H locs) (hls : ls.size = nL) (hG : GoodIn Wds (va_wsS own index y (ct_ws y cY nY ret))) (hM : ∀ sz, ct_XV l y cY nY ret rm g ws sz As o mcY msY)
    (hd : y.cls ≠ "java/lang/invoke/MethodHandle" ∧ y.cls ≠ "java/lang/invoke/VarHandle" ∧ (parseMethodDescriptor y.desc).map (fun d => d.parameters.length) = some As.length) (hrm : rm.cells = mcY ∧ rm.slots = msY) (hR : rm.frames + 1 ≤ R.frames ∧ 8 + (nY + 11) + rm.locals ≤ R.locals) (hc : cells + mcY ≤ R.cells ∧ slots + msY ≤ R.slots) (hst : st0 = As.reverse ++ rest) (hrest : (rest.map fun v => v.category).sum ≤ 8) (hdg : decode cc pc = .ok (.invokestatic index, 3))
    (kx : ∀ (E : String) (ce : Cell) (q9 : Addr) (ws1 : va_W) (H : Heap) (locs : List Loc) (k : Nat) (s1 : CS), ct_Wd g A s ws1 H locs → o = .inl (k, s1) → E = ct_exn k → cs_Rel g ws ws1 s1 → H[q9]? = some ce → ce.vm = .none → s.vm.findClass E = some ce.cls → vx_W p l e R s m args below meth c H locs (cells + mcY) (slots + msY) Q (F0 m pc ls rest) q9)
    (kk : ∀ (ws1 : va_W) (H : Heap) (locs : List Loc) (s1 : CS), ct_Wd g A s ws1 H locs → o = .inr s1 → cs_Rel g ws ws1 s1 → W p l e R s m args below meth c H locs (cells + mcY) (slots + msY) Q (F0 m (pc + 3) ls rest)) : W p l e R s m args below meth c H locs cells slots Q (F0 m pc ls st0) := by
  refine vx_callv (vx_runS (As := As) (rest := rest) ⟨C0.1, C0.2.1, C0.2.2.1, C0.2.2.2.1, C0.2.2.2.2.1⟩ (hM H.size) (va_cwS As.length C0.2.2.2.2.1 hG rfl hrm.1 hrm.2 hd hR) ⟨ct_blind, ct_pr C0 hw⟩ rfl rfl hls hst (lv_room hrest) hdg hc) hw.2.2 (fun q _ h => ct_fr C0.2.2.2.2.2.2.1 hw q h) (ct_fr C0.2.2.2.2.2.2.1 hw) (fun q _ h => ct_fr C0.2.2.2.2.2.2.1 hw q h) (fun E ce q9 u t H1 locs1 ht _ _ hB _ _ hS h1 h2 h3 => ?_) (fun u t H1 locs1 ht _ hp hB _ _ hS => ?_)
  · obtain ⟨⟨k, s1, ho, hE, hr⟩, hB⟩ := hB
    exact kx E ce q9 u H1 locs1 k s1 (ct_bk C0.2.2.2.2.2.2.1 hw ht hB hS) ho hE hr h1 h2 h3
  · obtain ⟨s1, ho, hr⟩ := hp
    exact kk u H1 locs1 s1 (ct_bk C0.2.2.2.2.2.2.1 hw ht hB hS) ho hr
variable {b q0 ci N : Nat} {C : String} {T : u_T} {fs : List Value}
theorem ct_callVXv {o : (Nat × CS) ⊕ CS} (C0 : ct_Cx own cc nL p s m args meth c g A) (hw : ct_Wd g A s ws H locs) (hls : ls.size = nL) (he : ws[q0]? = some (b, .inr (ci, fs))) (hcl : kl[ci]? = some (C, T, N)) (hG : GoodIn Wds (wsV own index C y (ct_ws y cY nY ret))) (hM : ∀ sz, ct_XV l y cY nY ret rm g ws sz (.ref b :: As) o mcY msY)
    (hd : y.cls = C ∧ y.cls ≠ "java/lang/invoke/MethodHandle" ∧ y.cls ≠ "java/lang/invoke/VarHandle" ∧ (parseMethodDescriptor y.desc).map (fun d => d.parameters.length) = some As.length) (hrm : rm.cells = mcY ∧ rm.slots = msY) (hR : rm.frames + 1 ≤ R.frames ∧ 8 + (nY + 11) + rm.locals ≤ R.locals) (hc : cells + mcY ≤ R.cells ∧ slots + msY ≤ R.slots) (hst : st0 = As.reverse ++ .ref b :: rest) (hrest : (rest.map fun v => v.category).sum ≤ 8) (hdg : decode cc pc = .ok (.invokevirtual index, 3))
    (kx : ∀ (E : String) (ce : Cell) (q9 : Addr) (ws1 : va_W) (H : Heap) (locs : List Loc) (k : Nat) (s1 : CS), ct_Wd g A s ws1 H locs → o = .inl (k, s1) → E = ct_exn k → cs_Rel g ws ws1 s1 → H[q9]? = some ce → ce.vm = .none → s.vm.findClass E = some ce.cls → vx_W p l e R s m args below meth c H locs (cells + mcY) (slots + msY) Q (F0 m pc ls rest) q9)
    (kk : ∀ (ws1 : va_W) (H : Heap) (locs : List Loc) (s1 : CS), ct_Wd g A s ws1 H locs → o = .inr s1 → cs_Rel g ws ws1 s1 → W p l e R s m args below meth c H locs (cells + mcY) (slots + msY) Q (F0 m (pc + 3) ls rest)) : W p l e R s m args below meth c H locs cells slots Q (F0 m pc ls st0) := by
  refine vx_callv (vx_runV (As := As) (rest := rest) ⟨C0.1, C0.2.1, C0.2.2.1, C0.2.2.2.1, C0.2.2.2.2.1⟩ (hM H.size) (cwV As.length C0.2.2.2.2.1 hG rfl hrm.1 hrm.2 hd hR) ⟨ct_blind, va_recv C0.2.2.2.2.2.1.1 hw.1 hcl he, ct_pr C0 hw⟩ rfl rfl hls hst (lv_room hrest) hdg hc) hw.2.2 (fun q _ h => ct_fr C0.2.2.2.2.2.2.1 hw q h) (ct_fr C0.2.2.2.2.2.2.1 hw) (fun q _ h => ct_fr C0.2.2.2.2.2.2.1 hw q h) (fun E ce q9 u t H1 locs1 ht _ _ hB _ _ hS h1 h2 h3 => ?_) (fun u t H1 locs1 ht _ hp hB _ _ hS => ?_)
  · obtain ⟨⟨k, s1, ho, hE, hr⟩, hB⟩ := hB
    exact kx E ce q9 u H1 locs1 k s1 (ct_bk C0.2.2.2.2.2.2.1 hw ht hB hS) ho hE hr h1 h2 h3
  · obtain ⟨s1, ho, hr⟩ := hp
    exact kk u H1 locs1 s1 (ct_bk C0.2.2.2.2.2.2.1 hw ht hB hS) ho hr
theorem ct_callVXi {o : (Nat × CS) ⊕ (Int32 × CS)} (C0 : ct_Cx own cc nL p s m args meth c g A) (hw : ct_Wd g A s ws H locs) (hls : ls.size = nL) (he : ws[q0]? = some (b, .inr (ci, fs))) (hcl : kl[ci]? = some (C, T, N)) (hG : GoodIn Wds (wsV own index C y (ct_ws y cY nY ret))) (hM : ∀ sz, ct_XI l y cY nY ret rm g ws sz (.ref b :: As) o mcY msY)
    (hd : y.cls = C ∧ y.cls ≠ "java/lang/invoke/MethodHandle" ∧ y.cls ≠ "java/lang/invoke/VarHandle" ∧ (parseMethodDescriptor y.desc).map (fun d => d.parameters.length) = some As.length) (hrm : rm.cells = mcY ∧ rm.slots = msY) (hR : rm.frames + 1 ≤ R.frames ∧ 8 + (nY + 11) + rm.locals ≤ R.locals) (hc : cells + mcY ≤ R.cells ∧ slots + msY ≤ R.slots) (hst : st0 = As.reverse ++ .ref b :: rest) (hrest : (rest.map fun v => v.category).sum ≤ 8) (hdg : decode cc pc = .ok (.invokevirtual index, 3))
    (kx : ∀ (E : String) (ce : Cell) (q9 : Addr) (ws1 : va_W) (H : Heap) (locs : List Loc) (k : Nat) (s1 : CS), ct_Wd g A s ws1 H locs → o = .inl (k, s1) → E = ct_exn k → cs_Rel g ws ws1 s1 → H[q9]? = some ce → ce.vm = .none → s.vm.findClass E = some ce.cls → vx_W p l e R s m args below meth c H locs (cells + mcY) (slots + msY) Q (F0 m pc ls rest) q9)
    (kk : ∀ (r : Int32) (ws1 : va_W) (H : Heap) (locs : List Loc) (s1 : CS), ct_Wd g A s ws1 H locs → o = .inr (r, s1) → cs_Rel g ws ws1 s1 → W p l e R s m args below meth c H locs (cells + mcY) (slots + msY) Q (F0 m (pc + 3) ls (.int r :: rest))) : W p l e R s m args below meth c H locs cells slots Q (F0 m pc ls st0) := by
  refine vx_calli (vx_runV (As := As) (rest := rest) ⟨C0.1, C0.2.1, C0.2.2.1, C0.2.2.2.1, C0.2.2.2.2.1⟩ (hM H.size) (cwV As.length C0.2.2.2.2.1 hG rfl hrm.1 hrm.2 hd hR) ⟨ct_blind, va_recv C0.2.2.2.2.2.1.1 hw.1 hcl he, ct_pr C0 hw⟩ rfl rfl hls hst (lv_room hrest) hdg hc) hw.2.2 (fun q _ h => ct_fr C0.2.2.2.2.2.2.1 hw q h) (ct_fr C0.2.2.2.2.2.2.1 hw) (fun q _ h => ct_fr C0.2.2.2.2.2.2.1 hw q h) (fun E ce q9 u t H1 locs1 ht _ _ hB _ _ hS h1 h2 h3 => ?_) (fun r u t H1 locs1 ht _ hp hB _ _ hS => ?_)
  · obtain ⟨⟨k, s1, ho, hE, hr⟩, hB⟩ := hB
    exact kx E ce q9 u H1 locs1 k s1 (ct_bk C0.2.2.2.2.2.2.1 hw ht hB hS) ho hE hr h1 h2 h3
  · obtain ⟨s1, ho, hr⟩ := hp
    exact kk r u H1 locs1 s1 (ct_bk C0.2.2.2.2.2.2.1 hw ht hB hS) ho hr
theorem ct_callVXl {o : (Nat × CS) ⊕ (Int64 × CS)} (C0 : ct_Cx own cc nL p s m args meth c g A) (hw : ct_Wd g A s ws H locs) (hls : ls.size = nL) (he : ws[q0]? = some (b, .inr (ci, fs))) (hcl : kl[ci]? = some (C, T, N)) (hG : GoodIn Wds (wsV own index C y (ct_ws y cY nY ret))) (hM : ∀ sz, ct_XL l y cY nY ret rm g ws sz (.ref b :: As) o mcY msY)
    (hd : y.cls = C ∧ y.cls ≠ "java/lang/invoke/MethodHandle" ∧ y.cls ≠ "java/lang/invoke/VarHandle" ∧ (parseMethodDescriptor y.desc).map (fun d => d.parameters.length) = some As.length) (hrm : rm.cells = mcY ∧ rm.slots = msY) (hR : rm.frames + 1 ≤ R.frames ∧ 8 + (nY + 11) + rm.locals ≤ R.locals) (hc : cells + mcY ≤ R.cells ∧ slots + msY ≤ R.slots) (hst : st0 = As.reverse ++ .ref b :: rest) (hrest : (rest.map fun v => v.category).sum ≤ 8) (hdg : decode cc pc = .ok (.invokevirtual index, 3))
    (kx : ∀ (E : String) (ce : Cell) (q9 : Addr) (ws1 : va_W) (H : Heap) (locs : List Loc) (k : Nat) (s1 : CS), ct_Wd g A s ws1 H locs → o = .inl (k, s1) → E = ct_exn k → cs_Rel g ws ws1 s1 → H[q9]? = some ce → ce.vm = .none → s.vm.findClass E = some ce.cls → vx_W p l e R s m args below meth c H locs (cells + mcY) (slots + msY) Q (F0 m pc ls rest) q9)
    (kk : ∀ (r : Int64) (ws1 : va_W) (H : Heap) (locs : List Loc) (s1 : CS), ct_Wd g A s ws1 H locs → o = .inr (r, s1) → cs_Rel g ws ws1 s1 → W p l e R s m args below meth c H locs (cells + mcY) (slots + msY) Q (F0 m (pc + 3) ls (.long r :: rest))) : W p l e R s m args below meth c H locs cells slots Q (F0 m pc ls st0) := by
  refine vx_calll (vx_runV (As := As) (rest := rest) ⟨C0.1, C0.2.1, C0.2.2.1, C0.2.2.2.1, C0.2.2.2.2.1⟩ (hM H.size) (cwV As.length C0.2.2.2.2.1 hG rfl hrm.1 hrm.2 hd hR) ⟨ct_blind, va_recv C0.2.2.2.2.2.1.1 hw.1 hcl he, ct_pr C0 hw⟩ rfl rfl hls hst (lv_room hrest) hdg hc) hw.2.2 (fun q _ h => ct_fr C0.2.2.2.2.2.2.1 hw q h) (ct_fr C0.2.2.2.2.2.2.1 hw) (fun q _ h => ct_fr C0.2.2.2.2.2.2.1 hw q h) (fun E ce q9 u t H1 locs1 ht _ _ hB _ _ hS h1 h2 h3 => ?_) (fun r u t H1 locs1 ht _ hp hB _ _ hS => ?_)
  · obtain ⟨⟨k, s1, ho, hE, hr⟩, hB⟩ := hB
    exact kx E ce q9 u H1 locs1 k s1 (ct_bk C0.2.2.2.2.2.2.1 hw ht hB hS) ho hE hr h1 h2 h3
  · obtain ⟨s1, ho, hr⟩ := hp
    exact kk r u H1 locs1 s1 (ct_bk C0.2.2.2.2.2.2.1 hw ht hB hS) ho hr
end CTX
/-! reads and writes of the picture's parts -/
theorem cs_cellF {g : Gx} {st : CS} {f : Nat} (hf : f < 12) : cs_cell g st (23 + f) = .inr (0, [.long (cs_F st f).1, .long (cs_F st f).2.1, .int (cs_F st f).2.2]) := by
  match f, hf with
  | 0, _ => rfl | 1, _ => rfl | 2, _ => rfl | 3, _ => rfl | 4, _ => rfl | 5, _ => rfl | 6, _ => rfl | 7, _ => rfl | 8, _ => rfl | 9, _ => rfl | 10, _ => rfl | 11, _ => rfl
theorem cs_cellR {g : Gx} {st : CS} {r : Nat} (hr : r < 6) : cs_cell g st (15 + r) = .inl (g.2.2 0, 6, .inl (cs_R st r)) := by
  match r, hr with
  | 0, _ => rfl | 1, _ => rfl | 2, _ => rfl | 3, _ => rfl | 4, _ => rfl | 5, _ => rfl
theorem cs_cellP {g : Gx} {st : CS} {r : Nat} (hr : r < 2) : cs_cell g st (21 + r) = .inl (g.2.2 0, 72, .inl (cs_P st r)) := by
  match r, hr with
  | 0, _ => rfl | 1, _ => rfl
theorem cs_cellA {g : Gx} {st : CS} {k : Nat} (hk : k < 4) : cs_cell g st (8 + k) = .inl (g.2.2 0, 60, .inl (cs_A st k)) := by
  match k, hk with
  | 0, _ => rfl | 1, _ => rfl | 2, _ => rfl | 3, _ => rfl
theorem cs_cellZ {g : Gx} {st : CS} {k : Nat} (h4 : 4 ≤ k) (hk : k < 6) : cs_cell g st (8 + k) = .inl (g.2.2 1, 60, .inl (cs_A st k)) := by
  match k, h4, hk with
  | 4, _, _ => rfl | 5, _, _ => rfl
theorem cs_Rel.F {g : Gx} {w0 ws : va_W} {st : CS} {f : Nat} (hR : cs_Rel g w0 ws st) (hf : f < 12) : ws[23 + f]? = some (g.2.1 (23 + f), .inr (0, [.long (cs_F st f).1, .long (cs_F st f).2.1, .int (cs_F st f).2.2])) := by
  rw [← cs_cellF (g := g) hf]
  exact hR.1 _ (by omega)
/-! starts with the end given: Q is any end that a return reaches -/
section CTS
variable {l : Launch} {y : MethodName} {cc : ByteArray} {nL mc ms : Nat} {ret : Option FieldType} {rm : Room} {g : Gx} {ws0 : va_W} {sz : Nat} {As : List Value} {PU : va_W → Prop}
theorem ct_starti {v : Int32} (hy : plainName y.cls = true) (hA : (lg_sl As).length ≤ nL)
    (body : ∀ (p : Program) (e : Env) (sv : State) (m : MethodId) (args : Array Value) (below : List Frame) (meth : Method) (c : Code) (ls : Array Slot) (Q : State → Prop) (A : Nat → Prop) (H : Heap) (locs : List Loc), ct_Cx y.cls cc nL p sv m args meth c g A →
      (∀ {ws : va_W} {H : Heap} {locs : List Loc} {pc : Nat} {ls : Array Slot}, ct_Wd g A sv ws H locs → PU ws → decode cc pc = .ok (.ireturn, 1) → W p l e rm sv m args below meth c H locs 0 0 Q (F0 m pc ls [.int v])) → lv_has ls nL (lv_args 0 As) → ct_Wd g A sv ws0 H locs → W p l e rm sv m args below meth c H locs 0 0 Q (F0 m 0 ls [])) : ct_MI l y cc nL (some .int) rm g ws0 sz As v PU :=
  ct_start hy hA (fun p e s m below meth c ls C0 hr _ hl hw => body p e s m _ below meth c ls _ _ _ _ C0 (fun hw hp hd => ct_reti C0 hr hw hp hd) hl hw)
theorem ct_startz {v : Int32} (hy : plainName y.cls = true) (hA : (lg_sl As).length ≤ nL)
    (body : ∀ (p : Program) (e : Env) (sv : State) (m : MethodId) (args : Array Value) (below : List Frame) (meth : Method) (c : Code) (ls : Array Slot) (Q : State → Prop) (A : Nat → Prop) (H : Heap) (locs : List Loc), ct_Cx y.cls cc nL p sv m args meth c g A →
      (ct_isB v = true → ∀ {ws : va_W} {H : Heap} {locs : List Loc} {pc : Nat} {ls : Array Slot}, ct_Wd g A sv ws H locs → PU ws → decode cc pc = .ok (.ireturn, 1) → W p l e rm sv m args below meth c H locs 0 0 Q (F0 m pc ls [.int v])) → lv_has ls nL (lv_args 0 As) → ct_Wd g A sv ws0 H locs → W p l e rm sv m args below meth c H locs 0 0 Q (F0 m 0 ls [])) : ct_MI l y cc nL (some .boolean) rm g ws0 sz As v PU :=
  ct_start hy hA (fun p e s m below meth c ls C0 hr _ hl hw => body p e s m _ below meth c ls _ _ _ _ C0 (fun hz {_ _ _ _ _} hw hp hd => ct_retz C0 hr (ct_isB_nar hz) hw hp hd) hl hw)
theorem ct_startl {v : Int64} (hy : plainName y.cls = true) (hA : (lg_sl As).length ≤ nL)
    (body : ∀ (p : Program) (e : Env) (sv : State) (m : MethodId) (args : Array Value) (below : List Frame) (meth : Method) (c : Code) (ls : Array Slot) (Q : State → Prop) (A : Nat → Prop) (H : Heap) (locs : List Loc), ct_Cx y.cls cc nL p sv m args meth c g A →
      (∀ {ws : va_W} {H : Heap} {locs : List Loc} {pc : Nat} {ls : Array Slot}, ct_Wd g A sv ws H locs → PU ws → decode cc pc = .ok (.lreturn, 1) → W p l e rm sv m args below meth c H locs 0 0 Q (F0 m pc ls [.long v])) → lv_has ls nL (lv_args 0 As) → ct_Wd g A sv ws0 H locs → W p l e rm sv m args below meth c H locs 0 0 Q (F0 m 0 ls [])) : ct_ML l y cc nL (some .long) rm g ws0 sz As v PU :=
  ct_start hy hA (fun p e s m below meth c ls C0 hr _ hl hw => body p e s m _ below meth c ls _ _ _ _ C0 (fun hw hp hd => ct_retl C0 hr hw hp hd) hl hw)
theorem ct_startv (hy : plainName y.cls = true) (hA : (lg_sl As).length ≤ nL)
    (body : ∀ (p : Program) (e : Env) (sv : State) (m : MethodId) (args : Array Value) (below : List Frame) (meth : Method) (c : Code) (ls : Array Slot) (Q : State → Prop) (A : Nat → Prop) (H : Heap) (locs : List Loc), ct_Cx y.cls cc nL p sv m args meth c g A →
      (∀ {ws : va_W} {H : Heap} {locs : List Loc} {pc : Nat} {ls : Array Slot}, ct_Wd g A sv ws H locs → PU ws → decode cc pc = .ok (.return_, 1) → W p l e rm sv m args below meth c H locs 0 0 Q (F0 m pc ls [])) → lv_has ls nL (lv_args 0 As) → ct_Wd g A sv ws0 H locs → W p l e rm sv m args below meth c H locs 0 0 Q (F0 m 0 ls [])) : ct_MV l y cc nL none rm g ws0 sz As PU :=
  ct_start hy hA (fun p e s m below meth c ls C0 hr _ hl hw => body p e s m _ below meth c ls _ _ _ _ C0 (fun hw hp hd => ct_retv C0 hr hw hp hd) hl hw)
theorem ct_starta {a : Nat} {C : String} (hy : plainName y.cls = true) (hA : (lg_sl As).length ≤ nL)
    (body : ∀ (p : Program) (e : Env) (sv : State) (m : MethodId) (args : Array Value) (below : List Frame) (meth : Method) (c : Code) (ls : Array Slot) (Q : State → Prop) (A : Nat → Prop) (H : Heap) (locs : List Loc), ct_Cx y.cls cc nL p sv m args meth c g A →
      (∀ {ws : va_W} {H : Heap} {locs : List Loc} {pc : Nat} {ls : Array Slot}, ct_Wd g A sv ws H locs → PU ws → decode cc pc = .ok (.areturn, 1) → W p l e rm sv m args below meth c H locs 0 0 Q (F0 m pc ls [.ref a])) → lv_has ls nL (lv_args 0 As) → ct_Wd g A sv ws0 H locs → W p l e rm sv m args below meth c H locs 0 0 Q (F0 m 0 ls [])) : ct_MR l y cc nL (some (.object C)) rm g ws0 sz As a PU :=
  ct_start hy hA (fun p e s m below meth c ls C0 hr _ hl hw => body p e s m _ below meth c ls _ _ _ _ C0 (fun hw hp hd => ct_reta C0 hr hw hp hd) hl hw)
/-- how a method that may throw hands on what a callee threw, and throws by itself -/
abbrev ct_Out {α : Type} (p : Program) (l : Launch) (e : Env) (rm : Room) (sv : State) (m : MethodId) (args : Array Value) (below : List Frame) (meth : Method) (c : Code) (g : Gx) (ws0 : va_W) (A : Nat → Prop) (Q : State → Prop) (o : (Nat × CS) ⊕ α) (mc ms : Nat) : Prop :=
  ∀ {E : String} {ce : Cell} {q : Addr} {k : Nat} {s1 : CS} {ws : va_W} {H : Heap} {locs : List Loc} {cells slots pc : Nat} {ls : Array Slot} {rest : List Value}, ct_Wd g A sv ws H locs → o = .inl (k, s1) → E = ct_exn k → cs_Rel g ws0 ws s1 → H[q]? = some ce → ce.vm = .none → sv.vm.findClass E = some ce.cls → cells ≤ mc → slots ≤ ms → vx_W p l e rm sv m args below meth c H locs cells slots Q (F0 m pc ls rest) q
abbrev ct_Thr {α : Type} (p : Program) (l : Launch) (e : Env) (rm : Room) (sv : State) (m : MethodId) (args : Array Value) (below : List Frame) (meth : Method) (c : Code) (cc : ByteArray) (nL : Nat) (g : Gx) (ws0 : va_W) (A : Nat → Prop) (Q : State → Prop) (o : (Nat × CS) ⊕ α) (mc ms : Nat) : Prop :=
  ∀ {st : CS} {X : String} {k ik is ic : Nat} {text : String} {ws : va_W} {H : Heap} {locs : List Loc} {cells slots pc : Nat} {ls : Array Slot} {rest : List Value}, ls.size = nL → ct_Wd g A sv ws H locs → cs_Rel g ws0 ws st → o = .inl (k, st) → X = ct_exn k → Bundle.fit X = true → Cond.classLink R_CT ik X ∈ Wds → Cond.initialized X ∈ Wds → (is, text) ∈ ct_str →
    (∀ w ∈ (vx_atS R_CT ic X ["java/lang/RuntimeException", "java/lang/Exception"]).filter goodWord, w ∈ Wds) → (∀ w ∈ (vx_atS R_CT ic X ["java/lang/RuntimeException", "java/lang/Exception"]).filter (fun w => !goodWord w), w ∈ NW) → (∀ w ∈ Cond.classLink R_CT ik X :: Cond.initialized X :: vx_atS R_CT ic X ["java/lang/RuntimeException", "java/lang/Exception"], vx_ot w = true) →
    decode cc pc = .ok (.new ik, 3) → decode cc (pc + 3) = .ok (.dup, 1) → decode cc (pc + 4) = .ok (.ldc is, 2) → decode cc (pc + 6) = .ok (.invokespecial ic, 3) → decode cc (pc + 9) = .ok (.athrow, 1) → 5 < rm.frames → (rest.map fun v => v.category).sum + 82 ≤ rm.locals → cells + 1 ≤ rm.cells → slots + 6 ≤ rm.slots → cells + 1 ≤ mc → slots + 6 ≤ ms → W p l e rm sv m args below meth c H locs cells slots Q (F0 m pc ls rest)
theorem ct_startXi {o : (Nat × CS) ⊕ (Int32 × CS)} (hl0 : l.stackTraces = false) (hy : plainName y.cls = true) (hyc : y.cls = R_CT) (hA : (lg_sl As).length ≤ nL)
    (body : ∀ (p : Program) (e : Env) (sv : State) (m : MethodId) (args : Array Value) (below : List Frame) (meth : Method) (c : Code) (ls : Array Slot) (Q : State → Prop) (A : Nat → Prop) (H : Heap) (locs : List Loc), ct_Cx y.cls cc nL p sv m args meth c g A →
      (∀ {v : Int32} {ws : va_W} {H : Heap} {locs : List Loc} {cells slots pc : Nat} {ls : Array Slot}, ct_Wd g A sv ws H locs → (∃ s1, o = .inr (v, s1) ∧ cs_Rel g ws0 ws s1) → cells ≤ mc → slots ≤ ms → decode cc pc = .ok (.ireturn, 1) → W p l e rm sv m args below meth c H locs cells slots Q (F0 m pc ls [.int v])) →
      ct_Out p l e rm sv m args below meth c g ws0 A Q o mc ms → ct_Thr p l e rm sv m args below meth c cc nL g ws0 A Q o mc ms → lv_has ls nL (lv_args 0 As) → ct_Wd g A sv ws0 H locs → W p l e rm sv m args below meth c H locs 0 0 Q (F0 m 0 ls [])) : ct_XI l y cc nL (some .int) rm g ws0 sz As o mc ms :=
  ct_startX hy hA (fun p e s m below meth c ls C0 hr _ hex hl hw => body p e s m _ below meth c ls _ _ _ _ C0 (fun hw hp h1 h2 hd => ct_xreti C0 hr hw hp h1 h2 hd) (fun hw ho hE hR h1 h2 h3 h4 h5 => ct_xout C0 hex hw ho hE hR h1 h2 h3 h4 h5) (fun a1 a2 a3 a4 a5 a6 a7 a8 a9 b1 b2 b3 d0 d3 d4 d6 d9 c1 c2 c3 c4 c5 c6 => ct_throw hl0 (hyc ▸ C0) hex a1 a2 a3 a4 a5 a6 a7 a8 a9 b1 b2 b3 d0 d3 d4 d6 d9 c1 c2 c3 c4 c5 c6) hl hw)
theorem ct_startXl {o : (Nat × CS) ⊕ (Int64 × CS)} (hl0 : l.stackTraces = false) (hy : plainName y.cls = true) (hyc : y.cls = R_CT) (hA : (lg_sl As).length ≤ nL)
    (body : ∀ (p : Program) (e : Env) (sv : State) (m : MethodId) (args : Array Value) (below : List Frame) (meth : Method) (c : Code) (ls : Array Slot) (Q : State → Prop) (A : Nat → Prop) (H : Heap) (locs : List Loc), ct_Cx y.cls cc nL p sv m args meth c g A →
      (∀ {v : Int64} {ws : va_W} {H : Heap} {locs : List Loc} {cells slots pc : Nat} {ls : Array Slot}, ct_Wd g A sv ws H locs → (∃ s1, o = .inr (v, s1) ∧ cs_Rel g ws0 ws s1) → cells ≤ mc → slots ≤ ms → decode cc pc = .ok (.lreturn, 1) → W p l e rm sv m args below meth c H locs cells slots Q (F0 m pc ls [.long v])) →
      ct_Out p l e rm sv m args below meth c g ws0 A Q o mc ms → ct_Thr p l e rm sv m args below meth c cc nL g ws0 A Q o mc ms → lv_has ls nL (lv_args 0 As) → ct_Wd g A sv ws0 H locs → W p l e rm sv m args below meth c H locs 0 0 Q (F0 m 0 ls [])) : ct_XL l y cc nL (some .long) rm g ws0 sz As o mc ms :=
  ct_startX hy hA (fun p e s m below meth c ls C0 hr _ hex hl hw => body p e s m _ below meth c ls _ _ _ _ C0 (fun hw hp h1 h2 hd => ct_xretl C0 hr hw hp h1 h2 hd) (fun hw ho hE hR h1 h2 h3 h4 h5 => ct_xout C0 hex hw ho hE hR h1 h2 h3 h4 h5) (fun a1 a2 a3 a4 a5 a6 a7 a8 a9 b1 b2 b3 d0 d3 d4 d6 d9 c1 c2 c3 c4 c5 c6 => ct_throw hl0 (hyc ▸ C0) hex a1 a2 a3 a4 a5 a6 a7 a8 a9 b1 b2 b3 d0 d3 d4 d6 d9 c1 c2 c3 c4 c5 c6) hl hw)
theorem ct_startXv {o : (Nat × CS) ⊕ CS} (hl0 : l.stackTraces = false) (hy : plainName y.cls = true) (hyc : y.cls = R_CT) (hA : (lg_sl As).length ≤ nL)
    (body : ∀ (p : Program) (e : Env) (sv : State) (m : MethodId) (args : Array Value) (below : List Frame) (meth : Method) (c : Code) (ls : Array Slot) (Q : State → Prop) (A : Nat → Prop) (H : Heap) (locs : List Loc), ct_Cx y.cls cc nL p sv m args meth c g A →
      (∀ {ws : va_W} {H : Heap} {locs : List Loc} {cells slots pc : Nat} {ls : Array Slot}, ct_Wd g A sv ws H locs → (∃ s1, o = .inr s1 ∧ cs_Rel g ws0 ws s1) → cells ≤ mc → slots ≤ ms → decode cc pc = .ok (.return_, 1) → W p l e rm sv m args below meth c H locs cells slots Q (F0 m pc ls [])) →
      ct_Out p l e rm sv m args below meth c g ws0 A Q o mc ms → ct_Thr p l e rm sv m args below meth c cc nL g ws0 A Q o mc ms → lv_has ls nL (lv_args 0 As) → ct_Wd g A sv ws0 H locs → W p l e rm sv m args below meth c H locs 0 0 Q (F0 m 0 ls [])) : ct_XV l y cc nL none rm g ws0 sz As o mc ms :=
  ct_startX hy hA (fun p e s m below meth c ls C0 hr _ hex hl hw => body p e s m _ below meth c ls _ _ _ _ C0 (fun hw hp h1 h2 hd => ct_xretv C0 hr hw hp h1 h2 hd) (fun hw ho hE hR h1 h2 h3 h4 h5 => ct_xout C0 hex hw ho hE hR h1 h2 h3 h4 h5) (fun a1 a2 a3 a4 a5 a6 a7 a8 a9 b1 b2 b3 d0 d3 d4 d6 d9 c1 c2 c3 c4 c5 c6 => ct_throw hl0 (hyc ▸ C0) hex a1 a2 a3 a4 a5 a6 a7 a8 a9 b1 b2 b3 d0 d3 d4 d6 d9 c1 c2 c3 c4 c5 c6) hl hw)
end CTS
/-! what a cell of the class's picture hangs on -/
theorem cs_cell_ext {g : Gx} {s s' : CS} {j : Nat} (h1 : j = 1 → cs_I s' 0 = cs_I s 0) (h2 : j = 2 → ∀ k, 1 ≤ k → k ≤ 5 → cs_I s' k = cs_I s k) (h3 : j = 3 → cs_I s' 6 = cs_I s 6) (hA : 8 ≤ j → j < 15 → cs_A s' (j - 8) = cs_A s (j - 8)) (hR : 15 ≤ j → j < 21 → cs_R s' (j - 15) = cs_R s (j - 15)) (hP : 21 ≤ j → j < 23 → cs_P s' (j - 21) = cs_P s (j - 21)) (hF : 23 ≤ j → cs_F s' (j - 23) = cs_F s (j - 23)) : cs_cell g s' j = cs_cell g s j := by
  by_cases e0 : j = 0
  · subst e0; rfl
  by_cases e1 : j = 1
  · subst e1; simp [cs_cell, h1 rfl]
  by_cases e2 : j = 2
  · subst e2; simp [cs_cell, h2 rfl 1 (by decide) (by decide), h2 rfl 2 (by decide) (by decide), h2 rfl 3 (by decide) (by decide), h2 rfl 4 (by decide) (by decide), h2 rfl 5 (by decide) (by decide)]
  by_cases e3 : j = 3
  · subst e3; simp [cs_cell, h3 rfl]
  by_cases e4 : j = 4
  · subst e4; rfl
  by_cases e5 : j = 5
  · subst e5; rfl
  by_cases e6 : j = 6
  · subst e6; rfl
  by_cases e7 : j = 7
  · subst e7; rfl
  unfold cs_cell
  rw [if_neg e0, if_neg e1, if_neg e2, if_neg e3, if_neg e4, if_neg e5, if_neg e6, if_neg e7, if_neg e0, if_neg e1, if_neg e2, if_neg e3, if_neg e4, if_neg e5, if_neg e6, if_neg e7]
  by_cases a : j < 15
  · rw [hA (by omega) a]
    by_cases b : j < 12
    · rw [if_pos b, if_pos b]
    · by_cases b2 : j < 14
      · rw [if_neg b, if_pos b2, if_neg b, if_pos b2]
      · rw [if_neg b, if_neg b2, if_pos a, if_neg b, if_neg b2, if_pos a]
  · have n12 : ¬ j < 12 := by omega
    have n14 : ¬ j < 14 := by omega
    simp only [if_neg n12, if_neg n14, if_neg a]
    by_cases b : j < 21
    · rw [if_pos b, if_pos b, hR (by omega) b]
    · by_cases b2 : j < 23
      · rw [if_neg b, if_pos b2, if_neg b, if_pos b2, hP (by omega) b2]
      · rw [if_neg b, if_neg b2, if_neg b, if_neg b2, hF (by omega)]
theorem ms_cell_ext {g : Gx} {s s' : MS} {j : Nat} (hI : j = 35 → s'.1 = s.1 ∧ s'.2.1 = s.2.1) (hA : 36 ≤ j → j < 43 → ms_A s' (j - 36) = ms_A s (j - 36)) (hB : 43 ≤ j → j < 45 → ms_B s' (j - 43) = ms_B s (j - 43)) (h7 : j = 45 → ms_A s' 7 = ms_A s 7) (h8 : 46 ≤ j → ms_A s' 8 = ms_A s 8) (hlo : 35 ≤ j) : ms_cell g s' j = ms_cell g s j := by
  by_cases e0 : j = 35
  · subst e0
    obtain ⟨q1, q2⟩ := hI rfl
    simp [ms_cell, ms_I, ms_L, q1, q2]
  unfold ms_cell
  rw [if_neg e0, if_neg e0]
  by_cases a : j < 43
  · have q := hA (by omega) a
    by_cases b : j < 40
    · rw [if_pos b, if_pos b, q]
    · by_cases b2 : j < 42
      · rw [if_neg b, if_pos b2, if_neg b, if_pos b2, q]
      · have b3 : j = 42 := by omega
        rw [if_neg b, if_neg b2, if_pos b3, if_neg b, if_neg b2, if_pos b3]
        have q : ms_A s' 6 = ms_A s 6 := by rw [b3] at q; exact q
        rw [q]
  · have n40 : ¬ j < 40 := by omega
    have n42 : ¬ j < 42 := by omega
    have m42 : ¬ j = 42 := by omega
    simp only [if_neg n40, if_neg n42, if_neg m42]
    by_cases b : j < 45
    · rw [if_pos b, if_pos b, hB (by omega) b]
    · by_cases b2 : j = 45
      · rw [if_neg b, if_pos b2, if_neg b, if_pos b2, h7 b2]
      · rw [if_neg b, if_neg b2, if_neg b, if_neg b2, h8 (by omega)]
section CTP
variable {g : Gx} {w0 ws : va_W} {st : CS} {mt : MS}
theorem cs_Rel.putA {k i : Nat} {v : Int32} {e : va_E} (hR : cs_Rel g w0 ws st) (hk : k < 7) (he : cs_cell g (cs_A' st k i v) (8 + k) = e) : cs_Rel g w0 (ws.set (8 + k) (g.2.1 (8 + k), e)) (cs_A' st k i v) :=
  hR.put (by omega) he (fun j _ hne => cs_cell_ext (fun _ => rfl) (fun _ _ _ _ => rfl) (fun _ => rfl) (fun _ _ => va_up_ne _ _ (by omega)) (fun _ _ => rfl) (fun _ _ => rfl) (fun _ => rfl))
theorem cs_Rel.putR {k i : Nat} {v : Int32} (hR : cs_Rel g w0 ws st) (hk : k < 6) : cs_Rel g w0 (ws.set (15 + k) (g.2.1 (15 + k), .inl (g.2.2 0, 6, .inl (upd (cs_R st k) i v)))) (cs_R' st k i v) :=
  hR.put (by omega) ((cs_cellR hk).trans (by rw [show cs_R (cs_R' st k i v) k = upd (cs_R st k) i v from va_up_self _ _ _])) (fun j _ hne => cs_cell_ext (fun _ => rfl) (fun _ _ _ _ => rfl) (fun _ => rfl) (fun _ _ => rfl) (fun _ _ => va_up_ne _ _ (by omega)) (fun _ _ => rfl) (fun _ => rfl))
theorem cs_Rel.putP {k i : Nat} {v : Int32} (hR : cs_Rel g w0 ws st) (hk : k < 2) : cs_Rel g w0 (ws.set (21 + k) (g.2.1 (21 + k), .inl (g.2.2 0, 72, .inl (upd (cs_P st k) i v)))) (cs_P' st k i v) :=
  hR.put (by omega) ((cs_cellP hk).trans (by rw [show cs_P (cs_P' st k i v) k = upd (cs_P st k) i v from va_up_self _ _ _])) (fun j _ hne => cs_cell_ext (fun _ => rfl) (fun _ _ _ _ => rfl) (fun _ => rfl) (fun _ _ => rfl) (fun _ _ => rfl) (fun _ _ => va_up_ne _ _ (by omega)) (fun _ => rfl))
theorem cs_Rel.putF {f : Nat} {t : Int64 × Int64 × Int32} (hR : cs_Rel g w0 ws st) (hf : f < 12) : cs_Rel g w0 (ws.set (23 + f) (g.2.1 (23 + f), .inr (0, [.long t.1, .long t.2.1, .int t.2.2]))) (cs_F' st f t) :=
  hR.put (by omega) ((cs_cellF hf).trans (by rw [show cs_F (cs_F' st f t) f = t from va_up_self _ _ _])) (fun j _ hne => cs_cell_ext (fun _ => rfl) (fun _ _ _ _ => rfl) (fun _ => rfl) (fun _ _ => rfl) (fun _ _ => rfl) (fun _ _ => rfl) (fun _ => va_up_ne _ _ (by omega)))
theorem cs_Rel.putF0 {f : Nat} (hR : cs_Rel g w0 ws st) (hf : f < 12) (v : Int64) : cs_Rel g w0 (ws.set (23 + f) (g.2.1 (23 + f), .inr (0, [.long v, .long (cs_F st f).2.1, .int (cs_F st f).2.2]))) (cs_F0' st f v) := hR.putF (t := (v, (cs_F st f).2)) hf
theorem cs_Rel.putF1 {f : Nat} (hR : cs_Rel g w0 ws st) (hf : f < 12) (v : Int64) : cs_Rel g w0 (ws.set (23 + f) (g.2.1 (23 + f), .inr (0, [.long (cs_F st f).1, .long v, .int (cs_F st f).2.2]))) (cs_F1' st f v) := hR.putF (t := ((cs_F st f).1, v, (cs_F st f).2.2)) hf
theorem cs_Rel.putF2 {f : Nat} (hR : cs_Rel g w0 ws st) (hf : f < 12) (v : Int32) : cs_Rel g w0 (ws.set (23 + f) (g.2.1 (23 + f), .inr (0, [.long (cs_F st f).1, .long (cs_F st f).2.1, .int v]))) (cs_F2' st f v) := hR.putF (t := ((cs_F st f).1, (cs_F st f).2.1, v)) hf
end CTP
/-! arrays -/
section CTR
variable {p : Program} {l : Launch} {e : Env} {R : Room} {s : State} {m : MethodId} {args : Array Value} {below : List Frame} {meth : Method} {c : Code} {H : Heap} {locs : List Loc} {cells slots : Nat} {Q : State → Prop} {own : String} {cc : ByteArray} {nL : Nat} {g : Gx} {A : Nat → Prop} {w0 ws : va_W} {pc : Nat} {ls : Array Slot} {rest : List Value} {st : CS} {k r : Nat} {i x : Int32}
theorem cs_Rel.aA {w0 ws : va_W} {st : CS} (hR : cs_Rel g w0 ws st) (hk : k < 4) : ws[8 + k]? = some (g.2.1 (8 + k), .inl (g.2.2 0, 60, .inl (cs_A st k))) := by rw [← cs_cellA (g := g) hk]; exact hR.1 _ (by omega)
theorem cs_Rel.aZ {w0 ws : va_W} {st : CS} (hR : cs_Rel g w0 ws st) (h4 : 4 ≤ k) (hk : k < 6) : ws[8 + k]? = some (g.2.1 (8 + k), .inl (g.2.2 1, 60, .inl (cs_A st k))) := by rw [← cs_cellZ (g := g) h4 hk]; exact hR.1 _ (by omega)
theorem cs_Rel.aR {w0 ws : va_W} {st : CS} (hR : cs_Rel g w0 ws st) (hr : r < 6) : ws[15 + r]? = some (g.2.1 (15 + r), .inl (g.2.2 0, 6, .inl (cs_R st r))) := by rw [← cs_cellR (g := g) hr]; exact hR.1 _ (by omega)
theorem cs_Rel.aP {w0 ws : va_W} {st : CS} (hR : cs_Rel g w0 ws st) (hr : r < 2) : ws[21 + r]? = some (g.2.1 (21 + r), .inl (g.2.2 0, 72, .inl (cs_P st r))) := by rw [← cs_cellP (g := g) hr]; exact hR.1 _ (by omega)
theorem ct_ldA (C0 : ct_Cx own cc nL p s m args meth c g A) (hw : ct_Wd g A s ws H locs) (hR : cs_Rel g w0 ws st) (hk : k < 4) (hi : vp_in i 60) (hdg : decode cc pc = .ok (.iaload, 1)) (kk : W p l e R s m args below meth c H locs cells slots Q (F0 m (pc + 1) ls (.int (cs_A st k i.toNatClampNeg) :: rest))) : W p l e R s m args below meth c H locs cells slots Q (F0 m pc ls (.int i :: .ref (g.2.1 (8 + k)) :: rest)) :=
  va_iald C0.1 C0.2.1 C0.2.2.2.2.2.1.1 hw.1 (8 + k) 0 (hR.aA hk) rfl hi hdg kk
theorem ct_ldZ (C0 : ct_Cx own cc nL p s m args meth c g A) (hw : ct_Wd g A s ws H locs) (hR : cs_Rel g w0 ws st) (h4 : 4 ≤ k) (hk : k < 6) (hi : vp_in i 60) (hdg : decode cc pc = .ok (.baload, 1)) (kk : W p l e R s m args below meth c H locs cells slots Q (F0 m (pc + 1) ls (.int (cs_A st k i.toNatClampNeg) :: rest))) : W p l e R s m args below meth c H locs cells slots Q (F0 m pc ls (.int i :: .ref (g.2.1 (8 + k)) :: rest)) :=
  va_zald C0.1 C0.2.1 C0.2.2.2.2.2.1.1 hw.1 (8 + k) 1 (hR.aZ h4 hk) rfl hi hdg kk
theorem ct_ldO (C0 : ct_Cx own cc nL p s m args meth c g A) (hw : ct_Wd g A s ws H locs) (hR : cs_Rel g w0 ws st) (hi : vp_in i 36) (hdg : decode cc pc = .ok (.baload, 1)) (kk : W p l e R s m args below meth c H locs cells slots Q (F0 m (pc + 1) ls (.int (cs_A st 6 i.toNatClampNeg) :: rest))) : W p l e R s m args below meth c H locs cells slots Q (F0 m pc ls (.int i :: .ref (g.2.1 14) :: rest)) :=
  va_zald C0.1 C0.2.1 C0.2.2.2.2.2.1.1 hw.1 14 1 (hR.1 14 (by decide)) rfl hi hdg kk
theorem ct_lena (C0 : ct_Cx own cc nL p s m args meth c g A) (hw : ct_Wd g A s ws H locs) (hR : cs_Rel g w0 ws st) (hdg : decode cc pc = .ok (.arraylength, 1)) (kk : W p l e R s m args below meth c H locs cells slots Q (F0 m (pc + 1) ls (.int 36 :: rest))) : W p l e R s m args below meth c H locs cells slots Q (F0 m pc ls (.ref (g.2.1 14) :: rest)) :=
  va_alen (ty := .boolean) C0.1 C0.2.1 C0.2.2.2.2.2.1.1 hw.1 14 1 (hR.1 14 (by decide)) rfl rfl hdg kk
theorem ct_ldrw (C0 : ct_Cx own cc nL p s m args meth c g A) (hw : ct_Wd g A s ws H locs) (hR : cs_Rel g w0 ws st) (hr : r < 6) (hi : vp_in i 6) (hdg : decode cc pc = .ok (.iaload, 1)) (kk : W p l e R s m args below meth c H locs cells slots Q (F0 m (pc + 1) ls (.int (cs_R st r i.toNatClampNeg) :: rest))) : W p l e R s m args below meth c H locs cells slots Q (F0 m pc ls (.int i :: .ref (g.2.1 (15 + r)) :: rest)) :=
  va_iald C0.1 C0.2.1 C0.2.2.2.2.2.1.1 hw.1 (15 + r) 0 (hR.aR hr) rfl hi hdg kk
theorem ct_ldpm (C0 : ct_Cx own cc nL p s m args meth c g A) (hw : ct_Wd g A s ws H locs) (hR : cs_Rel g w0 ws st) (hr : r < 2) (hi : vp_in i 72) (hdg : decode cc pc = .ok (.iaload, 1)) (kk : W p l e R s m args below meth c H locs cells slots Q (F0 m (pc + 1) ls (.int (cs_P st r i.toNatClampNeg) :: rest))) : W p l e R s m args below meth c H locs cells slots Q (F0 m pc ls (.int i :: .ref (g.2.1 (21 + r)) :: rest)) :=
  va_iald C0.1 C0.2.1 C0.2.2.2.2.2.1.1 hw.1 (21 + r) 0 (hR.aP hr) rfl hi hdg kk
theorem ct_stA (C0 : ct_Cx own cc nL p s m args meth c g A) (hw : ct_Wd g A s ws H locs) (hR : cs_Rel g w0 ws st) (hk : k < 4) (hi : vp_in i 60) (hdg : decode cc pc = .ok (.iastore, 1)) (kk : ∀ (ws : va_W) (H : Heap) (locs : List Loc), ct_Wd g A s ws H locs → cs_Rel g w0 ws (cs_A' st k i.toNatClampNeg x) → W p l e R s m args below meth c H locs cells slots Q (F0 m (pc + 1) ls rest)) : W p l e R s m args below meth c H locs cells slots Q (F0 m pc ls (.int x :: .int i :: .ref (g.2.1 (8 + k)) :: rest)) :=
  va_iast C0.1 C0.2.1 C0.2.2.2.2.2.1.1 hw.1 hw.2.1 hw.2.2 (8 + k) 0 (hR.aA hk) rfl hi hdg (fun H locs hP hD hS => kk _ H locs ⟨hP, hD, hS⟩ (hR.putA (by omega) ((cs_cellA hk).trans (by rw [show cs_A (cs_A' st k i.toNatClampNeg x) k = upd (cs_A st k) i.toNatClampNeg x from va_up_self _ _ _]))))
theorem ct_stZ (C0 : ct_Cx own cc nL p s m args meth c g A) (hw : ct_Wd g A s ws H locs) (hR : cs_Rel g w0 ws st) (h4 : 4 ≤ k) (hk : k < 6) (hi : vp_in i 60) (hdg : decode cc pc = .ok (.bastore, 1)) (kk : ∀ (ws : va_W) (H : Heap) (locs : List Loc), ct_Wd g A s ws H locs → cs_Rel g w0 ws (cs_A' st k i.toNatClampNeg (vp_nar .boolean x)) → W p l e R s m args below meth c H locs cells slots Q (F0 m (pc + 1) ls rest)) : W p l e R s m args below meth c H locs cells slots Q (F0 m pc ls (.int x :: .int i :: .ref (g.2.1 (8 + k)) :: rest)) :=
  va_zast C0.1 C0.2.1 C0.2.2.2.2.2.1.1 hw.1 hw.2.1 hw.2.2 (8 + k) 1 (hR.aZ h4 hk) rfl hi hdg (fun H locs hP hD hS => kk _ H locs ⟨hP, hD, hS⟩ (hR.putA (by omega) ((cs_cellZ h4 hk).trans (by rw [show cs_A (cs_A' st k i.toNatClampNeg (vp_nar .boolean x)) k = upd (cs_A st k) i.toNatClampNeg (vp_nar .boolean x) from va_up_self _ _ _]))))
theorem ct_stO (C0 : ct_Cx own cc nL p s m args meth c g A) (hw : ct_Wd g A s ws H locs) (hR : cs_Rel g w0 ws st) (hi : vp_in i 36) (hdg : decode cc pc = .ok (.bastore, 1)) (kk : ∀ (ws : va_W) (H : Heap) (locs : List Loc), ct_Wd g A s ws H locs → cs_Rel g w0 ws (cs_A' st 6 i.toNatClampNeg (vp_nar .boolean x)) → W p l e R s m args below meth c H locs cells slots Q (F0 m (pc + 1) ls rest)) : W p l e R s m args below meth c H locs cells slots Q (F0 m pc ls (.int x :: .int i :: .ref (g.2.1 14) :: rest)) :=
  va_zast C0.1 C0.2.1 C0.2.2.2.2.2.1.1 hw.1 hw.2.1 hw.2.2 14 1 (hR.1 14 (by decide)) rfl hi hdg (fun H locs hP hD hS => kk _ H locs ⟨hP, hD, hS⟩ (hR.putA (k := 6) (by decide) rfl))
theorem ct_strw (C0 : ct_Cx own cc nL p s m args meth c g A) (hw : ct_Wd g A s ws H locs) (hR : cs_Rel g w0 ws st) (hr : r < 6) (hi : vp_in i 6) (hdg : decode cc pc = .ok (.iastore, 1)) (kk : ∀ (ws : va_W) (H : Heap) (locs : List Loc), ct_Wd g A s ws H locs → cs_Rel g w0 ws (cs_R' st r i.toNatClampNeg x) → W p l e R s m args below meth c H locs cells slots Q (F0 m (pc + 1) ls rest)) : W p l e R s m args below meth c H locs cells slots Q (F0 m pc ls (.int x :: .int i :: .ref (g.2.1 (15 + r)) :: rest)) :=
  va_iast C0.1 C0.2.1 C0.2.2.2.2.2.1.1 hw.1 hw.2.1 hw.2.2 (15 + r) 0 (hR.aR hr) rfl hi hdg (fun H locs hP hD hS => kk _ H locs ⟨hP, hD, hS⟩ (hR.putR hr))
theorem ct_stpm (C0 : ct_Cx own cc nL p s m args meth c g A) (hw : ct_Wd g A s ws H locs) (hR : cs_Rel g w0 ws st) (hr : r < 2) (hi : vp_in i 72) (hdg : decode cc pc = .ok (.iastore, 1)) (kk : ∀ (ws : va_W) (H : Heap) (locs : List Loc), ct_Wd g A s ws H locs → cs_Rel g w0 ws (cs_P' st r i.toNatClampNeg x) → W p l e R s m args below meth c H locs cells slots Q (F0 m (pc + 1) ls rest)) : W p l e R s m args below meth c H locs cells slots Q (F0 m pc ls (.int x :: .int i :: .ref (g.2.1 (21 + r)) :: rest)) :=
  va_iast C0.1 C0.2.1 C0.2.2.2.2.2.1.1 hw.1 hw.2.1 hw.2.2 (21 + r) 0 (hR.aP hr) rfl hi hdg (fun H locs hP hD hS => kk _ H locs ⟨hP, hD, hS⟩ (hR.putP hr))
/-- an array of arrays is read: the row's address -/
theorem ct_ldAA {cA : ClassId} {ty : FieldType} {n q0 t0 a : Nat} {f : Nat → Option Nat} (C0 : ct_Cx own cc nL p s m args meth c g A) (hw : ct_Wd g A s ws H locs) (ha : ws[q0]? = some (a, .inl (cA, n, .inr (.inr (.inr (.inr f)))))) (ht : (ct_ty g)[t0]? = some (cA, ty)) (hty : ty.isReference = true) (hi : vp_in i n) {b : Nat} (hb : f i.toNatClampNeg = some b) (hdg : decode cc pc = .ok (.aaload, 1)) (kk : W p l e R s m args below meth c H locs cells slots Q (F0 m (pc + 1) ls (.ref b :: rest))) : W p l e R s m args below meth c H locs cells slots Q (F0 m pc ls (.int i :: .ref a :: rest)) := by
  have hlt : i.toNatClampNeg < n := Nat.not_le.mp fun q => hi (Or.inr q)
  refine W.aald (v := va_rf (f i.toNatClampNeg)) (ty := ty) C0.1 C0.2.1 (hw.1 q0 _ ha) ((C0.2.2.2.2.2.1.1.2 t0 _ ht).1 n (fun j => va_rf (f j))) hty (fun q => by cases q) (by show ¬ (i < 0 ∨ (arrV _ _ _).slots.size ≤ _); rw [arrV_size]; exact hi) (by show (arrV _ _ _).slots[_]? = _; rw [arrV_read _ _ hlt]) rfl rfl hdg ?_
  rw [hb]
  exact kk
theorem ct_ldoc (C0 : ct_Cx own cc nL p s m args meth c g A) (hw : ct_Wd g A s ws H locs) (hR : cs_Rel g w0 ws st) (hi : vp_in i 6) (hdg : decode cc pc = .ok (.aaload, 1)) (kk : W p l e R s m args below meth c H locs cells slots Q (F0 m (pc + 1) ls (.ref (g.2.1 (15 + i.toNatClampNeg)) :: rest))) : W p l e R s m args below meth c H locs cells slots Q (F0 m pc ls (.int i :: .ref (g.2.1 5) :: rest)) :=
  ct_ldAA (t0 := 3) (ty := .array .int) C0 hw (hR.1 5 (by decide)) rfl rfl hi (if_pos (Nat.not_le.mp fun q => hi (Or.inr q))) hdg kk
theorem ct_ldop (C0 : ct_Cx own cc nL p s m args meth c g A) (hw : ct_Wd g A s ws H locs) (hR : cs_Rel g w0 ws st) (hi : vp_in i 2) (hdg : decode cc pc = .ok (.aaload, 1)) (kk : W p l e R s m args below meth c H locs cells slots Q (F0 m (pc + 1) ls (.ref (g.2.1 (21 + i.toNatClampNeg)) :: rest))) : W p l e R s m args below meth c H locs cells slots Q (F0 m pc ls (.int i :: .ref (g.2.1 6) :: rest)) :=
  ct_ldAA (t0 := 3) (ty := .array .int) C0 hw (hR.1 6 (by decide)) rfl rfl hi (if_pos (Nat.not_le.mp fun q => hi (Or.inr q))) hdg kk
theorem ct_ldlk (C0 : ct_Cx own cc nL p s m args meth c g A) (hw : ct_Wd g A s ws H locs) (hR : cs_Rel g w0 ws st) (hi : vp_in i 5) (hdg : decode cc pc = .ok (.aaload, 1)) (kk : W p l e R s m args below meth c H locs cells slots Q (F0 m (pc + 1) ls (.ref (g.2.1 (23 + (3 + i.toNatClampNeg))) :: rest))) : W p l e R s m args below meth c H locs cells slots Q (F0 m pc ls (.int i :: .ref (g.2.1 7) :: rest)) :=
  ct_ldAA (t0 := 4) (ty := .object R_Fr) C0 hw (hR.1 7 (by decide)) rfl rfl hi ((if_pos (Nat.not_le.mp fun q => hi (Or.inr q))).trans (by rw [show 23 + (3 + i.toNatClampNeg) = 26 + i.toNatClampNeg by omega])) hdg kk
end CTR
end
section
abbrev rm_CT_within : Room := { frames := 0, cells := 0, slots := 0, locals := 0 }
abbrev rm_CT_check : Room := { frames := 6, cells := 1, slots := 6, locals := 90 }
abbrev rm_CT_isLine : Room := { frames := 1, cells := 0, slots := 0, locals := 22 }
abbrev rm_CT_checkMonths : Room := { frames := 7, cells := 1, slots := 6, locals := 110 }
abbrev rm_Le_append : Room := { frames := 0, cells := 0, slots := 0, locals := 0 }
abbrev rm_Tr_clear : Room := { frames := 0, cells := 0, slots := 0, locals := 0 }
abbrev rm_Le_livesIn : Room := { frames := 0, cells := 0, slots := 0, locals := 0 }
abbrev rm_Tr_add : Room := { frames := 0, cells := 0, slots := 0, locals := 0 }
abbrev rm_Le_replaces : Room := { frames := 1, cells := 0, slots := 0, locals := 22 }
abbrev rm_Le_replacedIn : Room := { frames := 2, cells := 0, slots := 0, locals := 44 }
abbrev rm_Tr_addEstimate : Room := { frames := 3, cells := 0, slots := 0, locals := 67 }
abbrev rm_Tr_accumulate : Room := { frames := 0, cells := 0, slots := 0, locals := 0 }
abbrev rm_Tr_fill : Room := { frames := 4, cells := 0, slots := 0, locals := 91 }
abbrev rm_CT_enter : Room := { frames := 8, cells := 3, slots := 18, locals := 131 }
abbrev rm_CT_pay : Room := { frames := 9, cells := 4, slots := 24, locals := 157 }
abbrev rm_CT_estimate : Room := { frames := 9, cells := 4, slots := 24, locals := 157 }
abbrev rm_CT_checkEntry : Room := { frames := 7, cells := 1, slots := 6, locals := 110 }
abbrev rm_CT_checkLiving : Room := { frames := 6, cells := 1, slots := 6, locals := 90 }
abbrev rm_CT_strike : Room := { frames := 8, cells := 2, slots := 12, locals := 131 }
abbrev rm_CT_move : Room := { frames := 8, cells := 3, slots := 18, locals := 131 }
abbrev rm_CT_premium : Room := { frames := 7, cells := 1, slots := 6, locals := 110 }
abbrev rm_Fr_divisor : Room := { frames := 1, cells := 0, slots := 0, locals := 23 }
abbrev rm_Fr_become : Room := { frames := 2, cells := 0, slots := 0, locals := 53 }
abbrev rm_Te_ratioOf : Room := { frames := 0, cells := 0, slots := 0, locals := 0 }
abbrev rm_CT_ratio : Room := { frames := 7, cells := 2, slots := 12, locals := 110 }
abbrev rm_Tr_reshape : Room := { frames := 0, cells := 0, slots := 0, locals := 0 }
abbrev rm_CT_build : Room := { frames := 7, cells := 1, slots := 6, locals := 113 }
abbrev rm_Tr_shown : Room := { frames := 0, cells := 0, slots := 0, locals := 0 }
abbrev rm_CT_isCell : Room := { frames := 1, cells := 0, slots := 0, locals := 22 }
abbrev rm_CT_cell : Room := { frames := 7, cells := 1, slots := 6, locals := 110 }
abbrev rm_Tr_mark : Room := { frames := 0, cells := 0, slots := 0, locals := 0 }
abbrev rm_CT_leave : Room := { frames := 7, cells := 1, slots := 6, locals := 110 }
abbrev rm_CT_latest : Room := { frames := 7, cells := 1, slots := 6, locals := 110 }
abbrev rm_CT_hide : Room := { frames := 7, cells := 1, slots := 6, locals := 110 }
abbrev rm_CT_isChain : Room := { frames := 0, cells := 0, slots := 0, locals := 0 }
abbrev rm_Tr_takes : Room := { frames := 0, cells := 0, slots := 0, locals := 0 }
abbrev rm_Re_linkUp : Room := { frames := 3, cells := 0, slots := 0, locals := 81 }
abbrev rm_Re_prepare : Room := { frames := 4, cells := 0, slots := 0, locals := 109 }
abbrev rm_Fr_copy : Room := { frames := 0, cells := 0, slots := 0, locals := 0 }
abbrev rm_Re_toLink : Room := { frames := 1, cells := 0, slots := 0, locals := 21 }
abbrev rm_CT_checkAnswer : Room := { frames := 6, cells := 1, slots := 6, locals := 90 }
abbrev rm_CT_partOfAnswer : Room := { frames := 7, cells := 1, slots := 6, locals := 110 }
abbrev rm_CT_factor : Room := { frames := 8, cells := 2, slots := 12, locals := 132 }
abbrev rm_CT_isMethod : Room := { frames := 1, cells := 0, slots := 0, locals := 22 }
abbrev rm_CT_isRow : Room := { frames := 1, cells := 0, slots := 0, locals := 22 }
abbrev rm_Te_sumPremiums : Room := { frames := 0, cells := 0, slots := 0, locals := 0 }
abbrev rm_Fr_becomeWhole : Room := { frames := 0, cells := 0, slots := 0, locals := 0 }
abbrev rm_Fr_fits : Room := { frames := 1, cells := 0, slots := 0, locals := 23 }
abbrev rm_Fr_times : Room := { frames := 2, cells := 0, slots := 0, locals := 53 }
abbrev rm_Re_expect : Room := { frames := 3, cells := 0, slots := 0, locals := 86 }
abbrev rm_Re_chain : Room := { frames := 3, cells := 0, slots := 0, locals := 86 }
abbrev rm_Fr_invert : Room := { frames := 1, cells := 0, slots := 0, locals := 23 }
abbrev rm_Fr_negate : Room := { frames := 0, cells := 0, slots := 0, locals := 0 }
abbrev rm_Re_asWhole : Room := { frames := 1, cells := 0, slots := 0, locals := 22 }
abbrev rm_Fr_plus : Room := { frames := 2, cells := 0, slots := 0, locals := 53 }
abbrev rm_Tr_latestOf : Room := { frames := 1, cells := 0, slots := 0, locals := 20 }
abbrev rm_Re_blend : Room := { frames := 3, cells := 0, slots := 0, locals := 88 }
abbrev rm_Re_toUltimate : Room := { frames := 4, cells := 0, slots := 0, locals := 109 }
abbrev rm_CT_ultimate : Room := { frames := 8, cells := 2, slots := 12, locals := 132 }
abbrev rm_Re_toReserve : Room := { frames := 5, cells := 0, slots := 0, locals := 131 }
abbrev rm_CT_reserve : Room := { frames := 8, cells := 2, slots := 12, locals := 153 }
abbrev rm_Ma_floorDiv : Room := { frames := 0, cells := 0, slots := 0, locals := 0 }
abbrev rm_Fr_nearest : Room := { frames := 1, cells := 0, slots := 0, locals := 25 }
abbrev rm_CT_rounded : Room := { frames := 7, cells := 2, slots := 12, locals := 153 }
abbrev rm_Re_toTotal : Room := { frames := 6, cells := 0, slots := 0, locals := 153 }
abbrev rm_CT_total : Room := { frames := 8, cells := 2, slots := 12, locals := 175 }
abbrev rm_Re_markRows : Room := { frames := 6, cells := 0, slots := 0, locals := 153 }
abbrev rm_CT_marks : Room := { frames := 7, cells := 1, slots := 6, locals := 176 }
abbrev rm_Re_toSquare : Room := { frames := 3, cells := 0, slots := 0, locals := 88 }
abbrev rm_Re_toDeviation : Room := { frames := 4, cells := 0, slots := 0, locals := 110 }
abbrev rm_CT_deviation : Room := { frames := 8, cells := 2, slots := 12, locals := 133 }
abbrev rm_Re_toError : Room := { frames := 4, cells := 0, slots := 0, locals := 109 }
abbrev rm_CT_error : Room := { frames := 8, cells := 2, slots := 12, locals := 132 }
abbrev rm_Tr_growth : Room := { frames := 0, cells := 0, slots := 0, locals := 0 }
abbrev rm_CT_diagonal : Room := { frames := 7, cells := 1, slots := 6, locals := 110 }
abbrev rm_Le_countLiving : Room := { frames := 0, cells := 0, slots := 0, locals := 0 }
abbrev rm_Le_sumPayments : Room := { frames := 1, cells := 0, slots := 0, locals := 22 }
abbrev rm_CT_count : Room := { frames := 6, cells := 1, slots := 6, locals := 90 }
abbrev rm_Mo_thrown : Room := { frames := 0, cells := 0, slots := 0, locals := 0 }
abbrev rm_Mo_noLine : Room := { frames := 0, cells := 0, slots := 0, locals := 0 }
abbrev rm_Mo_noMonths : Room := { frames := 0, cells := 0, slots := 0, locals := 0 }
abbrev rm_Mo_enter : Room := { frames := 1, cells := 0, slots := 0, locals := 22 }
abbrev rm_Mo_pay : Room := { frames := 2, cells := 0, slots := 0, locals := 48 }
abbrev rm_Mo_estimate : Room := { frames := 2, cells := 0, slots := 0, locals := 48 }
abbrev rm_Mo_noEntry : Room := { frames := 0, cells := 0, slots := 0, locals := 0 }
abbrev rm_Mo_strike : Room := { frames := 1, cells := 0, slots := 0, locals := 21 }
abbrev rm_Mo_move : Room := { frames := 1, cells := 0, slots := 0, locals := 22 }
abbrev rm_Mo_premium : Room := { frames := 1, cells := 0, slots := 0, locals := 21 }
abbrev rm_Mo_divisor : Room := { frames := 0, cells := 0, slots := 0, locals := 0 }
abbrev rm_Mo_ratio : Room := { frames := 1, cells := 0, slots := 0, locals := 30 }
abbrev rm_Mo_build : Room := { frames := 1, cells := 0, slots := 0, locals := 21 }
abbrev rm_Mo_estimateOf : Room := { frames := 0, cells := 0, slots := 0, locals := 0 }
abbrev rm_Mo_sumOf : Room := { frames := 1, cells := 0, slots := 0, locals := 25 }
abbrev rm_Mo_look : Room := { frames := 2, cells := 0, slots := 0, locals := 51 }
abbrev rm_Mo_left : Room := { frames := 0, cells := 0, slots := 0, locals := 0 }
abbrev rm_Mo_noCell : Room := { frames := 0, cells := 0, slots := 0, locals := 0 }
abbrev rm_Mo_cell : Room := { frames := 2, cells := 0, slots := 0, locals := 51 }
abbrev rm_Mo_leave : Room := { frames := 1, cells := 0, slots := 0, locals := 23 }
abbrev rm_Mo_latest : Room := { frames := 0, cells := 0, slots := 0, locals := 0 }
abbrev rm_Mo_hide : Room := { frames := 1, cells := 0, slots := 0, locals := 20 }
abbrev rm_Mo_size : Room := { frames := 0, cells := 0, slots := 0, locals := 0 }
abbrev rm_Mo_isShort : Room := { frames := 1, cells := 0, slots := 0, locals := 22 }
abbrev rm_Mo_set : Room := { frames := 0, cells := 0, slots := 0, locals := 0 }
abbrev rm_Mo_times : Room := { frames := 2, cells := 0, slots := 0, locals := 46 }
abbrev rm_Mo_plus : Room := { frames := 2, cells := 0, slots := 0, locals := 46 }
abbrev rm_Mo_turn : Room := { frames := 1, cells := 0, slots := 0, locals := 24 }
abbrev rm_Mo_takes : Room := { frames := 0, cells := 0, slots := 0, locals := 0 }
abbrev rm_Mo_find : Room := { frames := 1, cells := 0, slots := 0, locals := 30 }
abbrev rm_Mo_areDefined : Room := { frames := 2, cells := 0, slots := 0, locals := 60 }
abbrev rm_Mo_way : Room := { frames := 3, cells := 0, slots := 0, locals := 78 }
abbrev rm_Mo_answer : Room := { frames := 0, cells := 0, slots := 0, locals := 0 }
abbrev rm_Mo_latestOf : Room := { frames := 1, cells := 0, slots := 0, locals := 20 }
abbrev rm_Mo_expect : Room := { frames := 3, cells := 0, slots := 0, locals := 78 }
abbrev rm_Mo_work : Room := { frames := 4, cells := 0, slots := 0, locals := 102 }
abbrev rm_Mo_workReserve : Room := { frames := 5, cells := 0, slots := 0, locals := 126 }
abbrev rm_Mo_told : Room := { frames := 0, cells := 0, slots := 0, locals := 0 }
abbrev rm_Mo_factor : Room := { frames := 3, cells := 0, slots := 0, locals := 73 }
abbrev rm_Mo_noRow : Room := { frames := 1, cells := 0, slots := 0, locals := 20 }
abbrev rm_Mo_ultimate : Room := { frames := 5, cells := 0, slots := 0, locals := 126 }
abbrev rm_Mo_reserve : Room := { frames := 6, cells := 0, slots := 0, locals := 149 }
abbrev rm_Mo_rounded : Room := { frames := 6, cells := 0, slots := 0, locals := 149 }
abbrev rm_Mo_total : Room := { frames := 6, cells := 0, slots := 0, locals := 149 }
abbrev rm_Mo_marks : Room := { frames := 6, cells := 0, slots := 0, locals := 149 }
abbrev rm_Mo_deviation : Room := { frames := 3, cells := 0, slots := 0, locals := 80 }
abbrev rm_Mo_error : Room := { frames := 4, cells := 0, slots := 0, locals := 102 }
abbrev rm_Mo_diagonal : Room := { frames := 3, cells := 0, slots := 0, locals := 73 }
abbrev rm_Mo_count : Room := { frames := 1, cells := 0, slots := 0, locals := 20 }
theorem cs_putI0 {g : Gx} {w0 ws : va_W} {st : CS} (hR : cs_Rel g w0 ws st) (v : Int32) : cs_Rel g w0 (ws.set 1 (g.2.1 1, .inr (1, [.ref (g.2.1 8), .ref (g.2.1 9), .ref (g.2.1 10), .ref (g.2.1 11), .ref (g.2.1 12), .ref (g.2.1 13), .int v]))) (cs_I' st 0 v) :=
  hR.put (by decide) rfl (fun j _ hne => cs_cell_ext (fun e => absurd e hne) (fun _ q a b => va_up_ne _ _ (by omega)) (fun _ => rfl) (fun _ _ => rfl) (fun _ _ => rfl) (fun _ _ => rfl) (fun _ => rfl))
theorem cs_putI1 {g : Gx} {w0 ws : va_W} {st : CS} (hR : cs_Rel g w0 ws st) (v : Int32) : cs_Rel g w0 (ws.set 2 (g.2.1 2, .inr (4, [.ref (g.2.1 5), .ref (g.2.1 14), .int v, .int (cs_I st 2), .int (cs_I st 3), .int (cs_I st 4), .int (cs_I st 5)]))) (cs_I' st 1 v) :=
  hR.put (by decide) rfl (fun j _ hne => cs_cell_ext (fun _ => rfl) (fun e => absurd e hne) (fun _ => rfl) (fun _ _ => rfl) (fun _ _ => rfl) (fun _ _ => rfl) (fun _ => rfl))
theorem cs_putI2 {g : Gx} {w0 ws : va_W} {st : CS} (hR : cs_Rel g w0 ws st) (v : Int32) : cs_Rel g w0 (ws.set 2 (g.2.1 2, .inr (4, [.ref (g.2.1 5), .ref (g.2.1 14), .int (cs_I st 1), .int v, .int (cs_I st 3), .int (cs_I st 4), .int (cs_I st 5)]))) (cs_I' st 2 v) :=
  hR.put (by decide) rfl (fun j _ hne => cs_cell_ext (fun _ => rfl) (fun e => absurd e hne) (fun _ => rfl) (fun _ _ => rfl) (fun _ _ => rfl) (fun _ _ => rfl) (fun _ => rfl))
theorem cs_putI3 {g : Gx} {w0 ws : va_W} {st : CS} (hR : cs_Rel g w0 ws st) (v : Int32) : cs_Rel g w0 (ws.set 2 (g.2.1 2, .inr (4, [.ref (g.2.1 5), .ref (g.2.1 14), .int (cs_I st 1), .int (cs_I st 2), .int v, .int (cs_I st 4), .int (cs_I st 5)]))) (cs_I' st 3 v) :=
  hR.put (by decide) rfl (fun j _ hne => cs_cell_ext (fun _ => rfl) (fun e => absurd e hne) (fun _ => rfl) (fun _ _ => rfl) (fun _ _ => rfl) (fun _ _ => rfl) (fun _ => rfl))
theorem cs_putI4 {g : Gx} {w0 ws : va_W} {st : CS} (hR : cs_Rel g w0 ws st) (v : Int32) : cs_Rel g w0 (ws.set 2 (g.2.1 2, .inr (4, [.ref (g.2.1 5), .ref (g.2.1 14), .int (cs_I st 1), .int (cs_I st 2), .int (cs_I st 3), .int v, .int (cs_I st 5)]))) (cs_I' st 4 v) :=
  hR.put (by decide) rfl (fun j _ hne => cs_cell_ext (fun _ => rfl) (fun e => absurd e hne) (fun _ => rfl) (fun _ _ => rfl) (fun _ _ => rfl) (fun _ _ => rfl) (fun _ => rfl))
theorem cs_putI5 {g : Gx} {w0 ws : va_W} {st : CS} (hR : cs_Rel g w0 ws st) (v : Int32) : cs_Rel g w0 (ws.set 2 (g.2.1 2, .inr (4, [.ref (g.2.1 5), .ref (g.2.1 14), .int (cs_I st 1), .int (cs_I st 2), .int (cs_I st 3), .int (cs_I st 4), .int v]))) (cs_I' st 5 v) :=
  hR.put (by decide) rfl (fun j _ hne => cs_cell_ext (fun _ => rfl) (fun e => absurd e hne) (fun _ => rfl) (fun _ _ => rfl) (fun _ _ => rfl) (fun _ _ => rfl) (fun _ => rfl))
theorem cs_putI6 {g : Gx} {w0 ws : va_W} {st : CS} (hR : cs_Rel g w0 ws st) (v : Int32) : cs_Rel g w0 (ws.set 3 (g.2.1 3, .inr (3, [.ref (g.2.1 6), .ref (g.2.1 23), .ref (g.2.1 24), .ref (g.2.1 25), .int v]))) (cs_I' st 6 v) :=
  hR.put (by decide) rfl (fun j _ hne => cs_cell_ext (fun _ => rfl) (fun _ q a b => va_up_ne _ _ (by omega)) (fun e => absurd e hne) (fun _ _ => rfl) (fun _ _ => rfl) (fun _ _ => rfl) (fun _ => rfl))
theorem ms_putI0 {g : Gx} {w0 ws : va_W} {st : MS} (hR : ms_Rel g w0 ws st) (v : Int32) : ms_Rel g w0 (ws.set 35 (g.2.1 35, .inr (6, [.int v, .int (ms_I st 1), .ref (g.2.1 36), .ref (g.2.1 37), .ref (g.2.1 38), .ref (g.2.1 39), .ref (g.2.1 40), .ref (g.2.1 41), .ref (g.2.1 42), .ref (g.2.1 43), .ref (g.2.1 44), .int (ms_I st 2), .int (ms_I st 3), .int (ms_I st 4), .int (ms_I st 5), .int (ms_I st 6), .int (ms_I st 7), .ref (g.2.1 45), .ref (g.2.1 46), .long (ms_L st 0), .long (ms_L st 1), .int (ms_I st 8), .long (ms_L st 2), .long (ms_L st 3), .long (ms_L st 4), .long (ms_L st 5)]))) (ms_I' st 0 v) :=
  hR.put (by decide) (by decide) rfl (fun j h9 _ hne => ms_cell_ext (fun e => absurd e hne) (fun _ _ => rfl) (fun _ _ => rfl) (fun _ => rfl) (fun _ => rfl) h9)
theorem ms_putI1 {g : Gx} {w0 ws : va_W} {st : MS} (hR : ms_Rel g w0 ws st) (v : Int32) : ms_Rel g w0 (ws.set 35 (g.2.1 35, .inr (6, [.int (ms_I st 0), .int v, .ref (g.2.1 36), .ref (g.2.1 37), .ref (g.2.1 38), .ref (g.2.1 39), .ref (g.2.1 40), .ref (g.2.1 41), .ref (g.2.1 42), .ref (g.2.1 43), .ref (g.2.1 44), .int (ms_I st 2), .int (ms_I st 3), .int (ms_I st 4), .int (ms_I st 5), .int (ms_I st 6), .int (ms_I st 7), .ref (g.2.1 45), .ref (g.2.1 46), .long (ms_L st 0), .long (ms_L st 1), .int (ms_I st 8), .long (ms_L st 2), .long (ms_L st 3), .long (ms_L st 4), .long (ms_L st 5)]))) (ms_I' st 1 v) :=
  hR.put (by decide) (by decide) rfl (fun j h9 _ hne => ms_cell_ext (fun e => absurd e hne) (fun _ _ => rfl) (fun _ _ => rfl) (fun _ => rfl) (fun _ => rfl) h9)
theorem ms_putI2 {g : Gx} {w0 ws : va_W} {st : MS} (hR : ms_Rel g w0 ws st) (v : Int32) : ms_Rel g w0 (ws.set 35 (g.2.1 35, .inr (6, [.int (ms_I st 0), .int (ms_I st 1), .ref (g.2.1 36), .ref (g.2.1 37), .ref (g.2.1 38), .ref (g.2.1 39), .ref (g.2.1 40), .ref (g.2.1 41), .ref (g.2.1 42), .ref (g.2.1 43), .ref (g.2.1 44), .int v, .int (ms_I st 3), .int (ms_I st 4), .int (ms_I st 5), .int (ms_I st 6), .int (ms_I st 7), .ref (g.2.1 45), .ref (g.2.1 46), .long (ms_L st 0), .long (ms_L st 1), .int (ms_I st 8), .long (ms_L st 2), .long (ms_L st 3), .long (ms_L st 4), .long (ms_L st 5)]))) (ms_I' st 2 v) :=
  hR.put (by decide) (by decide) rfl (fun j h9 _ hne => ms_cell_ext (fun e => absurd e hne) (fun _ _ => rfl) (fun _ _ => rfl) (fun _ => rfl) (fun _ => rfl) h9)
theorem ms_putI3 {g : Gx} {w0 ws : va_W} {st : MS} (hR : ms_Rel g w0 ws st) (v : Int32) : ms_Rel g w0 (ws.set 35 (g.2.1 35, .inr (6, [.int (ms_I st 0), .int (ms_I st 1), .ref (g.2.1 36), .ref (g.2.1 37), .ref (g.2.1 38), .ref (g.2.1 39), .ref (g.2.1 40), .ref (g.2.1 41), .ref (g.2.1 42), .ref (g.2.1 43), .ref (g.2.1 44), .int (ms_I st 2), .int v, .int (ms_I st 4), .int (ms_I st 5), .int (ms_I st 6), .int (ms_I st 7), .ref (g.2.1 45), .ref (g.2.1 46), .long (ms_L st 0), .long (ms_L st 1), .int (ms_I st 8), .long (ms_L st 2), .long (ms_L st 3), .long (ms_L st 4), .long (ms_L st 5)]))) (ms_I' st 3 v) :=
  hR.put (by decide) (by decide) rfl (fun j h9 _ hne => ms_cell_ext (fun e => absurd e hne) (fun _ _ => rfl) (fun _ _ => rfl) (fun _ => rfl) (fun _ => rfl) h9)
theorem ms_putI4 {g : Gx} {w0 ws : va_W} {st : MS} (hR : ms_Rel g w0 ws st) (v : Int32) : ms_Rel g w0 (ws.set 35 (g.2.1 35, .inr (6, [.int (ms_I st 0), .int (ms_I st 1), .ref (g.2.1 36), .ref (g.2.1 37), .ref (g.2.1 38), .ref (g.2.1 39), .ref (g.2.1 40), .ref (g.2.1 41), .ref (g.2.1 42), .ref (g.2.1 43), .ref (g.2.1 44), .int (ms_I st 2), .int (ms_I st 3), .int v, .int (ms_I st 5), .int (ms_I st 6), .int (ms_I st 7), .ref (g.2.1 45), .ref (g.2.1 46), .long (ms_L st 0), .long (ms_L st 1), .int (ms_I st 8), .long (ms_L st 2), .long (ms_L st 3), .long (ms_L st 4), .long (ms_L st 5)]))) (ms_I' st 4 v) :=
  hR.put (by decide) (by decide) rfl (fun j h9 _ hne => ms_cell_ext (fun e => absurd e hne) (fun _ _ => rfl) (fun _ _ => rfl) (fun _ => rfl) (fun _ => rfl) h9)
theorem ms_putI5 {g : Gx} {w0 ws : va_W} {st : MS} (hR : ms_Rel g w0 ws st) (v : Int32) : ms_Rel g w0 (ws.set 35 (g.2.1 35, .inr (6, [.int (ms_I st 0), .int (ms_I st 1), .ref (g.2.1 36), .ref (g.2.1 37), .ref (g.2.1 38), .ref (g.2.1 39), .ref (g.2.1 40), .ref (g.2.1 41), .ref (g.2.1 42), .ref (g.2.1 43), .ref (g.2.1 44), .int (ms_I st 2), .int (ms_I st 3), .int (ms_I st 4), .int v, .int (ms_I st 6), .int (ms_I st 7), .ref (g.2.1 45), .ref (g.2.1 46), .long (ms_L st 0), .long (ms_L st 1), .int (ms_I st 8), .long (ms_L st 2), .long (ms_L st 3), .long (ms_L st 4), .long (ms_L st 5)]))) (ms_I' st 5 v) :=
  hR.put (by decide) (by decide) rfl (fun j h9 _ hne => ms_cell_ext (fun e => absurd e hne) (fun _ _ => rfl) (fun _ _ => rfl) (fun _ => rfl) (fun _ => rfl) h9)
theorem ms_putI6 {g : Gx} {w0 ws : va_W} {st : MS} (hR : ms_Rel g w0 ws st) (v : Int32) : ms_Rel g w0 (ws.set 35 (g.2.1 35, .inr (6, [.int (ms_I st 0), .int (ms_I st 1), .ref (g.2.1 36), .ref (g.2.1 37), .ref (g.2.1 38), .ref (g.2.1 39), .ref (g.2.1 40), .ref (g.2.1 41), .ref (g.2.1 42), .ref (g.2.1 43), .ref (g.2.1 44), .int (ms_I st 2), .int (ms_I st 3), .int (ms_I st 4), .int (ms_I st 5), .int v, .int (ms_I st 7), .ref (g.2.1 45), .ref (g.2.1 46), .long (ms_L st 0), .long (ms_L st 1), .int (ms_I st 8), .long (ms_L st 2), .long (ms_L st 3), .long (ms_L st 4), .long (ms_L st 5)]))) (ms_I' st 6 v) :=
  hR.put (by decide) (by decide) rfl (fun j h9 _ hne => ms_cell_ext (fun e => absurd e hne) (fun _ _ => rfl) (fun _ _ => rfl) (fun _ => rfl) (fun _ => rfl) h9)
theorem ms_putI7 {g : Gx} {w0 ws : va_W} {st : MS} (hR : ms_Rel g w0 ws st) (v : Int32) : ms_Rel g w0 (ws.set 35 (g.2.1 35, .inr (6, [.int (ms_I st 0), .int (ms_I st 1), .ref (g.2.1 36), .ref (g.2.1 37), .ref (g.2.1 38), .ref (g.2.1 39), .ref (g.2.1 40), .ref (g.2.1 41), .ref (g.2.1 42), .ref (g.2.1 43), .ref (g.2.1 44), .int (ms_I st 2), .int (ms_I st 3), .int (ms_I st 4), .int (ms_I st 5), .int (ms_I st 6), .int v, .ref (g.2.1 45), .ref (g.2.1 46), .long (ms_L st 0), .long (ms_L st 1), .int (ms_I st 8), .long (ms_L st 2), .long (ms_L st 3), .long (ms_L st 4), .long (ms_L st 5)]))) (ms_I' st 7 v) :=
  hR.put (by decide) (by decide) rfl (fun j h9 _ hne => ms_cell_ext (fun e => absurd e hne) (fun _ _ => rfl) (fun _ _ => rfl) (fun _ => rfl) (fun _ => rfl) h9)
theorem ms_putI8 {g : Gx} {w0 ws : va_W} {st : MS} (hR : ms_Rel g w0 ws st) (v : Int32) : ms_Rel g w0 (ws.set 35 (g.2.1 35, .inr (6, [.int (ms_I st 0), .int (ms_I st 1), .ref (g.2.1 36), .ref (g.2.1 37), .ref (g.2.1 38), .ref (g.2.1 39), .ref (g.2.1 40), .ref (g.2.1 41), .ref (g.2.1 42), .ref (g.2.1 43), .ref (g.2.1 44), .int (ms_I st 2), .int (ms_I st 3), .int (ms_I st 4), .int (ms_I st 5), .int (ms_I st 6), .int (ms_I st 7), .ref (g.2.1 45), .ref (g.2.1 46), .long (ms_L st 0), .long (ms_L st 1), .int v, .long (ms_L st 2), .long (ms_L st 3), .long (ms_L st 4), .long (ms_L st 5)]))) (ms_I' st 8 v) :=
  hR.put (by decide) (by decide) rfl (fun j h9 _ hne => ms_cell_ext (fun e => absurd e hne) (fun _ _ => rfl) (fun _ _ => rfl) (fun _ => rfl) (fun _ => rfl) h9)
theorem ms_putL0 {g : Gx} {w0 ws : va_W} {st : MS} (hR : ms_Rel g w0 ws st) (v : Int64) : ms_Rel g w0 (ws.set 35 (g.2.1 35, .inr (6, [.int (ms_I st 0), .int (ms_I st 1), .ref (g.2.1 36), .ref (g.2.1 37), .ref (g.2.1 38), .ref (g.2.1 39), .ref (g.2.1 40), .ref (g.2.1 41), .ref (g.2.1 42), .ref (g.2.1 43), .ref (g.2.1 44), .int (ms_I st 2), .int (ms_I st 3), .int (ms_I st 4), .int (ms_I st 5), .int (ms_I st 6), .int (ms_I st 7), .ref (g.2.1 45), .ref (g.2.1 46), .long v, .long (ms_L st 1), .int (ms_I st 8), .long (ms_L st 2), .long (ms_L st 3), .long (ms_L st 4), .long (ms_L st 5)]))) (ms_L' st 0 v) :=
  hR.put (by decide) (by decide) rfl (fun j h9 _ hne => ms_cell_ext (fun e => absurd e hne) (fun _ _ => rfl) (fun _ _ => rfl) (fun _ => rfl) (fun _ => rfl) h9)
theorem ms_putL1 {g : Gx} {w0 ws : va_W} {st : MS} (hR : ms_Rel g w0 ws st) (v : Int64) : ms_Rel g w0 (ws.set 35 (g.2.1 35, .inr (6, [.int (ms_I st 0), .int (ms_I st 1), .ref (g.2.1 36), .ref (g.2.1 37), .ref (g.2.1 38), .ref (g.2.1 39), .ref (g.2.1 40), .ref (g.2.1 41), .ref (g.2.1 42), .ref (g.2.1 43), .ref (g.2.1 44), .int (ms_I st 2), .int (ms_I st 3), .int (ms_I st 4), .int (ms_I st 5), .int (ms_I st 6), .int (ms_I st 7), .ref (g.2.1 45), .ref (g.2.1 46), .long (ms_L st 0), .long v, .int (ms_I st 8), .long (ms_L st 2), .long (ms_L st 3), .long (ms_L st 4), .long (ms_L st 5)]))) (ms_L' st 1 v) :=
  hR.put (by decide) (by decide) rfl (fun j h9 _ hne => ms_cell_ext (fun e => absurd e hne) (fun _ _ => rfl) (fun _ _ => rfl) (fun _ => rfl) (fun _ => rfl) h9)
theorem ms_putL2 {g : Gx} {w0 ws : va_W} {st : MS} (hR : ms_Rel g w0 ws st) (v : Int64) : ms_Rel g w0 (ws.set 35 (g.2.1 35, .inr (6, [.int (ms_I st 0), .int (ms_I st 1), .ref (g.2.1 36), .ref (g.2.1 37), .ref (g.2.1 38), .ref (g.2.1 39), .ref (g.2.1 40), .ref (g.2.1 41), .ref (g.2.1 42), .ref (g.2.1 43), .ref (g.2.1 44), .int (ms_I st 2), .int (ms_I st 3), .int (ms_I st 4), .int (ms_I st 5), .int (ms_I st 6), .int (ms_I st 7), .ref (g.2.1 45), .ref (g.2.1 46), .long (ms_L st 0), .long (ms_L st 1), .int (ms_I st 8), .long v, .long (ms_L st 3), .long (ms_L st 4), .long (ms_L st 5)]))) (ms_L' st 2 v) :=
  hR.put (by decide) (by decide) rfl (fun j h9 _ hne => ms_cell_ext (fun e => absurd e hne) (fun _ _ => rfl) (fun _ _ => rfl) (fun _ => rfl) (fun _ => rfl) h9)
theorem ms_putL3 {g : Gx} {w0 ws : va_W} {st : MS} (hR : ms_Rel g w0 ws st) (v : Int64) : ms_Rel g w0 (ws.set 35 (g.2.1 35, .inr (6, [.int (ms_I st 0), .int (ms_I st 1), .ref (g.2.1 36), .ref (g.2.1 37), .ref (g.2.1 38), .ref (g.2.1 39), .ref (g.2.1 40), .ref (g.2.1 41), .ref (g.2.1 42), .ref (g.2.1 43), .ref (g.2.1 44), .int (ms_I st 2), .int (ms_I st 3), .int (ms_I st 4), .int (ms_I st 5), .int (ms_I st 6), .int (ms_I st 7), .ref (g.2.1 45), .ref (g.2.1 46), .long (ms_L st 0), .long (ms_L st 1), .int (ms_I st 8), .long (ms_L st 2), .long v, .long (ms_L st 4), .long (ms_L st 5)]))) (ms_L' st 3 v) :=
  hR.put (by decide) (by decide) rfl (fun j h9 _ hne => ms_cell_ext (fun e => absurd e hne) (fun _ _ => rfl) (fun _ _ => rfl) (fun _ => rfl) (fun _ => rfl) h9)
theorem ms_putL4 {g : Gx} {w0 ws : va_W} {st : MS} (hR : ms_Rel g w0 ws st) (v : Int64) : ms_Rel g w0 (ws.set 35 (g.2.1 35, .inr (6, [.int (ms_I st 0), .int (ms_I st 1), .ref (g.2.1 36), .ref (g.2.1 37), .ref (g.2.1 38), .ref (g.2.1 39), .ref (g.2.1 40), .ref (g.2.1 41), .ref (g.2.1 42), .ref (g.2.1 43), .ref (g.2.1 44), .int (ms_I st 2), .int (ms_I st 3), .int (ms_I st 4), .int (ms_I st 5), .int (ms_I st 6), .int (ms_I st 7), .ref (g.2.1 45), .ref (g.2.1 46), .long (ms_L st 0), .long (ms_L st 1), .int (ms_I st 8), .long (ms_L st 2), .long (ms_L st 3), .long v, .long (ms_L st 5)]))) (ms_L' st 4 v) :=
  hR.put (by decide) (by decide) rfl (fun j h9 _ hne => ms_cell_ext (fun e => absurd e hne) (fun _ _ => rfl) (fun _ _ => rfl) (fun _ => rfl) (fun _ => rfl) h9)
theorem ms_putL5 {g : Gx} {w0 ws : va_W} {st : MS} (hR : ms_Rel g w0 ws st) (v : Int64) : ms_Rel g w0 (ws.set 35 (g.2.1 35, .inr (6, [.int (ms_I st 0), .int (ms_I st 1), .ref (g.2.1 36), .ref (g.2.1 37), .ref (g.2.1 38), .ref (g.2.1 39), .ref (g.2.1 40), .ref (g.2.1 41), .ref (g.2.1 42), .ref (g.2.1 43), .ref (g.2.1 44), .int (ms_I st 2), .int (ms_I st 3), .int (ms_I st 4), .int (ms_I st 5), .int (ms_I st 6), .int (ms_I st 7), .ref (g.2.1 45), .ref (g.2.1 46), .long (ms_L st 0), .long (ms_L st 1), .int (ms_I st 8), .long (ms_L st 2), .long (ms_L st 3), .long (ms_L st 4), .long v]))) (ms_L' st 5 v) :=
  hR.put (by decide) (by decide) rfl (fun j h9 _ hne => ms_cell_ext (fun e => absurd e hne) (fun _ _ => rfl) (fun _ _ => rfl) (fun _ => rfl) (fun _ => rfl) h9)
theorem ok_thr_193 : (∀ w ∈ (vx_atS R_CT 193 "java/lang/IllegalArgumentException" ["java/lang/RuntimeException", "java/lang/Exception"]).filter goodWord, w ∈ Wds) ∧ (∀ w ∈ (vx_atS R_CT 193 "java/lang/IllegalArgumentException" ["java/lang/RuntimeException", "java/lang/Exception"]).filter (fun w => !goodWord w), w ∈ NW) := ⟨by decide +kernel, by decide +kernel⟩
theorem ok_thr_193_g (ik : Nat) : ∀ w ∈ Cond.classLink R_CT ik "java/lang/IllegalArgumentException" :: Cond.initialized "java/lang/IllegalArgumentException" :: vx_atS R_CT 193 "java/lang/IllegalArgumentException" ["java/lang/RuntimeException", "java/lang/Exception"], vx_ot w = true := List.forall_mem_cons.mpr ⟨rfl, List.forall_mem_cons.mpr ⟨rfl, by decide +kernel⟩⟩
theorem gf_Le_31 {p : Program} {l : Launch} {e : Env} {R : Room} {s : State} {m : MethodId} {args : Array Value} {below : List Frame} {meth : Method} {c : Code} {H : Heap} {locs : List Loc} {cells slots : Nat} {Q : State → Prop} {cc : ByteArray} {nL : Nat} {g : Gx} {A : Nat → Prop} {w0 ws : va_W} {pc : Nat} {ls : Array Slot} {rest : List Value} {st : CS} (C0 : ct_Cx R_Le cc nL p s m args meth c g A) (hw : ct_Wd g A s ws H locs) (hR : cs_Rel g w0 ws st) (hdg : decode cc pc = .ok (.getfield 31, 3)) (kk : W p l e R s m args below meth c H locs cells slots Q (F0 m (pc + 3) ls (.int (cs_I st 0) :: rest))) : W p l e R s m args below meth c H locs cells slots Q (F0 m pc ls (.ref (g.2.1 1) :: rest)) :=
  va_get (D := g.1) (ci := 1) (v := .int (cs_I st 0)) (C := R_Le) (T := T_Le) (N := 7) C0.1 C0.2.1 C0.2.2.2.2.1 in_Le C0.2.2.2.1 C0.2.2.2.2.2.1.1 hw.1 1 (hR.1 1 (by decide)) rfl 6 (by decide) (C0.2.2.2.2.1 _ wd_44) (fun _ h => h) rfl hdg kk
theorem gf_Le_9 {p : Program} {l : Launch} {e : Env} {R : Room} {s : State} {m : MethodId} {args : Array Value} {below : List Frame} {meth : Method} {c : Code} {H : Heap} {locs : List Loc} {cells slots : Nat} {Q : State → Prop} {cc : ByteArray} {nL : Nat} {g : Gx} {A : Nat → Prop} {w0 ws : va_W} {pc : Nat} {ls : Array Slot} {rest : List Value} {st : CS} (C0 : ct_Cx R_Le cc nL p s m args meth c g A) (hw : ct_Wd g A s ws H locs) (hR : cs_Rel g w0 ws st) (hdg : decode cc pc = .ok (.getfield 9, 3)) (kk : W p l e R s m args below meth c H locs cells slots Q (F0 m (pc + 3) ls (.ref (g.2.1 8) :: rest))) : W p l e R s m args below meth c H locs cells slots Q (F0 m pc ls (.ref (g.2.1 1) :: rest)) :=
  va_get (D := g.1) (ci := 1) (v := .ref (g.2.1 8)) (C := R_Le) (T := T_Le) (N := 7) C0.1 C0.2.1 C0.2.2.2.2.1 in_Le C0.2.2.2.1 C0.2.2.2.2.2.1.1 hw.1 1 (hR.1 1 (by decide)) rfl 0 (by decide) (C0.2.2.2.2.1 _ wd_30) (fun _ h => h) rfl hdg kk
theorem gf_Le_15 {p : Program} {l : Launch} {e : Env} {R : Room} {s : State} {m : MethodId} {args : Array Value} {below : List Frame} {meth : Method} {c : Code} {H : Heap} {locs : List Loc} {cells slots : Nat} {Q : State → Prop} {cc : ByteArray} {nL : Nat} {g : Gx} {A : Nat → Prop} {w0 ws : va_W} {pc : Nat} {ls : Array Slot} {rest : List Value} {st : CS} (C0 : ct_Cx R_Le cc nL p s m args meth c g A) (hw : ct_Wd g A s ws H locs) (hR : cs_Rel g w0 ws st) (hdg : decode cc pc = .ok (.getfield 15, 3)) (kk : W p l e R s m args below meth c H locs cells slots Q (F0 m (pc + 3) ls (.ref (g.2.1 9) :: rest))) : W p l e R s m args below meth c H locs cells slots Q (F0 m pc ls (.ref (g.2.1 1) :: rest)) :=
  va_get (D := g.1) (ci := 1) (v := .ref (g.2.1 9)) (C := R_Le) (T := T_Le) (N := 7) C0.1 C0.2.1 C0.2.2.2.2.1 in_Le C0.2.2.2.1 C0.2.2.2.2.2.1.1 hw.1 1 (hR.1 1 (by decide)) rfl 1 (by decide) (C0.2.2.2.2.1 _ wd_31) (fun _ h => h) rfl hdg kk
theorem gf_Le_18 {p : Program} {l : Launch} {e : Env} {R : Room} {s : State} {m : MethodId} {args : Array Value} {below : List Frame} {meth : Method} {c : Code} {H : Heap} {locs : List Loc} {cells slots : Nat} {Q : State → Prop} {cc : ByteArray} {nL : Nat} {g : Gx} {A : Nat → Prop} {w0 ws : va_W} {pc : Nat} {ls : Array Slot} {rest : List Value} {st : CS} (C0 : ct_Cx R_Le cc nL p s m args meth c g A) (hw : ct_Wd g A s ws H locs) (hR : cs_Rel g w0 ws st) (hdg : decode cc pc = .ok (.getfield 18, 3)) (kk : W p l e R s m args below meth c H locs cells slots Q (F0 m (pc + 3) ls (.ref (g.2.1 10) :: rest))) : W p l e R s m args below meth c H locs cells slots Q (F0 m pc ls (.ref (g.2.1 1) :: rest)) :=
  va_get (D := g.1) (ci := 1) (v := .ref (g.2.1 10)) (C := R_Le) (T := T_Le) (N := 7) C0.1 C0.2.1 C0.2.2.2.2.1 in_Le C0.2.2.2.1 C0.2.2.2.2.2.1.1 hw.1 1 (hR.1 1 (by decide)) rfl 2 (by decide) (C0.2.2.2.2.1 _ wd_34) (fun _ h => h) rfl hdg kk
theorem gf_Le_21 {p : Program} {l : Launch} {e : Env} {R : Room} {s : State} {m : MethodId} {args : Array Value} {below : List Frame} {meth : Method} {c : Code} {H : Heap} {locs : List Loc} {cells slots : Nat} {Q : State → Prop} {cc : ByteArray} {nL : Nat} {g : Gx} {A : Nat → Prop} {w0 ws : va_W} {pc : Nat} {ls : Array Slot} {rest : List Value} {st : CS} (C0 : ct_Cx R_Le cc nL p s m args meth c g A) (hw : ct_Wd g A s ws H locs) (hR : cs_Rel g w0 ws st) (hdg : decode cc pc = .ok (.getfield 21, 3)) (kk : W p l e R s m args below meth c H locs cells slots Q (F0 m (pc + 3) ls (.ref (g.2.1 11) :: rest))) : W p l e R s m args below meth c H locs cells slots Q (F0 m pc ls (.ref (g.2.1 1) :: rest)) :=
  va_get (D := g.1) (ci := 1) (v := .ref (g.2.1 11)) (C := R_Le) (T := T_Le) (N := 7) C0.1 C0.2.1 C0.2.2.2.2.1 in_Le C0.2.2.2.1 C0.2.2.2.2.2.1.1 hw.1 1 (hR.1 1 (by decide)) rfl 3 (by decide) (C0.2.2.2.2.1 _ wd_37) (fun _ h => h) rfl hdg kk
theorem gf_Le_24 {p : Program} {l : Launch} {e : Env} {R : Room} {s : State} {m : MethodId} {args : Array Value} {below : List Frame} {meth : Method} {c : Code} {H : Heap} {locs : List Loc} {cells slots : Nat} {Q : State → Prop} {cc : ByteArray} {nL : Nat} {g : Gx} {A : Nat → Prop} {w0 ws : va_W} {pc : Nat} {ls : Array Slot} {rest : List Value} {st : CS} (C0 : ct_Cx R_Le cc nL p s m args meth c g A) (hw : ct_Wd g A s ws H locs) (hR : cs_Rel g w0 ws st) (hdg : decode cc pc = .ok (.getfield 24, 3)) (kk : W p l e R s m args below meth c H locs cells slots Q (F0 m (pc + 3) ls (.ref (g.2.1 12) :: rest))) : W p l e R s m args below meth c H locs cells slots Q (F0 m pc ls (.ref (g.2.1 1) :: rest)) :=
  va_get (D := g.1) (ci := 1) (v := .ref (g.2.1 12)) (C := R_Le) (T := T_Le) (N := 7) C0.1 C0.2.1 C0.2.2.2.2.1 in_Le C0.2.2.2.1 C0.2.2.2.2.2.1.1 hw.1 1 (hR.1 1 (by decide)) rfl 4 (by decide) (C0.2.2.2.2.1 _ wd_40) (fun _ h => h) rfl hdg kk
theorem gf_Le_28 {p : Program} {l : Launch} {e : Env} {R : Room} {s : State} {m : MethodId} {args : Array Value} {below : List Frame} {meth : Method} {c : Code} {H : Heap} {locs : List Loc} {cells slots : Nat} {Q : State → Prop} {cc : ByteArray} {nL : Nat} {g : Gx} {A : Nat → Prop} {w0 ws : va_W} {pc : Nat} {ls : Array Slot} {rest : List Value} {st : CS} (C0 : ct_Cx R_Le cc nL p s m args meth c g A) (hw : ct_Wd g A s ws H locs) (hR : cs_Rel g w0 ws st) (hdg : decode cc pc = .ok (.getfield 28, 3)) (kk : W p l e R s m args below meth c H locs cells slots Q (F0 m (pc + 3) ls (.ref (g.2.1 13) :: rest))) : W p l e R s m args below meth c H locs cells slots Q (F0 m pc ls (.ref (g.2.1 1) :: rest)) :=
  va_get (D := g.1) (ci := 1) (v := .ref (g.2.1 13)) (C := R_Le) (T := T_Le) (N := 7) C0.1 C0.2.1 C0.2.2.2.2.1 in_Le C0.2.2.2.1 C0.2.2.2.2.2.1.1 hw.1 1 (hR.1 1 (by decide)) rfl 5 (by decide) (C0.2.2.2.2.1 _ wd_42) (fun _ h => h) rfl hdg kk
theorem pf_Le_31 {p : Program} {l : Launch} {e : Env} {R : Room} {s : State} {m : MethodId} {args : Array Value} {below : List Frame} {meth : Method} {c : Code} {H : Heap} {locs : List Loc} {cells slots : Nat} {Q : State → Prop} {cc : ByteArray} {nL : Nat} {g : Gx} {A : Nat → Prop} {w0 ws : va_W} {pc : Nat} {ls : Array Slot} {rest : List Value} {st : CS} {v : Int32} (C0 : ct_Cx R_Le cc nL p s m args meth c g A) (hw : ct_Wd g A s ws H locs) (hR : cs_Rel g w0 ws st) (hdg : decode cc pc = .ok (.putfield 31, 3)) (kk : ∀ (ws : va_W) (H : Heap) (locs : List Loc), ct_Wd g A s ws H locs → cs_Rel g w0 ws (cs_I' st 0 v) → W p l e R s m args below meth c H locs cells slots Q (F0 m (pc + 3) ls rest)) : W p l e R s m args below meth c H locs cells slots Q (F0 m pc ls (.int v :: .ref (g.2.1 1) :: rest)) :=
  va_put (D := g.1) (ci := 1) (v := .int v) (ty := .int) (C := R_Le) (T := T_Le) (N := 7) C0.1 C0.2.1 C0.2.2.2.2.1 in_Le ty_Le tk_Le nm_Le C0.2.2.2.1 C0.2.2.2.2.2.1.1 hw.1 hw.2.1 hw.2.2 1 (hR.1 1 (by decide)) rfl 6 (by decide) (C0.2.2.2.2.1 _ wd_44) (fun _ h => h) rfl (by decide +kernel) rfl rfl (Nat.le_of_ble_eq_true rfl) hdg (fun H locs hP hD hS => kk _ H locs ⟨hP, hD, hS⟩ (cs_putI0 hR v))
theorem gf_Tr_11 {p : Program} {l : Launch} {e : Env} {R : Room} {s : State} {m : MethodId} {args : Array Value} {below : List Frame} {meth : Method} {c : Code} {H : Heap} {locs : List Loc} {cells slots : Nat} {Q : State → Prop} {cc : ByteArray} {nL : Nat} {g : Gx} {A : Nat → Prop} {w0 ws : va_W} {pc : Nat} {ls : Array Slot} {rest : List Value} {st : CS} (C0 : ct_Cx R_Tr cc nL p s m args meth c g A) (hw : ct_Wd g A s ws H locs) (hR : cs_Rel g w0 ws st) (hdg : decode cc pc = .ok (.getfield 11, 3)) (kk : W p l e R s m args below meth c H locs cells slots Q (F0 m (pc + 3) ls (.ref (g.2.1 5) :: rest))) : W p l e R s m args below meth c H locs cells slots Q (F0 m pc ls (.ref (g.2.1 2) :: rest)) :=
  va_get (D := g.1) (ci := 4) (v := .ref (g.2.1 5)) (C := R_Tr) (T := T_Tr) (N := 7) C0.1 C0.2.1 C0.2.2.2.2.1 in_Tr C0.2.2.2.1 C0.2.2.2.2.2.1.1 hw.1 2 (hR.1 2 (by decide)) rfl 0 (by decide) (C0.2.2.2.2.1 _ wd_78) (fun _ h => h) rfl hdg kk
theorem gf_Tr_24 {p : Program} {l : Launch} {e : Env} {R : Room} {s : State} {m : MethodId} {args : Array Value} {below : List Frame} {meth : Method} {c : Code} {H : Heap} {locs : List Loc} {cells slots : Nat} {Q : State → Prop} {cc : ByteArray} {nL : Nat} {g : Gx} {A : Nat → Prop} {w0 ws : va_W} {pc : Nat} {ls : Array Slot} {rest : List Value} {st : CS} (C0 : ct_Cx R_Tr cc nL p s m args meth c g A) (hw : ct_Wd g A s ws H locs) (hR : cs_Rel g w0 ws st) (hdg : decode cc pc = .ok (.getfield 24, 3)) (kk : W p l e R s m args below meth c H locs cells slots Q (F0 m (pc + 3) ls (.int (cs_I st 2) :: rest))) : W p l e R s m args below meth c H locs cells slots Q (F0 m pc ls (.ref (g.2.1 2) :: rest)) :=
  va_get (D := g.1) (ci := 4) (v := .int (cs_I st 2)) (C := R_Tr) (T := T_Tr) (N := 7) C0.1 C0.2.1 C0.2.2.2.2.1 in_Tr C0.2.2.2.1 C0.2.2.2.2.2.1.1 hw.1 2 (hR.1 2 (by decide)) rfl 3 (by decide) (C0.2.2.2.2.1 _ wd_85) (fun _ h => h) rfl hdg kk
theorem gf_Tr_31 {p : Program} {l : Launch} {e : Env} {R : Room} {s : State} {m : MethodId} {args : Array Value} {below : List Frame} {meth : Method} {c : Code} {H : Heap} {locs : List Loc} {cells slots : Nat} {Q : State → Prop} {cc : ByteArray} {nL : Nat} {g : Gx} {A : Nat → Prop} {w0 ws : va_W} {pc : Nat} {ls : Array Slot} {rest : List Value} {st : CS} (C0 : ct_Cx R_Tr cc nL p s m args meth c g A) (hw : ct_Wd g A s ws H locs) (hR : cs_Rel g w0 ws st) (hdg : decode cc pc = .ok (.getfield 31, 3)) (kk : W p l e R s m args below meth c H locs cells slots Q (F0 m (pc + 3) ls (.int (cs_I st 4) :: rest))) : W p l e R s m args below meth c H locs cells slots Q (F0 m pc ls (.ref (g.2.1 2) :: rest)) :=
  va_get (D := g.1) (ci := 4) (v := .int (cs_I st 4)) (C := R_Tr) (T := T_Tr) (N := 7) C0.1 C0.2.1 C0.2.2.2.2.1 in_Tr C0.2.2.2.1 C0.2.2.2.2.2.1.1 hw.1 2 (hR.1 2 (by decide)) rfl 5 (by decide) (C0.2.2.2.2.1 _ wd_88) (fun _ h => h) rfl hdg kk
theorem sel_Le_replaces : Cond.selects R_Le y_Le_replaces y_Le_replaces ∈ Wds := List.mem_filter.mpr ⟨List.mem_append_left _ (by decide +kernel), by decide +kernel⟩
theorem gf_Tr_54 {p : Program} {l : Launch} {e : Env} {R : Room} {s : State} {m : MethodId} {args : Array Value} {below : List Frame} {meth : Method} {c : Code} {H : Heap} {locs : List Loc} {cells slots : Nat} {Q : State → Prop} {cc : ByteArray} {nL : Nat} {g : Gx} {A : Nat → Prop} {w0 ws : va_W} {pc : Nat} {ls : Array Slot} {rest : List Value} {st : CS} (C0 : ct_Cx R_Tr cc nL p s m args meth c g A) (hw : ct_Wd g A s ws H locs) (hR : cs_Rel g w0 ws st) (hdg : decode cc pc = .ok (.getfield 54, 3)) (kk : W p l e R s m args below meth c H locs cells slots Q (F0 m (pc + 3) ls (.ref (g.2.1 9) :: rest))) : W p l e R s m args below meth c H locs cells slots Q (F0 m pc ls (.ref (g.2.1 1) :: rest)) :=
  va_getN (D := g.1) (ci := 1) (v := .ref (g.2.1 9)) (C := R_Le) (T := T_Le) (N := 7) C0.1 C0.2.1 C0.2.2.2.2.1 in_Le C0.2.2.2.1 C0.2.2.2.2.2.1.1 hw.1 1 (hR.1 1 (by decide)) rfl 1 (by decide) (va_Nw.use rfl (C0.2.2.2.2.2.1.2.1 _ wd_33)) (fun _ h => h) rfl hdg kk
theorem gf_Tr_61 {p : Program} {l : Launch} {e : Env} {R : Room} {s : State} {m : MethodId} {args : Array Value} {below : List Frame} {meth : Method} {c : Code} {H : Heap} {locs : List Loc} {cells slots : Nat} {Q : State → Prop} {cc : ByteArray} {nL : Nat} {g : Gx} {A : Nat → Prop} {w0 ws : va_W} {pc : Nat} {ls : Array Slot} {rest : List Value} {st : CS} (C0 : ct_Cx R_Tr cc nL p s m args meth c g A) (hw : ct_Wd g A s ws H locs) (hR : cs_Rel g w0 ws st) (hdg : decode cc pc = .ok (.getfield 61, 3)) (kk : W p l e R s m args below meth c H locs cells slots Q (F0 m (pc + 3) ls (.ref (g.2.1 11) :: rest))) : W p l e R s m args below meth c H locs cells slots Q (F0 m pc ls (.ref (g.2.1 1) :: rest)) :=
  va_getN (D := g.1) (ci := 1) (v := .ref (g.2.1 11)) (C := R_Le) (T := T_Le) (N := 7) C0.1 C0.2.1 C0.2.2.2.2.1 in_Le C0.2.2.2.1 C0.2.2.2.2.2.1.1 hw.1 1 (hR.1 1 (by decide)) rfl 3 (by decide) (va_Nw.use rfl (C0.2.2.2.2.2.1.2.1 _ wd_39)) (fun _ h => h) rfl hdg kk
theorem gf_Tr_58 {p : Program} {l : Launch} {e : Env} {R : Room} {s : State} {m : MethodId} {args : Array Value} {below : List Frame} {meth : Method} {c : Code} {H : Heap} {locs : List Loc} {cells slots : Nat} {Q : State → Prop} {cc : ByteArray} {nL : Nat} {g : Gx} {A : Nat → Prop} {w0 ws : va_W} {pc : Nat} {ls : Array Slot} {rest : List Value} {st : CS} (C0 : ct_Cx R_Tr cc nL p s m args meth c g A) (hw : ct_Wd g A s ws H locs) (hR : cs_Rel g w0 ws st) (hdg : decode cc pc = .ok (.getfield 58, 3)) (kk : W p l e R s m args below meth c H locs cells slots Q (F0 m (pc + 3) ls (.ref (g.2.1 10) :: rest))) : W p l e R s m args below meth c H locs cells slots Q (F0 m pc ls (.ref (g.2.1 1) :: rest)) :=
  va_getN (D := g.1) (ci := 1) (v := .ref (g.2.1 10)) (C := R_Le) (T := T_Le) (N := 7) C0.1 C0.2.1 C0.2.2.2.2.1 in_Le C0.2.2.2.1 C0.2.2.2.2.2.1.1 hw.1 1 (hR.1 1 (by decide)) rfl 2 (by decide) (va_Nw.use rfl (C0.2.2.2.2.2.1.2.1 _ wd_36)) (fun _ h => h) rfl hdg kk
theorem sel_Tr_add : Cond.selects R_Tr y_Tr_add y_Tr_add ∈ Wds := List.mem_filter.mpr ⟨List.mem_append_left _ (by decide +kernel), by decide +kernel⟩
theorem gf_Tr_44 {p : Program} {l : Launch} {e : Env} {R : Room} {s : State} {m : MethodId} {args : Array Value} {below : List Frame} {meth : Method} {c : Code} {H : Heap} {locs : List Loc} {cells slots : Nat} {Q : State → Prop} {cc : ByteArray} {nL : Nat} {g : Gx} {A : Nat → Prop} {w0 ws : va_W} {pc : Nat} {ls : Array Slot} {rest : List Value} {st : CS} (C0 : ct_Cx R_Tr cc nL p s m args meth c g A) (hw : ct_Wd g A s ws H locs) (hR : cs_Rel g w0 ws st) (hdg : decode cc pc = .ok (.getfield 44, 3)) (kk : W p l e R s m args below meth c H locs cells slots Q (F0 m (pc + 3) ls (.int (cs_I st 0) :: rest))) : W p l e R s m args below meth c H locs cells slots Q (F0 m pc ls (.ref (g.2.1 1) :: rest)) :=
  va_getN (D := g.1) (ci := 1) (v := .int (cs_I st 0)) (C := R_Le) (T := T_Le) (N := 7) C0.1 C0.2.1 C0.2.2.2.2.1 in_Le C0.2.2.2.1 C0.2.2.2.2.2.1.1 hw.1 1 (hR.1 1 (by decide)) rfl 6 (by decide) (va_Nw.use rfl (C0.2.2.2.2.2.1.2.1 _ wd_45)) (fun _ h => h) rfl hdg kk
theorem sel_Tr_accumulate : Cond.selects R_Tr y_Tr_accumulate y_Tr_accumulate ∈ Wds := List.mem_filter.mpr ⟨List.mem_append_left _ (by decide +kernel), by decide +kernel⟩
theorem gf_Tr_20 {p : Program} {l : Launch} {e : Env} {R : Room} {s : State} {m : MethodId} {args : Array Value} {below : List Frame} {meth : Method} {c : Code} {H : Heap} {locs : List Loc} {cells slots : Nat} {Q : State → Prop} {cc : ByteArray} {nL : Nat} {g : Gx} {A : Nat → Prop} {w0 ws : va_W} {pc : Nat} {ls : Array Slot} {rest : List Value} {st : CS} (C0 : ct_Cx R_Tr cc nL p s m args meth c g A) (hw : ct_Wd g A s ws H locs) (hR : cs_Rel g w0 ws st) (hdg : decode cc pc = .ok (.getfield 20, 3)) (kk : W p l e R s m args below meth c H locs cells slots Q (F0 m (pc + 3) ls (.int (cs_I st 1) :: rest))) : W p l e R s m args below meth c H locs cells slots Q (F0 m pc ls (.ref (g.2.1 2) :: rest)) :=
  va_get (D := g.1) (ci := 4) (v := .int (cs_I st 1)) (C := R_Tr) (T := T_Tr) (N := 7) C0.1 C0.2.1 C0.2.2.2.2.1 in_Tr C0.2.2.2.1 C0.2.2.2.2.2.1.1 hw.1 2 (hR.1 2 (by decide)) rfl 2 (by decide) (C0.2.2.2.2.1 _ wd_82) (fun _ h => h) rfl hdg kk
theorem gf_Tr_51 {p : Program} {l : Launch} {e : Env} {R : Room} {s : State} {m : MethodId} {args : Array Value} {below : List Frame} {meth : Method} {c : Code} {H : Heap} {locs : List Loc} {cells slots : Nat} {Q : State → Prop} {cc : ByteArray} {nL : Nat} {g : Gx} {A : Nat → Prop} {w0 ws : va_W} {pc : Nat} {ls : Array Slot} {rest : List Value} {st : CS} (C0 : ct_Cx R_Tr cc nL p s m args meth c g A) (hw : ct_Wd g A s ws H locs) (hR : cs_Rel g w0 ws st) (hdg : decode cc pc = .ok (.getfield 51, 3)) (kk : W p l e R s m args below meth c H locs cells slots Q (F0 m (pc + 3) ls (.ref (g.2.1 12) :: rest))) : W p l e R s m args below meth c H locs cells slots Q (F0 m pc ls (.ref (g.2.1 1) :: rest)) :=
  va_getN (D := g.1) (ci := 1) (v := .ref (g.2.1 12)) (C := R_Le) (T := T_Le) (N := 7) C0.1 C0.2.1 C0.2.2.2.2.1 in_Le C0.2.2.2.1 C0.2.2.2.2.2.1.1 hw.1 1 (hR.1 1 (by decide)) rfl 4 (by decide) (va_Nw.use rfl (C0.2.2.2.2.2.1.2.1 _ wd_41)) (fun _ h => h) rfl hdg kk
theorem gf_Tr_27 {p : Program} {l : Launch} {e : Env} {R : Room} {s : State} {m : MethodId} {args : Array Value} {below : List Frame} {meth : Method} {c : Code} {H : Heap} {locs : List Loc} {cells slots : Nat} {Q : State → Prop} {cc : ByteArray} {nL : Nat} {g : Gx} {A : Nat → Prop} {w0 ws : va_W} {pc : Nat} {ls : Array Slot} {rest : List Value} {st : CS} (C0 : ct_Cx R_Tr cc nL p s m args meth c g A) (hw : ct_Wd g A s ws H locs) (hR : cs_Rel g w0 ws st) (hdg : decode cc pc = .ok (.getfield 27, 3)) (kk : W p l e R s m args below meth c H locs cells slots Q (F0 m (pc + 3) ls (.int (cs_I st 3) :: rest))) : W p l e R s m args below meth c H locs cells slots Q (F0 m pc ls (.ref (g.2.1 2) :: rest)) :=
  va_get (D := g.1) (ci := 4) (v := .int (cs_I st 3)) (C := R_Tr) (T := T_Tr) (N := 7) C0.1 C0.2.1 C0.2.2.2.2.1 in_Tr C0.2.2.2.1 C0.2.2.2.2.2.1.1 hw.1 2 (hR.1 2 (by decide)) rfl 4 (by decide) (C0.2.2.2.2.1 _ wd_87) (fun _ h => h) rfl hdg kk
theorem sel_Tr_addEstimate : Cond.selects R_Tr y_Tr_addEstimate y_Tr_addEstimate ∈ Wds := List.mem_filter.mpr ⟨List.mem_append_left _ (by decide +kernel), by decide +kernel⟩
theorem sel_Tr_clear : Cond.selects R_Tr y_Tr_clear y_Tr_clear ∈ Wds := List.mem_filter.mpr ⟨List.mem_append_left _ (by decide +kernel), by decide +kernel⟩
theorem gf_CT_10 {p : Program} {l : Launch} {e : Env} {R : Room} {s : State} {m : MethodId} {args : Array Value} {below : List Frame} {meth : Method} {c : Code} {H : Heap} {locs : List Loc} {cells slots : Nat} {Q : State → Prop} {cc : ByteArray} {nL : Nat} {g : Gx} {A : Nat → Prop} {w0 ws : va_W} {pc : Nat} {ls : Array Slot} {rest : List Value} {st : CS} (C0 : ct_Cx R_CT cc nL p s m args meth c g A) (hw : ct_Wd g A s ws H locs) (hR : cs_Rel g w0 ws st) (hdg : decode cc pc = .ok (.getfield 10, 3)) (kk : W p l e R s m args below meth c H locs cells slots Q (F0 m (pc + 3) ls (.ref (g.2.1 1) :: rest))) : W p l e R s m args below meth c H locs cells slots Q (F0 m pc ls (.ref (g.2.1 0) :: rest)) :=
  va_get (D := g.1) (ci := 5) (v := .ref (g.2.1 1)) (C := R_CT) (T := T_CT) (N := 4) C0.1 C0.2.1 C0.2.2.2.2.1 in_CT C0.2.2.2.1 C0.2.2.2.2.2.1.1 hw.1 0 (hR.1 0 (by decide)) rfl 0 (by decide) (C0.2.2.2.2.1 _ wd_184) (fun _ h => h) rfl hdg kk
theorem gf_CT_179 {p : Program} {l : Launch} {e : Env} {R : Room} {s : State} {m : MethodId} {args : Array Value} {below : List Frame} {meth : Method} {c : Code} {H : Heap} {locs : List Loc} {cells slots : Nat} {Q : State → Prop} {cc : ByteArray} {nL : Nat} {g : Gx} {A : Nat → Prop} {w0 ws : va_W} {pc : Nat} {ls : Array Slot} {rest : List Value} {st : CS} (C0 : ct_Cx R_CT cc nL p s m args meth c g A) (hw : ct_Wd g A s ws H locs) (hR : cs_Rel g w0 ws st) (hdg : decode cc pc = .ok (.getfield 179, 3)) (kk : W p l e R s m args below meth c H locs cells slots Q (F0 m (pc + 3) ls (.int (cs_I st 0) :: rest))) : W p l e R s m args below meth c H locs cells slots Q (F0 m pc ls (.ref (g.2.1 1) :: rest)) :=
  va_getN (D := g.1) (ci := 1) (v := .int (cs_I st 0)) (C := R_Le) (T := T_Le) (N := 7) C0.1 C0.2.1 C0.2.2.2.2.1 in_Le C0.2.2.2.1 C0.2.2.2.2.2.1.1 hw.1 1 (hR.1 1 (by decide)) rfl 6 (by decide) (va_Nw.use rfl (C0.2.2.2.2.2.1.2.1 _ wd_46)) (fun _ h => h) rfl hdg kk
theorem gf_CT_27 {p : Program} {l : Launch} {e : Env} {R : Room} {s : State} {m : MethodId} {args : Array Value} {below : List Frame} {meth : Method} {c : Code} {H : Heap} {locs : List Loc} {cells slots : Nat} {Q : State → Prop} {cc : ByteArray} {nL : Nat} {g : Gx} {A : Nat → Prop} {w0 ws : va_W} {pc : Nat} {ls : Array Slot} {rest : List Value} {st : CS} (C0 : ct_Cx R_CT cc nL p s m args meth c g A) (hw : ct_Wd g A s ws H locs) (hR : cs_Rel g w0 ws st) (hdg : decode cc pc = .ok (.getfield 27, 3)) (kk : W p l e R s m args below meth c H locs cells slots Q (F0 m (pc + 3) ls (.ref (g.2.1 2) :: rest))) : W p l e R s m args below meth c H locs cells slots Q (F0 m pc ls (.ref (g.2.1 0) :: rest)) :=
  va_get (D := g.1) (ci := 5) (v := .ref (g.2.1 2)) (C := R_CT) (T := T_CT) (N := 4) C0.1 C0.2.1 C0.2.2.2.2.1 in_CT C0.2.2.2.1 C0.2.2.2.2.2.1.1 hw.1 0 (hR.1 0 (by decide)) rfl 2 (by decide) (C0.2.2.2.2.1 _ wd_186) (fun _ h => h) rfl hdg kk
theorem ok_thr_200 : (∀ w ∈ (vx_atS R_CT 200 "java/lang/IllegalStateException" ["java/lang/RuntimeException", "java/lang/Exception"]).filter goodWord, w ∈ Wds) ∧ (∀ w ∈ (vx_atS R_CT 200 "java/lang/IllegalStateException" ["java/lang/RuntimeException", "java/lang/Exception"]).filter (fun w => !goodWord w), w ∈ NW) := ⟨by decide +kernel, by decide +kernel⟩
theorem ok_thr_200_g (ik : Nat) : ∀ w ∈ Cond.classLink R_CT ik "java/lang/IllegalStateException" :: Cond.initialized "java/lang/IllegalStateException" :: vx_atS R_CT 200 "java/lang/IllegalStateException" ["java/lang/RuntimeException", "java/lang/Exception"], vx_ot w = true := List.forall_mem_cons.mpr ⟨rfl, List.forall_mem_cons.mpr ⟨rfl, by decide +kernel⟩⟩
theorem sel_CT_enter : Cond.selects R_CT y_CT_enter y_CT_enter ∈ Wds := List.mem_filter.mpr ⟨List.mem_append_left _ (by decide +kernel), by decide +kernel⟩
theorem gf_CT_52 {p : Program} {l : Launch} {e : Env} {R : Room} {s : State} {m : MethodId} {args : Array Value} {below : List Frame} {meth : Method} {c : Code} {H : Heap} {locs : List Loc} {cells slots : Nat} {Q : State → Prop} {cc : ByteArray} {nL : Nat} {g : Gx} {A : Nat → Prop} {w0 ws : va_W} {pc : Nat} {ls : Array Slot} {rest : List Value} {st : CS} (C0 : ct_Cx R_CT cc nL p s m args meth c g A) (hw : ct_Wd g A s ws H locs) (hR : cs_Rel g w0 ws st) (hdg : decode cc pc = .ok (.getfield 52, 3)) (kk : W p l e R s m args below meth c H locs cells slots Q (F0 m (pc + 3) ls (.ref (g.2.1 13) :: rest))) : W p l e R s m args below meth c H locs cells slots Q (F0 m pc ls (.ref (g.2.1 1) :: rest)) :=
  va_getN (D := g.1) (ci := 1) (v := .ref (g.2.1 13)) (C := R_Le) (T := T_Le) (N := 7) C0.1 C0.2.1 C0.2.2.2.2.1 in_Le C0.2.2.2.1 C0.2.2.2.2.2.1.1 hw.1 1 (hR.1 1 (by decide)) rfl 5 (by decide) (va_Nw.use rfl (C0.2.2.2.2.2.1.2.1 _ wd_43)) (fun _ h => h) rfl hdg kk
theorem sel_CT_checkEntry : Cond.selects R_CT y_CT_checkEntry y_CT_checkEntry ∈ Wds := List.mem_filter.mpr ⟨List.mem_append_left _ (by decide +kernel), by decide +kernel⟩
theorem sel_CT_checkLiving : Cond.selects R_CT y_CT_checkLiving y_CT_checkLiving ∈ Wds := List.mem_filter.mpr ⟨List.mem_append_left _ (by decide +kernel), by decide +kernel⟩
theorem gf_CT_62 {p : Program} {l : Launch} {e : Env} {R : Room} {s : State} {m : MethodId} {args : Array Value} {below : List Frame} {meth : Method} {c : Code} {H : Heap} {locs : List Loc} {cells slots : Nat} {Q : State → Prop} {cc : ByteArray} {nL : Nat} {g : Gx} {A : Nat → Prop} {w0 ws : va_W} {pc : Nat} {ls : Array Slot} {rest : List Value} {st : CS} (C0 : ct_Cx R_CT cc nL p s m args meth c g A) (hw : ct_Wd g A s ws H locs) (hR : cs_Rel g w0 ws st) (hdg : decode cc pc = .ok (.getfield 62, 3)) (kk : W p l e R s m args below meth c H locs cells slots Q (F0 m (pc + 3) ls (.ref (g.2.1 11) :: rest))) : W p l e R s m args below meth c H locs cells slots Q (F0 m pc ls (.ref (g.2.1 1) :: rest)) :=
  va_getN (D := g.1) (ci := 1) (v := .ref (g.2.1 11)) (C := R_Le) (T := T_Le) (N := 7) C0.1 C0.2.1 C0.2.2.2.2.1 in_Le C0.2.2.2.1 C0.2.2.2.2.2.1.1 hw.1 1 (hR.1 1 (by decide)) rfl 3 (by decide) (va_Nw.use rfl (C0.2.2.2.2.2.1.2.1 _ wd_38)) (fun _ h => h) rfl hdg kk
theorem gf_CT_70 {p : Program} {l : Launch} {e : Env} {R : Room} {s : State} {m : MethodId} {args : Array Value} {below : List Frame} {meth : Method} {c : Code} {H : Heap} {locs : List Loc} {cells slots : Nat} {Q : State → Prop} {cc : ByteArray} {nL : Nat} {g : Gx} {A : Nat → Prop} {w0 ws : va_W} {pc : Nat} {ls : Array Slot} {rest : List Value} {st : CS} (C0 : ct_Cx R_CT cc nL p s m args meth c g A) (hw : ct_Wd g A s ws H locs) (hR : cs_Rel g w0 ws st) (hdg : decode cc pc = .ok (.getfield 70, 3)) (kk : W p l e R s m args below meth c H locs cells slots Q (F0 m (pc + 3) ls (.ref (g.2.1 9) :: rest))) : W p l e R s m args below meth c H locs cells slots Q (F0 m pc ls (.ref (g.2.1 1) :: rest)) :=
  va_getN (D := g.1) (ci := 1) (v := .ref (g.2.1 9)) (C := R_Le) (T := T_Le) (N := 7) C0.1 C0.2.1 C0.2.2.2.2.1 in_Le C0.2.2.2.1 C0.2.2.2.2.2.1.1 hw.1 1 (hR.1 1 (by decide)) rfl 1 (by decide) (va_Nw.use rfl (C0.2.2.2.2.2.1.2.1 _ wd_32)) (fun _ h => h) rfl hdg kk
theorem gf_CT_73 {p : Program} {l : Launch} {e : Env} {R : Room} {s : State} {m : MethodId} {args : Array Value} {below : List Frame} {meth : Method} {c : Code} {H : Heap} {locs : List Loc} {cells slots : Nat} {Q : State → Prop} {cc : ByteArray} {nL : Nat} {g : Gx} {A : Nat → Prop} {w0 ws : va_W} {pc : Nat} {ls : Array Slot} {rest : List Value} {st : CS} (C0 : ct_Cx R_CT cc nL p s m args meth c g A) (hw : ct_Wd g A s ws H locs) (hR : cs_Rel g w0 ws st) (hdg : decode cc pc = .ok (.getfield 73, 3)) (kk : W p l e R s m args below meth c H locs cells slots Q (F0 m (pc + 3) ls (.ref (g.2.1 10) :: rest))) : W p l e R s m args below meth c H locs cells slots Q (F0 m pc ls (.ref (g.2.1 1) :: rest)) :=
  va_getN (D := g.1) (ci := 1) (v := .ref (g.2.1 10)) (C := R_Le) (T := T_Le) (N := 7) C0.1 C0.2.1 C0.2.2.2.2.1 in_Le C0.2.2.2.1 C0.2.2.2.2.2.1.1 hw.1 1 (hR.1 1 (by decide)) rfl 2 (by decide) (va_Nw.use rfl (C0.2.2.2.2.2.1.2.1 _ wd_35)) (fun _ h => h) rfl hdg kk
theorem gf_CT_32 {p : Program} {l : Launch} {e : Env} {R : Room} {s : State} {m : MethodId} {args : Array Value} {below : List Frame} {meth : Method} {c : Code} {H : Heap} {locs : List Loc} {cells slots : Nat} {Q : State → Prop} {cc : ByteArray} {nL : Nat} {g : Gx} {A : Nat → Prop} {w0 ws : va_W} {pc : Nat} {ls : Array Slot} {rest : List Value} {st : CS} (C0 : ct_Cx R_CT cc nL p s m args meth c g A) (hw : ct_Wd g A s ws H locs) (hR : cs_Rel g w0 ws st) (hdg : decode cc pc = .ok (.getfield 32, 3)) (kk : W p l e R s m args below meth c H locs cells slots Q (F0 m (pc + 3) ls (.ref (g.2.1 3) :: rest))) : W p l e R s m args below meth c H locs cells slots Q (F0 m pc ls (.ref (g.2.1 0) :: rest)) :=
  va_get (D := g.1) (ci := 5) (v := .ref (g.2.1 3)) (C := R_CT) (T := T_CT) (N := 4) C0.1 C0.2.1 C0.2.2.2.2.1 in_CT C0.2.2.2.1 C0.2.2.2.2.2.1.1 hw.1 0 (hR.1 0 (by decide)) rfl 3 (by decide) (C0.2.2.2.2.1 _ wd_187) (fun _ h => h) rfl hdg kk
theorem gf_CT_80 {p : Program} {l : Launch} {e : Env} {R : Room} {s : State} {m : MethodId} {args : Array Value} {below : List Frame} {meth : Method} {c : Code} {H : Heap} {locs : List Loc} {cells slots : Nat} {Q : State → Prop} {cc : ByteArray} {nL : Nat} {g : Gx} {A : Nat → Prop} {w0 ws : va_W} {pc : Nat} {ls : Array Slot} {rest : List Value} {st : CS} (C0 : ct_Cx R_CT cc nL p s m args meth c g A) (hw : ct_Wd g A s ws H locs) (hR : cs_Rel g w0 ws st) (hdg : decode cc pc = .ok (.getfield 80, 3)) (kk : W p l e R s m args below meth c H locs cells slots Q (F0 m (pc + 3) ls (.ref (g.2.1 6) :: rest))) : W p l e R s m args below meth c H locs cells slots Q (F0 m pc ls (.ref (g.2.1 3) :: rest)) :=
  va_getN (D := g.1) (ci := 3) (v := .ref (g.2.1 6)) (C := R_Te) (T := T_Te) (N := 5) C0.1 C0.2.1 C0.2.2.2.2.1 in_Te C0.2.2.2.1 C0.2.2.2.2.2.1.1 hw.1 3 (hR.1 3 (by decide)) rfl 0 (by decide) (va_Nw.use rfl (C0.2.2.2.2.2.1.2.1 _ wd_136)) (fun _ h => h) rfl hdg kk
theorem ma_Fr_47 {p : Program} {l : Launch} {e : Env} {R : Room} {s : State} {m : MethodId} {args : Array Value} {below : List Frame} {meth : Method} {c : Code} {H : Heap} {locs : List Loc} {cells slots : Nat} {Q : State → Prop} {cc : ByteArray} {nL : Nat} {g : Gx} {A : Nat → Prop} {w0 ws : va_W} {pc : Nat} {ls : Array Slot} {rest : List Value} {x y : Int64} (C0 : ct_Cx R_Fr cc nL p s m args meth c g A) (hml : c.maxLocals = ls.size) (hR : 1 ≤ R.frames ∧ cells ≤ R.cells ∧ slots ≤ R.slots) (hlo : (rest.map fun v => v.category).sum + 15 ≤ R.locals) (hdg : decode cc pc = .ok (.invokestatic 47, 3)) (kk : W p l e R s m args below meth c H locs cells slots Q (F0 m (pc + 3) ls (.long (ct_mxL x y) :: rest))) : W p l e R s m args below meth c H locs cells slots Q (F0 m pc ls (.long y :: .long x :: rest)) :=
  va_mmax_long C0.1 C0.2.1 hml C0.2.2.2.1 (C0.2.2.2.2.1 _ wd_398) (C0.2.2.2.2.1 _ wd_399) (C0.2.2.2.2.1 _ wd_13) (C0.2.2.2.2.1 _ wd_400) hR.1 hlo hR.2.1 hR.2.2 hdg kk
theorem ma_Fr_40 {p : Program} {l : Launch} {e : Env} {R : Room} {s : State} {m : MethodId} {args : Array Value} {below : List Frame} {meth : Method} {c : Code} {H : Heap} {locs : List Loc} {cells slots : Nat} {Q : State → Prop} {cc : ByteArray} {nL : Nat} {g : Gx} {A : Nat → Prop} {w0 ws : va_W} {pc : Nat} {ls : Array Slot} {rest : List Value} {x : Int64} (C0 : ct_Cx R_Fr cc nL p s m args meth c g A) (hml : c.maxLocals = ls.size) (hR : 1 ≤ R.frames ∧ cells ≤ R.cells ∧ slots ≤ R.slots) (hlo : (rest.map fun v => v.category).sum + 13 ≤ R.locals) (hdg : decode cc pc = .ok (.invokestatic 40, 3)) (kk : W p l e R s m args below meth c H locs cells slots Q (F0 m (pc + 3) ls (.long (ct_abL x) :: rest))) : W p l e R s m args below meth c H locs cells slots Q (F0 m pc ls (.long x :: rest)) :=
  va_mabs_long C0.1 C0.2.1 hml C0.2.2.2.1 (C0.2.2.2.2.1 _ wd_395) (C0.2.2.2.2.1 _ wd_396) (C0.2.2.2.2.1 _ wd_13) (C0.2.2.2.2.1 _ wd_397) hR.1 hlo hR.2.1 hR.2.2 hdg kk
theorem pf_Fr_19 {p : Program} {l : Launch} {e : Env} {R : Room} {s : State} {m : MethodId} {args : Array Value} {below : List Frame} {meth : Method} {c : Code} {H : Heap} {locs : List Loc} {cells slots : Nat} {Q : State → Prop} {cc : ByteArray} {nL : Nat} {g : Gx} {A : Nat → Prop} {w0 ws : va_W} {pc : Nat} {ls : Array Slot} {rest : List Value} {st : CS} {f : Nat} (hf : f < 12) {v : Int64} (C0 : ct_Cx R_Fr cc nL p s m args meth c g A) (hw : ct_Wd g A s ws H locs) (hR : cs_Rel g w0 ws st) (hdg : decode cc pc = .ok (.putfield 19, 3)) (kk : ∀ (ws : va_W) (H : Heap) (locs : List Loc), ct_Wd g A s ws H locs → cs_Rel g w0 ws (cs_F0' st f v) → W p l e R s m args below meth c H locs cells slots Q (F0 m (pc + 3) ls rest)) : W p l e R s m args below meth c H locs cells slots Q (F0 m pc ls (.long v :: .ref (g.2.1 (23 + f)) :: rest)) :=
  va_put (D := g.1) (ci := 0) (v := .long v) (ty := .long) (C := R_Fr) (T := T_Fr) (N := 3) C0.1 C0.2.1 C0.2.2.2.2.1 in_Fr ty_Fr tk_Fr nm_Fr C0.2.2.2.1 C0.2.2.2.2.2.1.1 hw.1 hw.2.1 hw.2.2 (23 + f) (hR.F hf) rfl 0 (by decide) (C0.2.2.2.2.1 _ wd_121) (fun _ h => h) rfl (by decide +kernel) rfl rfl (Nat.le_of_ble_eq_true rfl) hdg (fun H locs hP hD hS => kk _ H locs ⟨hP, hD, hS⟩ (hR.putF0 hf v))
theorem pf_Fr_9 {p : Program} {l : Launch} {e : Env} {R : Room} {s : State} {m : MethodId} {args : Array Value} {below : List Frame} {meth : Method} {c : Code} {H : Heap} {locs : List Loc} {cells slots : Nat} {Q : State → Prop} {cc : ByteArray} {nL : Nat} {g : Gx} {A : Nat → Prop} {w0 ws : va_W} {pc : Nat} {ls : Array Slot} {rest : List Value} {st : CS} {f : Nat} (hf : f < 12) {v : Int64} (C0 : ct_Cx R_Fr cc nL p s m args meth c g A) (hw : ct_Wd g A s ws H locs) (hR : cs_Rel g w0 ws st) (hdg : decode cc pc = .ok (.putfield 9, 3)) (kk : ∀ (ws : va_W) (H : Heap) (locs : List Loc), ct_Wd g A s ws H locs → cs_Rel g w0 ws (cs_F1' st f v) → W p l e R s m args below meth c H locs cells slots Q (F0 m (pc + 3) ls rest)) : W p l e R s m args below meth c H locs cells slots Q (F0 m pc ls (.long v :: .ref (g.2.1 (23 + f)) :: rest)) :=
  va_put (D := g.1) (ci := 0) (v := .long v) (ty := .long) (C := R_Fr) (T := T_Fr) (N := 3) C0.1 C0.2.1 C0.2.2.2.2.1 in_Fr ty_Fr tk_Fr nm_Fr C0.2.2.2.1 C0.2.2.2.2.2.1.1 hw.1 hw.2.1 hw.2.2 (23 + f) (hR.F hf) rfl 1 (by decide) (C0.2.2.2.2.1 _ wd_123) (fun _ h => h) rfl (by decide +kernel) rfl rfl (Nat.le_of_ble_eq_true rfl) hdg (fun H locs hP hD hS => kk _ H locs ⟨hP, hD, hS⟩ (hR.putF1 hf v))
theorem pf_Fr_15 {p : Program} {l : Launch} {e : Env} {R : Room} {s : State} {m : MethodId} {args : Array Value} {below : List Frame} {meth : Method} {c : Code} {H : Heap} {locs : List Loc} {cells slots : Nat} {Q : State → Prop} {cc : ByteArray} {nL : Nat} {g : Gx} {A : Nat → Prop} {w0 ws : va_W} {pc : Nat} {ls : Array Slot} {rest : List Value} {st : CS} {f : Nat} (hf : f < 12) {v : Int32} (C0 : ct_Cx R_Fr cc nL p s m args meth c g A) (hw : ct_Wd g A s ws H locs) (hR : cs_Rel g w0 ws st) (hdg : decode cc pc = .ok (.putfield 15, 3)) (kk : ∀ (ws : va_W) (H : Heap) (locs : List Loc), ct_Wd g A s ws H locs → cs_Rel g w0 ws (cs_F2' st f v) → W p l e R s m args below meth c H locs cells slots Q (F0 m (pc + 3) ls rest)) : W p l e R s m args below meth c H locs cells slots Q (F0 m pc ls (.int v :: .ref (g.2.1 (23 + f)) :: rest)) :=
  va_put (D := g.1) (ci := 0) (v := .int v) (ty := .int) (C := R_Fr) (T := T_Fr) (N := 3) C0.1 C0.2.1 C0.2.2.2.2.1 in_Fr ty_Fr tk_Fr nm_Fr C0.2.2.2.1 C0.2.2.2.2.2.1.1 hw.1 hw.2.1 hw.2.2 (23 + f) (hR.F hf) rfl 2 (by decide) (C0.2.2.2.2.1 _ wd_125) (fun _ h => h) rfl (by decide +kernel) rfl rfl (Nat.le_of_ble_eq_true rfl) hdg (fun H locs hP hD hS => kk _ H locs ⟨hP, hD, hS⟩ (hR.putF2 hf v))
theorem gf_Te_25 {p : Program} {l : Launch} {e : Env} {R : Room} {s : State} {m : MethodId} {args : Array Value} {below : List Frame} {meth : Method} {c : Code} {H : Heap} {locs : List Loc} {cells slots : Nat} {Q : State → Prop} {cc : ByteArray} {nL : Nat} {g : Gx} {A : Nat → Prop} {w0 ws : va_W} {pc : Nat} {ls : Array Slot} {rest : List Value} {st : CS} (C0 : ct_Cx R_Te cc nL p s m args meth c g A) (hw : ct_Wd g A s ws H locs) (hR : cs_Rel g w0 ws st) (hdg : decode cc pc = .ok (.getfield 25, 3)) (kk : W p l e R s m args below meth c H locs cells slots Q (F0 m (pc + 3) ls (.ref (g.2.1 24) :: rest))) : W p l e R s m args below meth c H locs cells slots Q (F0 m pc ls (.ref (g.2.1 3) :: rest)) :=
  va_get (D := g.1) (ci := 3) (v := .ref (g.2.1 24)) (C := R_Te) (T := T_Te) (N := 5) C0.1 C0.2.1 C0.2.2.2.2.1 in_Te C0.2.2.2.1 C0.2.2.2.2.2.1.1 hw.1 3 (hR.1 3 (by decide)) rfl 2 (by decide) (C0.2.2.2.2.1 _ wd_138) (fun _ h => h) rfl hdg kk
theorem gf_Te_21 {p : Program} {l : Launch} {e : Env} {R : Room} {s : State} {m : MethodId} {args : Array Value} {below : List Frame} {meth : Method} {c : Code} {H : Heap} {locs : List Loc} {cells slots : Nat} {Q : State → Prop} {cc : ByteArray} {nL : Nat} {g : Gx} {A : Nat → Prop} {w0 ws : va_W} {pc : Nat} {ls : Array Slot} {rest : List Value} {st : CS} (C0 : ct_Cx R_Te cc nL p s m args meth c g A) (hw : ct_Wd g A s ws H locs) (hR : cs_Rel g w0 ws st) (hdg : decode cc pc = .ok (.getfield 21, 3)) (kk : W p l e R s m args below meth c H locs cells slots Q (F0 m (pc + 3) ls (.ref (g.2.1 23) :: rest))) : W p l e R s m args below meth c H locs cells slots Q (F0 m pc ls (.ref (g.2.1 3) :: rest)) :=
  va_get (D := g.1) (ci := 3) (v := .ref (g.2.1 23)) (C := R_Te) (T := T_Te) (N := 5) C0.1 C0.2.1 C0.2.2.2.2.1 in_Te C0.2.2.2.1 C0.2.2.2.2.2.1.1 hw.1 3 (hR.1 3 (by decide)) rfl 1 (by decide) (C0.2.2.2.2.1 _ wd_137) (fun _ h => h) rfl hdg kk
theorem gf_CT_86 {p : Program} {l : Launch} {e : Env} {R : Room} {s : State} {m : MethodId} {args : Array Value} {below : List Frame} {meth : Method} {c : Code} {H : Heap} {locs : List Loc} {cells slots : Nat} {Q : State → Prop} {cc : ByteArray} {nL : Nat} {g : Gx} {A : Nat → Prop} {w0 ws : va_W} {pc : Nat} {ls : Array Slot} {rest : List Value} {st : CS} (C0 : ct_Cx R_CT cc nL p s m args meth c g A) (hw : ct_Wd g A s ws H locs) (hR : cs_Rel g w0 ws st) (hdg : decode cc pc = .ok (.getfield 86, 3)) (kk : W p l e R s m args below meth c H locs cells slots Q (F0 m (pc + 3) ls (.ref (g.2.1 25) :: rest))) : W p l e R s m args below meth c H locs cells slots Q (F0 m pc ls (.ref (g.2.1 3) :: rest)) :=
  va_getN (D := g.1) (ci := 3) (v := .ref (g.2.1 25)) (C := R_Te) (T := T_Te) (N := 5) C0.1 C0.2.1 C0.2.2.2.2.1 in_Te C0.2.2.2.1 C0.2.2.2.2.2.1.1 hw.1 3 (hR.1 3 (by decide)) rfl 3 (by decide) (va_Nw.use rfl (C0.2.2.2.2.2.1.2.1 _ wd_141)) (fun _ h => h) rfl hdg kk
theorem gf_Tr_16 {p : Program} {l : Launch} {e : Env} {R : Room} {s : State} {m : MethodId} {args : Array Value} {below : List Frame} {meth : Method} {c : Code} {H : Heap} {locs : List Loc} {cells slots : Nat} {Q : State → Prop} {cc : ByteArray} {nL : Nat} {g : Gx} {A : Nat → Prop} {w0 ws : va_W} {pc : Nat} {ls : Array Slot} {rest : List Value} {st : CS} (C0 : ct_Cx R_Tr cc nL p s m args meth c g A) (hw : ct_Wd g A s ws H locs) (hR : cs_Rel g w0 ws st) (hdg : decode cc pc = .ok (.getfield 16, 3)) (kk : W p l e R s m args below meth c H locs cells slots Q (F0 m (pc + 3) ls (.ref (g.2.1 14) :: rest))) : W p l e R s m args below meth c H locs cells slots Q (F0 m pc ls (.ref (g.2.1 2) :: rest)) :=
  va_get (D := g.1) (ci := 4) (v := .ref (g.2.1 14)) (C := R_Tr) (T := T_Tr) (N := 7) C0.1 C0.2.1 C0.2.2.2.2.1 in_Tr C0.2.2.2.1 C0.2.2.2.2.2.1.1 hw.1 2 (hR.1 2 (by decide)) rfl 1 (by decide) (C0.2.2.2.2.1 _ wd_81) (fun _ h => h) rfl hdg kk
theorem pf_Tr_20 {p : Program} {l : Launch} {e : Env} {R : Room} {s : State} {m : MethodId} {args : Array Value} {below : List Frame} {meth : Method} {c : Code} {H : Heap} {locs : List Loc} {cells slots : Nat} {Q : State → Prop} {cc : ByteArray} {nL : Nat} {g : Gx} {A : Nat → Prop} {w0 ws : va_W} {pc : Nat} {ls : Array Slot} {rest : List Value} {st : CS} {v : Int32} (C0 : ct_Cx R_Tr cc nL p s m args meth c g A) (hw : ct_Wd g A s ws H locs) (hR : cs_Rel g w0 ws st) (hdg : decode cc pc = .ok (.putfield 20, 3)) (kk : ∀ (ws : va_W) (H : Heap) (locs : List Loc), ct_Wd g A s ws H locs → cs_Rel g w0 ws (cs_I' st 1 v) → W p l e R s m args below meth c H locs cells slots Q (F0 m (pc + 3) ls rest)) : W p l e R s m args below meth c H locs cells slots Q (F0 m pc ls (.int v :: .ref (g.2.1 2) :: rest)) :=
  va_put (D := g.1) (ci := 4) (v := .int v) (ty := .int) (C := R_Tr) (T := T_Tr) (N := 7) C0.1 C0.2.1 C0.2.2.2.2.1 in_Tr ty_Tr tk_Tr nm_Tr C0.2.2.2.1 C0.2.2.2.2.2.1.1 hw.1 hw.2.1 hw.2.2 2 (hR.1 2 (by decide)) rfl 2 (by decide) (C0.2.2.2.2.1 _ wd_82) (fun _ h => h) rfl (by decide +kernel) rfl rfl (Nat.le_of_ble_eq_true rfl) hdg (fun H locs hP hD hS => kk _ H locs ⟨hP, hD, hS⟩ (cs_putI1 hR v))
theorem pf_Tr_24 {p : Program} {l : Launch} {e : Env} {R : Room} {s : State} {m : MethodId} {args : Array Value} {below : List Frame} {meth : Method} {c : Code} {H : Heap} {locs : List Loc} {cells slots : Nat} {Q : State → Prop} {cc : ByteArray} {nL : Nat} {g : Gx} {A : Nat → Prop} {w0 ws : va_W} {pc : Nat} {ls : Array Slot} {rest : List Value} {st : CS} {v : Int32} (C0 : ct_Cx R_Tr cc nL p s m args meth c g A) (hw : ct_Wd g A s ws H locs) (hR : cs_Rel g w0 ws st) (hdg : decode cc pc = .ok (.putfield 24, 3)) (kk : ∀ (ws : va_W) (H : Heap) (locs : List Loc), ct_Wd g A s ws H locs → cs_Rel g w0 ws (cs_I' st 2 v) → W p l e R s m args below meth c H locs cells slots Q (F0 m (pc + 3) ls rest)) : W p l e R s m args below meth c H locs cells slots Q (F0 m pc ls (.int v :: .ref (g.2.1 2) :: rest)) :=
  va_put (D := g.1) (ci := 4) (v := .int v) (ty := .int) (C := R_Tr) (T := T_Tr) (N := 7) C0.1 C0.2.1 C0.2.2.2.2.1 in_Tr ty_Tr tk_Tr nm_Tr C0.2.2.2.1 C0.2.2.2.2.2.1.1 hw.1 hw.2.1 hw.2.2 2 (hR.1 2 (by decide)) rfl 3 (by decide) (C0.2.2.2.2.1 _ wd_85) (fun _ h => h) rfl (by decide +kernel) rfl rfl (Nat.le_of_ble_eq_true rfl) hdg (fun H locs hP hD hS => kk _ H locs ⟨hP, hD, hS⟩ (cs_putI2 hR v))
theorem pf_Tr_27 {p : Program} {l : Launch} {e : Env} {R : Room} {s : State} {m : MethodId} {args : Array Value} {below : List Frame} {meth : Method} {c : Code} {H : Heap} {locs : List Loc} {cells slots : Nat} {Q : State → Prop} {cc : ByteArray} {nL : Nat} {g : Gx} {A : Nat → Prop} {w0 ws : va_W} {pc : Nat} {ls : Array Slot} {rest : List Value} {st : CS} {v : Int32} (C0 : ct_Cx R_Tr cc nL p s m args meth c g A) (hw : ct_Wd g A s ws H locs) (hR : cs_Rel g w0 ws st) (hb : ct_isB v = true) (hdg : decode cc pc = .ok (.putfield 27, 3)) (kk : ∀ (ws : va_W) (H : Heap) (locs : List Loc), ct_Wd g A s ws H locs → cs_Rel g w0 ws (cs_I' st 3 v) → W p l e R s m args below meth c H locs cells slots Q (F0 m (pc + 3) ls rest)) : W p l e R s m args below meth c H locs cells slots Q (F0 m pc ls (.int v :: .ref (g.2.1 2) :: rest)) :=
  va_put (D := g.1) (ci := 4) (v := .int v) (ty := .boolean) (C := R_Tr) (T := T_Tr) (N := 7) C0.1 C0.2.1 C0.2.2.2.2.1 in_Tr ty_Tr tk_Tr nm_Tr C0.2.2.2.1 C0.2.2.2.2.2.1.1 hw.1 hw.2.1 hw.2.2 2 (hR.1 2 (by decide)) rfl 4 (by decide) (C0.2.2.2.2.1 _ wd_87) (fun _ h => h) rfl (by decide +kernel) (ct_isB_nar hb) (ct_isB_fit hb) (Nat.le_of_ble_eq_true rfl) hdg (fun H locs hP hD hS => kk _ H locs ⟨hP, hD, hS⟩ (cs_putI3 hR v))
theorem pf_Tr_31 {p : Program} {l : Launch} {e : Env} {R : Room} {s : State} {m : MethodId} {args : Array Value} {below : List Frame} {meth : Method} {c : Code} {H : Heap} {locs : List Loc} {cells slots : Nat} {Q : State → Prop} {cc : ByteArray} {nL : Nat} {g : Gx} {A : Nat → Prop} {w0 ws : va_W} {pc : Nat} {ls : Array Slot} {rest : List Value} {st : CS} {v : Int32} (C0 : ct_Cx R_Tr cc nL p s m args meth c g A) (hw : ct_Wd g A s ws H locs) (hR : cs_Rel g w0 ws st) (hdg : decode cc pc = .ok (.putfield 31, 3)) (kk : ∀ (ws : va_W) (H : Heap) (locs : List Loc), ct_Wd g A s ws H locs → cs_Rel g w0 ws (cs_I' st 4 v) → W p l e R s m args below meth c H locs cells slots Q (F0 m (pc + 3) ls rest)) : W p l e R s m args below meth c H locs cells slots Q (F0 m pc ls (.int v :: .ref (g.2.1 2) :: rest)) :=
  va_put (D := g.1) (ci := 4) (v := .int v) (ty := .int) (C := R_Tr) (T := T_Tr) (N := 7) C0.1 C0.2.1 C0.2.2.2.2.1 in_Tr ty_Tr tk_Tr nm_Tr C0.2.2.2.1 C0.2.2.2.2.2.1.1 hw.1 hw.2.1 hw.2.2 2 (hR.1 2 (by decide)) rfl 5 (by decide) (C0.2.2.2.2.1 _ wd_88) (fun _ h => h) rfl (by decide +kernel) rfl rfl (Nat.le_of_ble_eq_true rfl) hdg (fun H locs hP hD hS => kk _ H locs ⟨hP, hD, hS⟩ (cs_putI4 hR v))
theorem pf_Tr_34 {p : Program} {l : Launch} {e : Env} {R : Room} {s : State} {m : MethodId} {args : Array Value} {below : List Frame} {meth : Method} {c : Code} {H : Heap} {locs : List Loc} {cells slots : Nat} {Q : State → Prop} {cc : ByteArray} {nL : Nat} {g : Gx} {A : Nat → Prop} {w0 ws : va_W} {pc : Nat} {ls : Array Slot} {rest : List Value} {st : CS} {v : Int32} (C0 : ct_Cx R_Tr cc nL p s m args meth c g A) (hw : ct_Wd g A s ws H locs) (hR : cs_Rel g w0 ws st) (hdg : decode cc pc = .ok (.putfield 34, 3)) (kk : ∀ (ws : va_W) (H : Heap) (locs : List Loc), ct_Wd g A s ws H locs → cs_Rel g w0 ws (cs_I' st 5 v) → W p l e R s m args below meth c H locs cells slots Q (F0 m (pc + 3) ls rest)) : W p l e R s m args below meth c H locs cells slots Q (F0 m pc ls (.int v :: .ref (g.2.1 2) :: rest)) :=
  va_put (D := g.1) (ci := 4) (v := .int v) (ty := .int) (C := R_Tr) (T := T_Tr) (N := 7) C0.1 C0.2.1 C0.2.2.2.2.1 in_Tr ty_Tr tk_Tr nm_Tr C0.2.2.2.1 C0.2.2.2.2.2.1.1 hw.1 hw.2.1 hw.2.2 2 (hR.1 2 (by decide)) rfl 6 (by decide) (C0.2.2.2.2.1 _ wd_91) (fun _ h => h) rfl (by decide +kernel) rfl rfl (Nat.le_of_ble_eq_true rfl) hdg (fun H locs hP hD hS => kk _ H locs ⟨hP, hD, hS⟩ (cs_putI5 hR v))
theorem gf_Tr_34 {p : Program} {l : Launch} {e : Env} {R : Room} {s : State} {m : MethodId} {args : Array Value} {below : List Frame} {meth : Method} {c : Code} {H : Heap} {locs : List Loc} {cells slots : Nat} {Q : State → Prop} {cc : ByteArray} {nL : Nat} {g : Gx} {A : Nat → Prop} {w0 ws : va_W} {pc : Nat} {ls : Array Slot} {rest : List Value} {st : CS} (C0 : ct_Cx R_Tr cc nL p s m args meth c g A) (hw : ct_Wd g A s ws H locs) (hR : cs_Rel g w0 ws st) (hdg : decode cc pc = .ok (.getfield 34, 3)) (kk : W p l e R s m args below meth c H locs cells slots Q (F0 m (pc + 3) ls (.int (cs_I st 5) :: rest))) : W p l e R s m args below meth c H locs cells slots Q (F0 m pc ls (.ref (g.2.1 2) :: rest)) :=
  va_get (D := g.1) (ci := 4) (v := .int (cs_I st 5)) (C := R_Tr) (T := T_Tr) (N := 7) C0.1 C0.2.1 C0.2.2.2.2.1 in_Tr C0.2.2.2.1 C0.2.2.2.2.2.1.1 hw.1 2 (hR.1 2 (by decide)) rfl 6 (by decide) (C0.2.2.2.2.1 _ wd_91) (fun _ h => h) rfl hdg kk
theorem gf_CT_111 {p : Program} {l : Launch} {e : Env} {R : Room} {s : State} {m : MethodId} {args : Array Value} {below : List Frame} {meth : Method} {c : Code} {H : Heap} {locs : List Loc} {cells slots : Nat} {Q : State → Prop} {cc : ByteArray} {nL : Nat} {g : Gx} {A : Nat → Prop} {w0 ws : va_W} {pc : Nat} {ls : Array Slot} {rest : List Value} {st : CS} (C0 : ct_Cx R_CT cc nL p s m args meth c g A) (hw : ct_Wd g A s ws H locs) (hR : cs_Rel g w0 ws st) (hdg : decode cc pc = .ok (.getfield 111, 3)) (kk : W p l e R s m args below meth c H locs cells slots Q (F0 m (pc + 3) ls (.ref (g.2.1 5) :: rest))) : W p l e R s m args below meth c H locs cells slots Q (F0 m pc ls (.ref (g.2.1 2) :: rest)) :=
  va_getN (D := g.1) (ci := 4) (v := .ref (g.2.1 5)) (C := R_Tr) (T := T_Tr) (N := 7) C0.1 C0.2.1 C0.2.2.2.2.1 in_Tr C0.2.2.2.1 C0.2.2.2.2.2.1.1 hw.1 2 (hR.1 2 (by decide)) rfl 0 (by decide) (va_Nw.use rfl (C0.2.2.2.2.2.1.2.1 _ wd_80)) (fun _ h => h) rfl hdg kk
theorem gf_CT_114 {p : Program} {l : Launch} {e : Env} {R : Room} {s : State} {m : MethodId} {args : Array Value} {below : List Frame} {meth : Method} {c : Code} {H : Heap} {locs : List Loc} {cells slots : Nat} {Q : State → Prop} {cc : ByteArray} {nL : Nat} {g : Gx} {A : Nat → Prop} {w0 ws : va_W} {pc : Nat} {ls : Array Slot} {rest : List Value} {st : CS} (C0 : ct_Cx R_CT cc nL p s m args meth c g A) (hw : ct_Wd g A s ws H locs) (hR : cs_Rel g w0 ws st) (hdg : decode cc pc = .ok (.getfield 114, 3)) (kk : W p l e R s m args below meth c H locs cells slots Q (F0 m (pc + 3) ls (.int (cs_I st 4) :: rest))) : W p l e R s m args below meth c H locs cells slots Q (F0 m pc ls (.ref (g.2.1 2) :: rest)) :=
  va_getN (D := g.1) (ci := 4) (v := .int (cs_I st 4)) (C := R_Tr) (T := T_Tr) (N := 7) C0.1 C0.2.1 C0.2.2.2.2.1 in_Tr C0.2.2.2.1 C0.2.2.2.2.2.1.1 hw.1 2 (hR.1 2 (by decide)) rfl 5 (by decide) (va_Nw.use rfl (C0.2.2.2.2.2.1.2.1 _ wd_89)) (fun _ h => h) rfl hdg kk
theorem pf_CT_122 {p : Program} {l : Launch} {e : Env} {R : Room} {s : State} {m : MethodId} {args : Array Value} {below : List Frame} {meth : Method} {c : Code} {H : Heap} {locs : List Loc} {cells slots : Nat} {Q : State → Prop} {cc : ByteArray} {nL : Nat} {g : Gx} {A : Nat → Prop} {w0 ws : va_W} {pc : Nat} {ls : Array Slot} {rest : List Value} {st : CS} {v : Int32} (C0 : ct_Cx R_CT cc nL p s m args meth c g A) (hw : ct_Wd g A s ws H locs) (hR : cs_Rel g w0 ws st) (hdg : decode cc pc = .ok (.putfield 122, 3)) (kk : ∀ (ws : va_W) (H : Heap) (locs : List Loc), ct_Wd g A s ws H locs → cs_Rel g w0 ws (cs_I' st 6 v) → W p l e R s m args below meth c H locs cells slots Q (F0 m (pc + 3) ls rest)) : W p l e R s m args below meth c H locs cells slots Q (F0 m pc ls (.int v :: .ref (g.2.1 3) :: rest)) :=
  va_putN (D := g.1) (ci := 3) (v := .int v) (ty := .int) (C := R_Te) (T := T_Te) (N := 5) C0.1 C0.2.1 C0.2.2.2.2.1 in_Te ty_Te tk_Te nm_Te C0.2.2.2.1 C0.2.2.2.2.2.1.1 hw.1 hw.2.1 hw.2.2 3 (hR.1 3 (by decide)) rfl 4 (by decide) (va_Nw.use rfl (C0.2.2.2.2.2.1.2.1 _ wd_144)) (fun _ h => h) rfl (by decide +kernel) rfl rfl (Nat.le_of_ble_eq_true rfl) hdg (fun H locs hP hD hS => kk _ H locs ⟨hP, hD, hS⟩ (cs_putI6 hR v))
theorem pf_CT_125 {p : Program} {l : Launch} {e : Env} {R : Room} {s : State} {m : MethodId} {args : Array Value} {below : List Frame} {meth : Method} {c : Code} {H : Heap} {locs : List Loc} {cells slots : Nat} {Q : State → Prop} {cc : ByteArray} {nL : Nat} {g : Gx} {A : Nat → Prop} {w0 ws : va_W} {pc : Nat} {ls : Array Slot} {rest : List Value} {st : CS} {v : Int32} (C0 : ct_Cx R_CT cc nL p s m args meth c g A) (hw : ct_Wd g A s ws H locs) (hR : cs_Rel g w0 ws st) (hdg : decode cc pc = .ok (.putfield 125, 3)) (kk : ∀ (ws : va_W) (H : Heap) (locs : List Loc), ct_Wd g A s ws H locs → cs_Rel g w0 ws (cs_I' st 5 v) → W p l e R s m args below meth c H locs cells slots Q (F0 m (pc + 3) ls rest)) : W p l e R s m args below meth c H locs cells slots Q (F0 m pc ls (.int v :: .ref (g.2.1 2) :: rest)) :=
  va_putN (D := g.1) (ci := 4) (v := .int v) (ty := .int) (C := R_Tr) (T := T_Tr) (N := 7) C0.1 C0.2.1 C0.2.2.2.2.1 in_Tr ty_Tr tk_Tr nm_Tr C0.2.2.2.1 C0.2.2.2.2.2.1.1 hw.1 hw.2.1 hw.2.2 2 (hR.1 2 (by decide)) rfl 6 (by decide) (va_Nw.use rfl (C0.2.2.2.2.2.1.2.1 _ wd_92)) (fun _ h => h) rfl (by decide +kernel) rfl rfl (Nat.le_of_ble_eq_true rfl) hdg (fun H locs hP hD hS => kk _ H locs ⟨hP, hD, hS⟩ (cs_putI5 hR v))
theorem gf_Re_27 {p : Program} {l : Launch} {e : Env} {R : Room} {s : State} {m : MethodId} {args : Array Value} {below : List Frame} {meth : Method} {c : Code} {H : Heap} {locs : List Loc} {cells slots : Nat} {Q : State → Prop} {cc : ByteArray} {nL : Nat} {g : Gx} {A : Nat → Prop} {w0 ws : va_W} {pc : Nat} {ls : Array Slot} {rest : List Value} {st : CS} (C0 : ct_Cx R_Re cc nL p s m args meth c g A) (hw : ct_Wd g A s ws H locs) (hR : cs_Rel g w0 ws st) (hdg : decode cc pc = .ok (.getfield 27, 3)) (kk : W p l e R s m args below meth c H locs cells slots Q (F0 m (pc + 3) ls (.ref (g.2.1 7) :: rest))) : W p l e R s m args below meth c H locs cells slots Q (F0 m pc ls (.ref (g.2.1 4) :: rest)) :=
  va_get (D := g.1) (ci := 2) (v := .ref (g.2.1 7)) (C := R_Re) (T := T_Re) (N := 7) C0.1 C0.2.1 C0.2.2.2.2.1 in_Re C0.2.2.2.1 C0.2.2.2.2.2.1.1 hw.1 4 (hR.1 4 (by decide)) rfl 2 (by decide) (C0.2.2.2.2.1 _ wd_163) (fun _ h => h) rfl hdg kk
theorem gf_Re_12 {p : Program} {l : Launch} {e : Env} {R : Room} {s : State} {m : MethodId} {args : Array Value} {below : List Frame} {meth : Method} {c : Code} {H : Heap} {locs : List Loc} {cells slots : Nat} {Q : State → Prop} {cc : ByteArray} {nL : Nat} {g : Gx} {A : Nat → Prop} {w0 ws : va_W} {pc : Nat} {ls : Array Slot} {rest : List Value} {st : CS} (C0 : ct_Cx R_Re cc nL p s m args meth c g A) (hw : ct_Wd g A s ws H locs) (hR : cs_Rel g w0 ws st) (hdg : decode cc pc = .ok (.getfield 12, 3)) (kk : W p l e R s m args below meth c H locs cells slots Q (F0 m (pc + 3) ls (.ref (g.2.1 2) :: rest))) : W p l e R s m args below meth c H locs cells slots Q (F0 m pc ls (.ref (g.2.1 4) :: rest)) :=
  va_get (D := g.1) (ci := 2) (v := .ref (g.2.1 2)) (C := R_Re) (T := T_Re) (N := 7) C0.1 C0.2.1 C0.2.2.2.2.1 in_Re C0.2.2.2.1 C0.2.2.2.2.2.1.1 hw.1 4 (hR.1 4 (by decide)) rfl 0 (by decide) (C0.2.2.2.2.1 _ wd_159) (fun _ h => h) rfl hdg kk
theorem gf_Re_63 {p : Program} {l : Launch} {e : Env} {R : Room} {s : State} {m : MethodId} {args : Array Value} {below : List Frame} {meth : Method} {c : Code} {H : Heap} {locs : List Loc} {cells slots : Nat} {Q : State → Prop} {cc : ByteArray} {nL : Nat} {g : Gx} {A : Nat → Prop} {w0 ws : va_W} {pc : Nat} {ls : Array Slot} {rest : List Value} {st : CS} (C0 : ct_Cx R_Re cc nL p s m args meth c g A) (hw : ct_Wd g A s ws H locs) (hR : cs_Rel g w0 ws st) (hdg : decode cc pc = .ok (.getfield 63, 3)) (kk : W p l e R s m args below meth c H locs cells slots Q (F0 m (pc + 3) ls (.ref (g.2.1 5) :: rest))) : W p l e R s m args below meth c H locs cells slots Q (F0 m pc ls (.ref (g.2.1 2) :: rest)) :=
  va_getN (D := g.1) (ci := 4) (v := .ref (g.2.1 5)) (C := R_Tr) (T := T_Tr) (N := 7) C0.1 C0.2.1 C0.2.2.2.2.1 in_Tr C0.2.2.2.1 C0.2.2.2.2.2.1.1 hw.1 2 (hR.1 2 (by decide)) rfl 0 (by decide) (va_Nw.use rfl (C0.2.2.2.2.2.1.2.1 _ wd_79)) (fun _ h => h) rfl hdg kk
theorem sel_Re_linkUp : Cond.selects R_Re y_Re_linkUp y_Re_linkUp ∈ Wds := List.mem_filter.mpr ⟨List.mem_append_left _ (by decide +kernel), by decide +kernel⟩
theorem gf_Re_21 {p : Program} {l : Launch} {e : Env} {R : Room} {s : State} {m : MethodId} {args : Array Value} {below : List Frame} {meth : Method} {c : Code} {H : Heap} {locs : List Loc} {cells slots : Nat} {Q : State → Prop} {cc : ByteArray} {nL : Nat} {g : Gx} {A : Nat → Prop} {w0 ws : va_W} {pc : Nat} {ls : Array Slot} {rest : List Value} {st : CS} (C0 : ct_Cx R_Re cc nL p s m args meth c g A) (hw : ct_Wd g A s ws H locs) (hR : cs_Rel g w0 ws st) (hdg : decode cc pc = .ok (.getfield 21, 3)) (kk : W p l e R s m args below meth c H locs cells slots Q (F0 m (pc + 3) ls (.ref (g.2.1 3) :: rest))) : W p l e R s m args below meth c H locs cells slots Q (F0 m pc ls (.ref (g.2.1 4) :: rest)) :=
  va_get (D := g.1) (ci := 2) (v := .ref (g.2.1 3)) (C := R_Re) (T := T_Re) (N := 7) C0.1 C0.2.1 C0.2.2.2.2.1 in_Re C0.2.2.2.1 C0.2.2.2.2.2.1.1 hw.1 4 (hR.1 4 (by decide)) rfl 1 (by decide) (C0.2.2.2.2.1 _ wd_161) (fun _ h => h) rfl hdg kk
theorem gf_Re_47 {p : Program} {l : Launch} {e : Env} {R : Room} {s : State} {m : MethodId} {args : Array Value} {below : List Frame} {meth : Method} {c : Code} {H : Heap} {locs : List Loc} {cells slots : Nat} {Q : State → Prop} {cc : ByteArray} {nL : Nat} {g : Gx} {A : Nat → Prop} {w0 ws : va_W} {pc : Nat} {ls : Array Slot} {rest : List Value} {st : CS} (C0 : ct_Cx R_Re cc nL p s m args meth c g A) (hw : ct_Wd g A s ws H locs) (hR : cs_Rel g w0 ws st) (hdg : decode cc pc = .ok (.getfield 47, 3)) (kk : W p l e R s m args below meth c H locs cells slots Q (F0 m (pc + 3) ls (.int (cs_I st 6) :: rest))) : W p l e R s m args below meth c H locs cells slots Q (F0 m pc ls (.ref (g.2.1 3) :: rest)) :=
  va_getN (D := g.1) (ci := 3) (v := .int (cs_I st 6)) (C := R_Te) (T := T_Te) (N := 5) C0.1 C0.2.1 C0.2.2.2.2.1 in_Te C0.2.2.2.1 C0.2.2.2.2.2.1.1 hw.1 3 (hR.1 3 (by decide)) rfl 4 (by decide) (va_Nw.use rfl (C0.2.2.2.2.2.1.2.1 _ wd_143)) (fun _ h => h) rfl hdg kk
theorem gf_Fr_19 {p : Program} {l : Launch} {e : Env} {R : Room} {s : State} {m : MethodId} {args : Array Value} {below : List Frame} {meth : Method} {c : Code} {H : Heap} {locs : List Loc} {cells slots : Nat} {Q : State → Prop} {cc : ByteArray} {nL : Nat} {g : Gx} {A : Nat → Prop} {w0 ws : va_W} {pc : Nat} {ls : Array Slot} {rest : List Value} {st : CS} {f : Nat} (hf : f < 12) (C0 : ct_Cx R_Fr cc nL p s m args meth c g A) (hw : ct_Wd g A s ws H locs) (hR : cs_Rel g w0 ws st) (hdg : decode cc pc = .ok (.getfield 19, 3)) (kk : W p l e R s m args below meth c H locs cells slots Q (F0 m (pc + 3) ls (.long (cs_F st f).1 :: rest))) : W p l e R s m args below meth c H locs cells slots Q (F0 m pc ls (.ref (g.2.1 (23 + f)) :: rest)) :=
  va_get (D := g.1) (ci := 0) (v := .long (cs_F st f).1) (C := R_Fr) (T := T_Fr) (N := 3) C0.1 C0.2.1 C0.2.2.2.2.1 in_Fr C0.2.2.2.1 C0.2.2.2.2.2.1.1 hw.1 (23 + f) (hR.F hf) rfl 0 (by decide) (C0.2.2.2.2.1 _ wd_121) (fun _ h => h) rfl hdg kk
theorem gf_Fr_9 {p : Program} {l : Launch} {e : Env} {R : Room} {s : State} {m : MethodId} {args : Array Value} {below : List Frame} {meth : Method} {c : Code} {H : Heap} {locs : List Loc} {cells slots : Nat} {Q : State → Prop} {cc : ByteArray} {nL : Nat} {g : Gx} {A : Nat → Prop} {w0 ws : va_W} {pc : Nat} {ls : Array Slot} {rest : List Value} {st : CS} {f : Nat} (hf : f < 12) (C0 : ct_Cx R_Fr cc nL p s m args meth c g A) (hw : ct_Wd g A s ws H locs) (hR : cs_Rel g w0 ws st) (hdg : decode cc pc = .ok (.getfield 9, 3)) (kk : W p l e R s m args below meth c H locs cells slots Q (F0 m (pc + 3) ls (.long (cs_F st f).2.1 :: rest))) : W p l e R s m args below meth c H locs cells slots Q (F0 m pc ls (.ref (g.2.1 (23 + f)) :: rest)) :=
  va_get (D := g.1) (ci := 0) (v := .long (cs_F st f).2.1) (C := R_Fr) (T := T_Fr) (N := 3) C0.1 C0.2.1 C0.2.2.2.2.1 in_Fr C0.2.2.2.1 C0.2.2.2.2.2.1.1 hw.1 (23 + f) (hR.F hf) rfl 1 (by decide) (C0.2.2.2.2.1 _ wd_123) (fun _ h => h) rfl hdg kk
theorem gf_Fr_15 {p : Program} {l : Launch} {e : Env} {R : Room} {s : State} {m : MethodId} {args : Array Value} {below : List Frame} {meth : Method} {c : Code} {H : Heap} {locs : List Loc} {cells slots : Nat} {Q : State → Prop} {cc : ByteArray} {nL : Nat} {g : Gx} {A : Nat → Prop} {w0 ws : va_W} {pc : Nat} {ls : Array Slot} {rest : List Value} {st : CS} {f : Nat} (hf : f < 12) (C0 : ct_Cx R_Fr cc nL p s m args meth c g A) (hw : ct_Wd g A s ws H locs) (hR : cs_Rel g w0 ws st) (hdg : decode cc pc = .ok (.getfield 15, 3)) (kk : W p l e R s m args below meth c H locs cells slots Q (F0 m (pc + 3) ls (.int (cs_F st f).2.2 :: rest))) : W p l e R s m args below meth c H locs cells slots Q (F0 m pc ls (.ref (g.2.1 (23 + f)) :: rest)) :=
  va_get (D := g.1) (ci := 0) (v := .int (cs_F st f).2.2) (C := R_Fr) (T := T_Fr) (N := 3) C0.1 C0.2.1 C0.2.2.2.2.1 in_Fr C0.2.2.2.1 C0.2.2.2.2.2.1.1 hw.1 (23 + f) (hR.F hf) rfl 2 (by decide) (C0.2.2.2.2.1 _ wd_125) (fun _ h => h) rfl hdg kk
theorem gf_Re_34 {p : Program} {l : Launch} {e : Env} {R : Room} {s : State} {m : MethodId} {args : Array Value} {below : List Frame} {meth : Method} {c : Code} {H : Heap} {locs : List Loc} {cells slots : Nat} {Q : State → Prop} {cc : ByteArray} {nL : Nat} {g : Gx} {A : Nat → Prop} {w0 ws : va_W} {pc : Nat} {ls : Array Slot} {rest : List Value} {st : CS} (C0 : ct_Cx R_Re cc nL p s m args meth c g A) (hw : ct_Wd g A s ws H locs) (hR : cs_Rel g w0 ws st) (hdg : decode cc pc = .ok (.getfield 34, 3)) (kk : W p l e R s m args below meth c H locs cells slots Q (F0 m (pc + 3) ls (.ref (g.2.1 31) :: rest))) : W p l e R s m args below meth c H locs cells slots Q (F0 m pc ls (.ref (g.2.1 4) :: rest)) :=
  va_get (D := g.1) (ci := 2) (v := .ref (g.2.1 31)) (C := R_Re) (T := T_Re) (N := 7) C0.1 C0.2.1 C0.2.2.2.2.1 in_Re C0.2.2.2.1 C0.2.2.2.2.2.1.1 hw.1 4 (hR.1 4 (by decide)) rfl 3 (by decide) (C0.2.2.2.2.1 _ wd_164) (fun _ h => h) rfl hdg kk
theorem gf_CT_19 {p : Program} {l : Launch} {e : Env} {R : Room} {s : State} {m : MethodId} {args : Array Value} {below : List Frame} {meth : Method} {c : Code} {H : Heap} {locs : List Loc} {cells slots : Nat} {Q : State → Prop} {cc : ByteArray} {nL : Nat} {g : Gx} {A : Nat → Prop} {w0 ws : va_W} {pc : Nat} {ls : Array Slot} {rest : List Value} {st : CS} (C0 : ct_Cx R_CT cc nL p s m args meth c g A) (hw : ct_Wd g A s ws H locs) (hR : cs_Rel g w0 ws st) (hdg : decode cc pc = .ok (.getfield 19, 3)) (kk : W p l e R s m args below meth c H locs cells slots Q (F0 m (pc + 3) ls (.ref (g.2.1 4) :: rest))) : W p l e R s m args below meth c H locs cells slots Q (F0 m pc ls (.ref (g.2.1 0) :: rest)) :=
  va_get (D := g.1) (ci := 5) (v := .ref (g.2.1 4)) (C := R_CT) (T := T_CT) (N := 4) C0.1 C0.2.1 C0.2.2.2.2.1 in_CT C0.2.2.2.1 C0.2.2.2.2.2.1.1 hw.1 0 (hR.1 0 (by decide)) rfl 1 (by decide) (C0.2.2.2.2.1 _ wd_185) (fun _ h => h) rfl hdg kk
theorem gf_CT_156 {p : Program} {l : Launch} {e : Env} {R : Room} {s : State} {m : MethodId} {args : Array Value} {below : List Frame} {meth : Method} {c : Code} {H : Heap} {locs : List Loc} {cells slots : Nat} {Q : State → Prop} {cc : ByteArray} {nL : Nat} {g : Gx} {A : Nat → Prop} {w0 ws : va_W} {pc : Nat} {ls : Array Slot} {rest : List Value} {st : CS} (C0 : ct_Cx R_CT cc nL p s m args meth c g A) (hw : ct_Wd g A s ws H locs) (hR : cs_Rel g w0 ws st) (hdg : decode cc pc = .ok (.getfield 156, 3)) (kk : W p l e R s m args below meth c H locs cells slots Q (F0 m (pc + 3) ls (.ref (g.2.1 31) :: rest))) : W p l e R s m args below meth c H locs cells slots Q (F0 m pc ls (.ref (g.2.1 4) :: rest)) :=
  va_getN (D := g.1) (ci := 2) (v := .ref (g.2.1 31)) (C := R_Re) (T := T_Re) (N := 7) C0.1 C0.2.1 C0.2.2.2.2.1 in_Re C0.2.2.2.1 C0.2.2.2.2.2.1.1 hw.1 4 (hR.1 4 (by decide)) rfl 3 (by decide) (va_Nw.use rfl (C0.2.2.2.2.2.1.2.1 _ wd_165)) (fun _ h => h) rfl hdg kk
theorem gf_CT_211 {p : Program} {l : Launch} {e : Env} {R : Room} {s : State} {m : MethodId} {args : Array Value} {below : List Frame} {meth : Method} {c : Code} {H : Heap} {locs : List Loc} {cells slots : Nat} {Q : State → Prop} {cc : ByteArray} {nL : Nat} {g : Gx} {A : Nat → Prop} {w0 ws : va_W} {pc : Nat} {ls : Array Slot} {rest : List Value} {st : CS} {f : Nat} (hf : f < 12) (C0 : ct_Cx R_CT cc nL p s m args meth c g A) (hw : ct_Wd g A s ws H locs) (hR : cs_Rel g w0 ws st) (hdg : decode cc pc = .ok (.getfield 211, 3)) (kk : W p l e R s m args below meth c H locs cells slots Q (F0 m (pc + 3) ls (.int (cs_F st f).2.2 :: rest))) : W p l e R s m args below meth c H locs cells slots Q (F0 m pc ls (.ref (g.2.1 (23 + f)) :: rest)) :=
  va_getN (D := g.1) (ci := 0) (v := .int (cs_F st f).2.2) (C := R_Fr) (T := T_Fr) (N := 3) C0.1 C0.2.1 C0.2.2.2.2.1 in_Fr C0.2.2.2.1 C0.2.2.2.2.2.1.1 hw.1 (23 + f) (hR.F hf) rfl 2 (by decide) (va_Nw.use rfl (C0.2.2.2.2.2.1.2.1 _ wd_127)) (fun _ h => h) rfl hdg kk
theorem ok_thr_223 : (∀ w ∈ (vx_atS R_CT 223 "java/lang/UnsupportedOperationException" ["java/lang/RuntimeException", "java/lang/Exception"]).filter goodWord, w ∈ Wds) ∧ (∀ w ∈ (vx_atS R_CT 223 "java/lang/UnsupportedOperationException" ["java/lang/RuntimeException", "java/lang/Exception"]).filter (fun w => !goodWord w), w ∈ NW) := ⟨by decide +kernel, by decide +kernel⟩
theorem ok_thr_223_g (ik : Nat) : ∀ w ∈ Cond.classLink R_CT ik "java/lang/UnsupportedOperationException" :: Cond.initialized "java/lang/UnsupportedOperationException" :: vx_atS R_CT 223 "java/lang/UnsupportedOperationException" ["java/lang/RuntimeException", "java/lang/Exception"], vx_ot w = true := List.forall_mem_cons.mpr ⟨rfl, List.forall_mem_cons.mpr ⟨rfl, by decide +kernel⟩⟩
theorem ok_thr_218 : (∀ w ∈ (vx_atS R_CT 218 "java/lang/ArithmeticException" ["java/lang/RuntimeException", "java/lang/Exception"]).filter goodWord, w ∈ Wds) ∧ (∀ w ∈ (vx_atS R_CT 218 "java/lang/ArithmeticException" ["java/lang/RuntimeException", "java/lang/Exception"]).filter (fun w => !goodWord w), w ∈ NW) := ⟨by decide +kernel, by decide +kernel⟩
theorem ok_thr_218_g (ik : Nat) : ∀ w ∈ Cond.classLink R_CT ik "java/lang/ArithmeticException" :: Cond.initialized "java/lang/ArithmeticException" :: vx_atS R_CT 218 "java/lang/ArithmeticException" ["java/lang/RuntimeException", "java/lang/Exception"], vx_ot w = true := List.forall_mem_cons.mpr ⟨rfl, List.forall_mem_cons.mpr ⟨rfl, by decide +kernel⟩⟩
theorem sel_CT_checkAnswer : Cond.selects R_CT y_CT_checkAnswer y_CT_checkAnswer ∈ Wds := List.mem_filter.mpr ⟨List.mem_append_left _ (by decide +kernel), by decide +kernel⟩
theorem gf_CT_208 {p : Program} {l : Launch} {e : Env} {R : Room} {s : State} {m : MethodId} {args : Array Value} {below : List Frame} {meth : Method} {c : Code} {H : Heap} {locs : List Loc} {cells slots : Nat} {Q : State → Prop} {cc : ByteArray} {nL : Nat} {g : Gx} {A : Nat → Prop} {w0 ws : va_W} {pc : Nat} {ls : Array Slot} {rest : List Value} {st : CS} {f : Nat} (hf : f < 12) (C0 : ct_Cx R_CT cc nL p s m args meth c g A) (hw : ct_Wd g A s ws H locs) (hR : cs_Rel g w0 ws st) (hdg : decode cc pc = .ok (.getfield 208, 3)) (kk : W p l e R s m args below meth c H locs cells slots Q (F0 m (pc + 3) ls (.long (cs_F st f).1 :: rest))) : W p l e R s m args below meth c H locs cells slots Q (F0 m pc ls (.ref (g.2.1 (23 + f)) :: rest)) :=
  va_getN (D := g.1) (ci := 0) (v := .long (cs_F st f).1) (C := R_Fr) (T := T_Fr) (N := 3) C0.1 C0.2.1 C0.2.2.2.2.1 in_Fr C0.2.2.2.1 C0.2.2.2.2.2.1.1 hw.1 (23 + f) (hR.F hf) rfl 0 (by decide) (va_Nw.use rfl (C0.2.2.2.2.2.1.2.1 _ wd_122)) (fun _ h => h) rfl hdg kk
theorem gf_CT_204 {p : Program} {l : Launch} {e : Env} {R : Room} {s : State} {m : MethodId} {args : Array Value} {below : List Frame} {meth : Method} {c : Code} {H : Heap} {locs : List Loc} {cells slots : Nat} {Q : State → Prop} {cc : ByteArray} {nL : Nat} {g : Gx} {A : Nat → Prop} {w0 ws : va_W} {pc : Nat} {ls : Array Slot} {rest : List Value} {st : CS} {f : Nat} (hf : f < 12) (C0 : ct_Cx R_CT cc nL p s m args meth c g A) (hw : ct_Wd g A s ws H locs) (hR : cs_Rel g w0 ws st) (hdg : decode cc pc = .ok (.getfield 204, 3)) (kk : W p l e R s m args below meth c H locs cells slots Q (F0 m (pc + 3) ls (.long (cs_F st f).2.1 :: rest))) : W p l e R s m args below meth c H locs cells slots Q (F0 m pc ls (.ref (g.2.1 (23 + f)) :: rest)) :=
  va_getN (D := g.1) (ci := 0) (v := .long (cs_F st f).2.1) (C := R_Fr) (T := T_Fr) (N := 3) C0.1 C0.2.1 C0.2.2.2.2.1 in_Fr C0.2.2.2.1 C0.2.2.2.2.2.1.1 hw.1 (23 + f) (hR.F hf) rfl 1 (by decide) (va_Nw.use rfl (C0.2.2.2.2.2.1.2.1 _ wd_124)) (fun _ h => h) rfl hdg kk
theorem sel_CT_partOfAnswer : Cond.selects R_CT y_CT_partOfAnswer y_CT_partOfAnswer ∈ Wds := List.mem_filter.mpr ⟨List.mem_append_left _ (by decide +kernel), by decide +kernel⟩
theorem gf_Te_11 {p : Program} {l : Launch} {e : Env} {R : Room} {s : State} {m : MethodId} {args : Array Value} {below : List Frame} {meth : Method} {c : Code} {H : Heap} {locs : List Loc} {cells slots : Nat} {Q : State → Prop} {cc : ByteArray} {nL : Nat} {g : Gx} {A : Nat → Prop} {w0 ws : va_W} {pc : Nat} {ls : Array Slot} {rest : List Value} {st : CS} (C0 : ct_Cx R_Te cc nL p s m args meth c g A) (hw : ct_Wd g A s ws H locs) (hR : cs_Rel g w0 ws st) (hdg : decode cc pc = .ok (.getfield 11, 3)) (kk : W p l e R s m args below meth c H locs cells slots Q (F0 m (pc + 3) ls (.ref (g.2.1 6) :: rest))) : W p l e R s m args below meth c H locs cells slots Q (F0 m pc ls (.ref (g.2.1 3) :: rest)) :=
  va_get (D := g.1) (ci := 3) (v := .ref (g.2.1 6)) (C := R_Te) (T := T_Te) (N := 5) C0.1 C0.2.1 C0.2.2.2.2.1 in_Te C0.2.2.2.1 C0.2.2.2.2.2.1.1 hw.1 3 (hR.1 3 (by decide)) rfl 0 (by decide) (C0.2.2.2.2.1 _ wd_135) (fun _ h => h) rfl hdg kk
theorem ma_Fr_26 {p : Program} {l : Launch} {e : Env} {R : Room} {s : State} {m : MethodId} {args : Array Value} {below : List Frame} {meth : Method} {c : Code} {H : Heap} {locs : List Loc} {cells slots : Nat} {Q : State → Prop} {cc : ByteArray} {nL : Nat} {g : Gx} {A : Nat → Prop} {w0 ws : va_W} {pc : Nat} {ls : Array Slot} {rest : List Value} {x y : Int32} (C0 : ct_Cx R_Fr cc nL p s m args meth c g A) (hml : c.maxLocals = ls.size) (hR : 1 ≤ R.frames ∧ cells ≤ R.cells ∧ slots ≤ R.slots) (hlo : (rest.map fun v => v.category).sum + 13 ≤ R.locals) (hdg : decode cc pc = .ok (.invokestatic 26, 3)) (kk : W p l e R s m args below meth c H locs cells slots Q (F0 m (pc + 3) ls (.int (ct_mxI x y) :: rest))) : W p l e R s m args below meth c H locs cells slots Q (F0 m pc ls (.int y :: .int x :: rest)) :=
  va_mmax C0.1 C0.2.1 hml C0.2.2.2.1 (C0.2.2.2.2.1 _ wd_564) (C0.2.2.2.2.1 _ wd_565) (C0.2.2.2.2.1 _ wd_13) (C0.2.2.2.2.1 _ wd_566) hR.1 hlo hR.2.1 hR.2.2 hdg kk
theorem gf_Re_41 {p : Program} {l : Launch} {e : Env} {R : Room} {s : State} {m : MethodId} {args : Array Value} {below : List Frame} {meth : Method} {c : Code} {H : Heap} {locs : List Loc} {cells slots : Nat} {Q : State → Prop} {cc : ByteArray} {nL : Nat} {g : Gx} {A : Nat → Prop} {w0 ws : va_W} {pc : Nat} {ls : Array Slot} {rest : List Value} {st : CS} (C0 : ct_Cx R_Re cc nL p s m args meth c g A) (hw : ct_Wd g A s ws H locs) (hR : cs_Rel g w0 ws st) (hdg : decode cc pc = .ok (.getfield 41, 3)) (kk : W p l e R s m args below meth c H locs cells slots Q (F0 m (pc + 3) ls (.ref (g.2.1 33) :: rest))) : W p l e R s m args below meth c H locs cells slots Q (F0 m pc ls (.ref (g.2.1 4) :: rest)) :=
  va_get (D := g.1) (ci := 2) (v := .ref (g.2.1 33)) (C := R_Re) (T := T_Re) (N := 7) C0.1 C0.2.1 C0.2.2.2.2.1 in_Re C0.2.2.2.1 C0.2.2.2.2.2.1.1 hw.1 4 (hR.1 4 (by decide)) rfl 5 (by decide) (C0.2.2.2.2.1 _ wd_167) (fun _ h => h) rfl hdg kk
theorem gf_Re_129 {p : Program} {l : Launch} {e : Env} {R : Room} {s : State} {m : MethodId} {args : Array Value} {below : List Frame} {meth : Method} {c : Code} {H : Heap} {locs : List Loc} {cells slots : Nat} {Q : State → Prop} {cc : ByteArray} {nL : Nat} {g : Gx} {A : Nat → Prop} {w0 ws : va_W} {pc : Nat} {ls : Array Slot} {rest : List Value} {st : CS} (C0 : ct_Cx R_Re cc nL p s m args meth c g A) (hw : ct_Wd g A s ws H locs) (hR : cs_Rel g w0 ws st) (hdg : decode cc pc = .ok (.getfield 129, 3)) (kk : W p l e R s m args below meth c H locs cells slots Q (F0 m (pc + 3) ls (.int (cs_I st 1) :: rest))) : W p l e R s m args below meth c H locs cells slots Q (F0 m pc ls (.ref (g.2.1 2) :: rest)) :=
  va_getN (D := g.1) (ci := 4) (v := .int (cs_I st 1)) (C := R_Tr) (T := T_Tr) (N := 7) C0.1 C0.2.1 C0.2.2.2.2.1 in_Tr C0.2.2.2.1 C0.2.2.2.2.2.1.1 hw.1 2 (hR.1 2 (by decide)) rfl 2 (by decide) (va_Nw.use rfl (C0.2.2.2.2.2.1.2.1 _ wd_83)) (fun _ h => h) rfl hdg kk
theorem gf_Re_132 {p : Program} {l : Launch} {e : Env} {R : Room} {s : State} {m : MethodId} {args : Array Value} {below : List Frame} {meth : Method} {c : Code} {H : Heap} {locs : List Loc} {cells slots : Nat} {Q : State → Prop} {cc : ByteArray} {nL : Nat} {g : Gx} {A : Nat → Prop} {w0 ws : va_W} {pc : Nat} {ls : Array Slot} {rest : List Value} {st : CS} (C0 : ct_Cx R_Re cc nL p s m args meth c g A) (hw : ct_Wd g A s ws H locs) (hR : cs_Rel g w0 ws st) (hdg : decode cc pc = .ok (.getfield 132, 3)) (kk : W p l e R s m args below meth c H locs cells slots Q (F0 m (pc + 3) ls (.int (cs_I st 2) :: rest))) : W p l e R s m args below meth c H locs cells slots Q (F0 m pc ls (.ref (g.2.1 2) :: rest)) :=
  va_getN (D := g.1) (ci := 4) (v := .int (cs_I st 2)) (C := R_Tr) (T := T_Tr) (N := 7) C0.1 C0.2.1 C0.2.2.2.2.1 in_Tr C0.2.2.2.1 C0.2.2.2.2.2.1.1 hw.1 2 (hR.1 2 (by decide)) rfl 3 (by decide) (va_Nw.use rfl (C0.2.2.2.2.2.1.2.1 _ wd_86)) (fun _ h => h) rfl hdg kk
theorem gf_Re_38 {p : Program} {l : Launch} {e : Env} {R : Room} {s : State} {m : MethodId} {args : Array Value} {below : List Frame} {meth : Method} {c : Code} {H : Heap} {locs : List Loc} {cells slots : Nat} {Q : State → Prop} {cc : ByteArray} {nL : Nat} {g : Gx} {A : Nat → Prop} {w0 ws : va_W} {pc : Nat} {ls : Array Slot} {rest : List Value} {st : CS} (C0 : ct_Cx R_Re cc nL p s m args meth c g A) (hw : ct_Wd g A s ws H locs) (hR : cs_Rel g w0 ws st) (hdg : decode cc pc = .ok (.getfield 38, 3)) (kk : W p l e R s m args below meth c H locs cells slots Q (F0 m (pc + 3) ls (.ref (g.2.1 32) :: rest))) : W p l e R s m args below meth c H locs cells slots Q (F0 m pc ls (.ref (g.2.1 4) :: rest)) :=
  va_get (D := g.1) (ci := 2) (v := .ref (g.2.1 32)) (C := R_Re) (T := T_Re) (N := 7) C0.1 C0.2.1 C0.2.2.2.2.1 in_Re C0.2.2.2.1 C0.2.2.2.2.2.1.1 hw.1 4 (hR.1 4 (by decide)) rfl 4 (by decide) (C0.2.2.2.2.1 _ wd_166) (fun _ h => h) rfl hdg kk
theorem sel_Re_asWhole : Cond.selects R_Re y_Re_asWhole y_Re_asWhole ∈ Wds := List.mem_filter.mpr ⟨List.mem_append_left _ (by decide +kernel), by decide +kernel⟩
theorem sel_Re_chain : Cond.selects R_Re y_Re_chain y_Re_chain ∈ Wds := List.mem_filter.mpr ⟨List.mem_append_left _ (by decide +kernel), by decide +kernel⟩
theorem gf_Re_82 {p : Program} {l : Launch} {e : Env} {R : Room} {s : State} {m : MethodId} {args : Array Value} {below : List Frame} {meth : Method} {c : Code} {H : Heap} {locs : List Loc} {cells slots : Nat} {Q : State → Prop} {cc : ByteArray} {nL : Nat} {g : Gx} {A : Nat → Prop} {w0 ws : va_W} {pc : Nat} {ls : Array Slot} {rest : List Value} {st : CS} (C0 : ct_Cx R_Re cc nL p s m args meth c g A) (hw : ct_Wd g A s ws H locs) (hR : cs_Rel g w0 ws st) (hdg : decode cc pc = .ok (.getfield 82, 3)) (kk : W p l e R s m args below meth c H locs cells slots Q (F0 m (pc + 3) ls (.ref (g.2.1 25) :: rest))) : W p l e R s m args below meth c H locs cells slots Q (F0 m pc ls (.ref (g.2.1 3) :: rest)) :=
  va_getN (D := g.1) (ci := 3) (v := .ref (g.2.1 25)) (C := R_Te) (T := T_Te) (N := 5) C0.1 C0.2.1 C0.2.2.2.2.1 in_Te C0.2.2.2.1 C0.2.2.2.2.2.1.1 hw.1 3 (hR.1 3 (by decide)) rfl 3 (by decide) (va_Nw.use rfl (C0.2.2.2.2.2.1.2.1 _ wd_140)) (fun _ h => h) rfl hdg kk
theorem sel_Re_blend : Cond.selects R_Re y_Re_blend y_Re_blend ∈ Wds := List.mem_filter.mpr ⟨List.mem_append_left _ (by decide +kernel), by decide +kernel⟩
theorem sel_Re_expect : Cond.selects R_Re y_Re_expect y_Re_expect ∈ Wds := List.mem_filter.mpr ⟨List.mem_append_left _ (by decide +kernel), by decide +kernel⟩
theorem sel_CT_isRow : Cond.selects R_CT y_CT_isRow y_CT_isRow ∈ Wds := List.mem_filter.mpr ⟨List.mem_append_left _ (by decide +kernel), by decide +kernel⟩
theorem gf_Re_44 {p : Program} {l : Launch} {e : Env} {R : Room} {s : State} {m : MethodId} {args : Array Value} {below : List Frame} {meth : Method} {c : Code} {H : Heap} {locs : List Loc} {cells slots : Nat} {Q : State → Prop} {cc : ByteArray} {nL : Nat} {g : Gx} {A : Nat → Prop} {w0 ws : va_W} {pc : Nat} {ls : Array Slot} {rest : List Value} {st : CS} (C0 : ct_Cx R_Re cc nL p s m args meth c g A) (hw : ct_Wd g A s ws H locs) (hR : cs_Rel g w0 ws st) (hdg : decode cc pc = .ok (.getfield 44, 3)) (kk : W p l e R s m args below meth c H locs cells slots Q (F0 m (pc + 3) ls (.ref (g.2.1 34) :: rest))) : W p l e R s m args below meth c H locs cells slots Q (F0 m pc ls (.ref (g.2.1 4) :: rest)) :=
  va_get (D := g.1) (ci := 2) (v := .ref (g.2.1 34)) (C := R_Re) (T := T_Re) (N := 7) C0.1 C0.2.1 C0.2.2.2.2.1 in_Re C0.2.2.2.1 C0.2.2.2.2.2.1.1 hw.1 4 (hR.1 4 (by decide)) rfl 6 (by decide) (C0.2.2.2.2.1 _ wd_168) (fun _ h => h) rfl hdg kk
theorem gf_Re_111 {p : Program} {l : Launch} {e : Env} {R : Room} {s : State} {m : MethodId} {args : Array Value} {below : List Frame} {meth : Method} {c : Code} {H : Heap} {locs : List Loc} {cells slots : Nat} {Q : State → Prop} {cc : ByteArray} {nL : Nat} {g : Gx} {A : Nat → Prop} {w0 ws : va_W} {pc : Nat} {ls : Array Slot} {rest : List Value} {st : CS} {f : Nat} (hf : f < 12) (C0 : ct_Cx R_Re cc nL p s m args meth c g A) (hw : ct_Wd g A s ws H locs) (hR : cs_Rel g w0 ws st) (hdg : decode cc pc = .ok (.getfield 111, 3)) (kk : W p l e R s m args below meth c H locs cells slots Q (F0 m (pc + 3) ls (.int (cs_F st f).2.2 :: rest))) : W p l e R s m args below meth c H locs cells slots Q (F0 m pc ls (.ref (g.2.1 (23 + f)) :: rest)) :=
  va_getN (D := g.1) (ci := 0) (v := .int (cs_F st f).2.2) (C := R_Fr) (T := T_Fr) (N := 3) C0.1 C0.2.1 C0.2.2.2.2.1 in_Fr C0.2.2.2.1 C0.2.2.2.2.2.1.1 hw.1 (23 + f) (hR.F hf) rfl 2 (by decide) (va_Nw.use rfl (C0.2.2.2.2.2.1.2.1 _ wd_126)) (fun _ h => h) rfl hdg kk
theorem ma_Re_117 {p : Program} {l : Launch} {e : Env} {R : Room} {s : State} {m : MethodId} {args : Array Value} {below : List Frame} {meth : Method} {c : Code} {H : Heap} {locs : List Loc} {cells slots : Nat} {Q : State → Prop} {cc : ByteArray} {nL : Nat} {g : Gx} {A : Nat → Prop} {w0 ws : va_W} {pc : Nat} {ls : Array Slot} {rest : List Value} {x y : Int32} (C0 : ct_Cx R_Re cc nL p s m args meth c g A) (hml : c.maxLocals = ls.size) (hR : 1 ≤ R.frames ∧ cells ≤ R.cells ∧ slots ≤ R.slots) (hlo : (rest.map fun v => v.category).sum + 13 ≤ R.locals) (hdg : decode cc pc = .ok (.invokestatic 117, 3)) (kk : W p l e R s m args below meth c H locs cells slots Q (F0 m (pc + 3) ls (.int (ct_mxI x y) :: rest))) : W p l e R s m args below meth c H locs cells slots Q (F0 m pc ls (.int y :: .int x :: rest)) :=
  va_mmax C0.1 C0.2.1 hml C0.2.2.2.1 (C0.2.2.2.2.1 _ wd_665) (C0.2.2.2.2.1 _ wd_565) (C0.2.2.2.2.1 _ wd_13) (C0.2.2.2.2.1 _ wd_566) hR.1 hlo hR.2.1 hR.2.2 hdg kk
theorem sel_Re_toSquare : Cond.selects R_Re y_Re_toSquare y_Re_toSquare ∈ Wds := List.mem_filter.mpr ⟨List.mem_append_left _ (by decide +kernel), by decide +kernel⟩
theorem gf_Re_126 {p : Program} {l : Launch} {e : Env} {R : Room} {s : State} {m : MethodId} {args : Array Value} {below : List Frame} {meth : Method} {c : Code} {H : Heap} {locs : List Loc} {cells slots : Nat} {Q : State → Prop} {cc : ByteArray} {nL : Nat} {g : Gx} {A : Nat → Prop} {w0 ws : va_W} {pc : Nat} {ls : Array Slot} {rest : List Value} {st : CS} (C0 : ct_Cx R_Re cc nL p s m args meth c g A) (hw : ct_Wd g A s ws H locs) (hR : cs_Rel g w0 ws st) (hdg : decode cc pc = .ok (.getfield 126, 3)) (kk : W p l e R s m args below meth c H locs cells slots Q (F0 m (pc + 3) ls (.int (cs_I st 4) :: rest))) : W p l e R s m args below meth c H locs cells slots Q (F0 m pc ls (.ref (g.2.1 2) :: rest)) :=
  va_getN (D := g.1) (ci := 4) (v := .int (cs_I st 4)) (C := R_Tr) (T := T_Tr) (N := 7) C0.1 C0.2.1 C0.2.2.2.2.1 in_Tr C0.2.2.2.1 C0.2.2.2.2.2.1.1 hw.1 2 (hR.1 2 (by decide)) rfl 5 (by decide) (va_Nw.use rfl (C0.2.2.2.2.2.1.2.1 _ wd_90)) (fun _ h => h) rfl hdg kk
theorem gf_CT_125 {p : Program} {l : Launch} {e : Env} {R : Room} {s : State} {m : MethodId} {args : Array Value} {below : List Frame} {meth : Method} {c : Code} {H : Heap} {locs : List Loc} {cells slots : Nat} {Q : State → Prop} {cc : ByteArray} {nL : Nat} {g : Gx} {A : Nat → Prop} {w0 ws : va_W} {pc : Nat} {ls : Array Slot} {rest : List Value} {st : CS} (C0 : ct_Cx R_CT cc nL p s m args meth c g A) (hw : ct_Wd g A s ws H locs) (hR : cs_Rel g w0 ws st) (hdg : decode cc pc = .ok (.getfield 125, 3)) (kk : W p l e R s m args below meth c H locs cells slots Q (F0 m (pc + 3) ls (.int (cs_I st 5) :: rest))) : W p l e R s m args below meth c H locs cells slots Q (F0 m pc ls (.ref (g.2.1 2) :: rest)) :=
  va_getN (D := g.1) (ci := 4) (v := .int (cs_I st 5)) (C := R_Tr) (T := T_Tr) (N := 7) C0.1 C0.2.1 C0.2.2.2.2.1 in_Tr C0.2.2.2.1 C0.2.2.2.2.2.1.1 hw.1 2 (hR.1 2 (by decide)) rfl 6 (by decide) (va_Nw.use rfl (C0.2.2.2.2.2.1.2.1 _ wd_92)) (fun _ h => h) rfl hdg kk
theorem gf_CT_183 {p : Program} {l : Launch} {e : Env} {R : Room} {s : State} {m : MethodId} {args : Array Value} {below : List Frame} {meth : Method} {c : Code} {H : Heap} {locs : List Loc} {cells slots : Nat} {Q : State → Prop} {cc : ByteArray} {nL : Nat} {g : Gx} {A : Nat → Prop} {w0 ws : va_W} {pc : Nat} {ls : Array Slot} {rest : List Value} {st : CS} (C0 : ct_Cx R_CT cc nL p s m args meth c g A) (hw : ct_Wd g A s ws H locs) (hR : cs_Rel g w0 ws st) (hdg : decode cc pc = .ok (.getfield 183, 3)) (kk : W p l e R s m args below meth c H locs cells slots Q (F0 m (pc + 3) ls (.int (cs_I st 1) :: rest))) : W p l e R s m args below meth c H locs cells slots Q (F0 m pc ls (.ref (g.2.1 2) :: rest)) :=
  va_getN (D := g.1) (ci := 4) (v := .int (cs_I st 1)) (C := R_Tr) (T := T_Tr) (N := 7) C0.1 C0.2.1 C0.2.2.2.2.1 in_Tr C0.2.2.2.1 C0.2.2.2.2.2.1.1 hw.1 2 (hR.1 2 (by decide)) rfl 2 (by decide) (va_Nw.use rfl (C0.2.2.2.2.2.1.2.1 _ wd_84)) (fun _ h => h) rfl hdg kk
theorem gf_Mo_55 {p : Program} {l : Launch} {e : Env} {R : Room} {s : State} {m : MethodId} {args : Array Value} {below : List Frame} {meth : Method} {c : Code} {H : Heap} {locs : List Loc} {cells slots : Nat} {Q : State → Prop} {cc : ByteArray} {nL : Nat} {g : Gx} {A : Nat → Prop} {w0 ws : va_W} {pc : Nat} {ls : Array Slot} {rest : List Value} {st : MS} (C0 : ct_Cx R_Mo cc nL p s m args meth c g A) (hw : ct_Wd g A s ws H locs) (hR : ms_Rel g w0 ws st) (hdg : decode cc pc = .ok (.getfield 55, 3)) (kk : W p l e R s m args below meth c H locs cells slots Q (F0 m (pc + 3) ls (.int (ms_I st 0) :: rest))) : W p l e R s m args below meth c H locs cells slots Q (F0 m pc ls (.ref (g.2.1 35) :: rest)) :=
  va_get (D := g.1) (ci := 6) (v := .int (ms_I st 0)) (C := R_Mo) (T := T_Mo) (N := 26) C0.1 C0.2.1 C0.2.2.2.2.1 in_Mo C0.2.2.2.1 C0.2.2.2.2.2.1.1 hw.1 35 (hR.1 35 (by decide) (by decide)) rfl 0 (by decide) (C0.2.2.2.2.1 _ wd_710) (fun _ h => h) rfl hdg kk
theorem pf_Mo_55 {p : Program} {l : Launch} {e : Env} {R : Room} {s : State} {m : MethodId} {args : Array Value} {below : List Frame} {meth : Method} {c : Code} {H : Heap} {locs : List Loc} {cells slots : Nat} {Q : State → Prop} {cc : ByteArray} {nL : Nat} {g : Gx} {A : Nat → Prop} {w0 ws : va_W} {pc : Nat} {ls : Array Slot} {rest : List Value} {st : MS} {v : Int32} (C0 : ct_Cx R_Mo cc nL p s m args meth c g A) (hw : ct_Wd g A s ws H locs) (hR : ms_Rel g w0 ws st) (hdg : decode cc pc = .ok (.putfield 55, 3)) (kk : ∀ (ws : va_W) (H : Heap) (locs : List Loc), ct_Wd g A s ws H locs → ms_Rel g w0 ws (ms_I' st 0 v) → W p l e R s m args below meth c H locs cells slots Q (F0 m (pc + 3) ls rest)) : W p l e R s m args below meth c H locs cells slots Q (F0 m pc ls (.int v :: .ref (g.2.1 35) :: rest)) :=
  va_put (D := g.1) (ci := 6) (v := .int v) (ty := .int) (C := R_Mo) (T := T_Mo) (N := 26) C0.1 C0.2.1 C0.2.2.2.2.1 in_Mo ty_Mo tk_Mo nm_Mo C0.2.2.2.1 C0.2.2.2.2.2.1.1 hw.1 hw.2.1 hw.2.2 35 (hR.1 35 (by decide) (by decide)) rfl 0 (by decide) (C0.2.2.2.2.1 _ wd_710) (fun _ h => h) rfl (by decide +kernel) rfl rfl (Nat.le_of_ble_eq_true rfl) hdg (fun H locs hP hD hS => kk _ H locs ⟨hP, hD, hS⟩ (ms_putI0 hR v))
theorem gf_Mo_7 {p : Program} {l : Launch} {e : Env} {R : Room} {s : State} {m : MethodId} {args : Array Value} {below : List Frame} {meth : Method} {c : Code} {H : Heap} {locs : List Loc} {cells slots : Nat} {Q : State → Prop} {cc : ByteArray} {nL : Nat} {g : Gx} {A : Nat → Prop} {w0 ws : va_W} {pc : Nat} {ls : Array Slot} {rest : List Value} {st : MS} (C0 : ct_Cx R_Mo cc nL p s m args meth c g A) (hw : ct_Wd g A s ws H locs) (hR : ms_Rel g w0 ws st) (hdg : decode cc pc = .ok (.getfield 7, 3)) (kk : W p l e R s m args below meth c H locs cells slots Q (F0 m (pc + 3) ls (.ref (g.2.1 36) :: rest))) : W p l e R s m args below meth c H locs cells slots Q (F0 m pc ls (.ref (g.2.1 35) :: rest)) :=
  va_get (D := g.1) (ci := 6) (v := .ref (g.2.1 36)) (C := R_Mo) (T := T_Mo) (N := 26) C0.1 C0.2.1 C0.2.2.2.2.1 in_Mo C0.2.2.2.1 C0.2.2.2.2.2.1.1 hw.1 35 (hR.1 35 (by decide) (by decide)) rfl 2 (by decide) (C0.2.2.2.2.1 _ wd_712) (fun _ h => h) rfl hdg kk
theorem gf_Mo_66 {p : Program} {l : Launch} {e : Env} {R : Room} {s : State} {m : MethodId} {args : Array Value} {below : List Frame} {meth : Method} {c : Code} {H : Heap} {locs : List Loc} {cells slots : Nat} {Q : State → Prop} {cc : ByteArray} {nL : Nat} {g : Gx} {A : Nat → Prop} {w0 ws : va_W} {pc : Nat} {ls : Array Slot} {rest : List Value} {st : MS} (C0 : ct_Cx R_Mo cc nL p s m args meth c g A) (hw : ct_Wd g A s ws H locs) (hR : ms_Rel g w0 ws st) (hdg : decode cc pc = .ok (.getfield 66, 3)) (kk : W p l e R s m args below meth c H locs cells slots Q (F0 m (pc + 3) ls (.int (ms_I st 1) :: rest))) : W p l e R s m args below meth c H locs cells slots Q (F0 m pc ls (.ref (g.2.1 35) :: rest)) :=
  va_get (D := g.1) (ci := 6) (v := .int (ms_I st 1)) (C := R_Mo) (T := T_Mo) (N := 26) C0.1 C0.2.1 C0.2.2.2.2.1 in_Mo C0.2.2.2.1 C0.2.2.2.2.2.1.1 hw.1 35 (hR.1 35 (by decide) (by decide)) rfl 1 (by decide) (C0.2.2.2.2.1 _ wd_711) (fun _ h => h) rfl hdg kk
theorem gf_Mo_13 {p : Program} {l : Launch} {e : Env} {R : Room} {s : State} {m : MethodId} {args : Array Value} {below : List Frame} {meth : Method} {c : Code} {H : Heap} {locs : List Loc} {cells slots : Nat} {Q : State → Prop} {cc : ByteArray} {nL : Nat} {g : Gx} {A : Nat → Prop} {w0 ws : va_W} {pc : Nat} {ls : Array Slot} {rest : List Value} {st : MS} (C0 : ct_Cx R_Mo cc nL p s m args meth c g A) (hw : ct_Wd g A s ws H locs) (hR : ms_Rel g w0 ws st) (hdg : decode cc pc = .ok (.getfield 13, 3)) (kk : W p l e R s m args below meth c H locs cells slots Q (F0 m (pc + 3) ls (.ref (g.2.1 37) :: rest))) : W p l e R s m args below meth c H locs cells slots Q (F0 m pc ls (.ref (g.2.1 35) :: rest)) :=
  va_get (D := g.1) (ci := 6) (v := .ref (g.2.1 37)) (C := R_Mo) (T := T_Mo) (N := 26) C0.1 C0.2.1 C0.2.2.2.2.1 in_Mo C0.2.2.2.1 C0.2.2.2.2.2.1.1 hw.1 35 (hR.1 35 (by decide) (by decide)) rfl 3 (by decide) (C0.2.2.2.2.1 _ wd_713) (fun _ h => h) rfl hdg kk
theorem gf_Mo_16 {p : Program} {l : Launch} {e : Env} {R : Room} {s : State} {m : MethodId} {args : Array Value} {below : List Frame} {meth : Method} {c : Code} {H : Heap} {locs : List Loc} {cells slots : Nat} {Q : State → Prop} {cc : ByteArray} {nL : Nat} {g : Gx} {A : Nat → Prop} {w0 ws : va_W} {pc : Nat} {ls : Array Slot} {rest : List Value} {st : MS} (C0 : ct_Cx R_Mo cc nL p s m args meth c g A) (hw : ct_Wd g A s ws H locs) (hR : ms_Rel g w0 ws st) (hdg : decode cc pc = .ok (.getfield 16, 3)) (kk : W p l e R s m args below meth c H locs cells slots Q (F0 m (pc + 3) ls (.ref (g.2.1 38) :: rest))) : W p l e R s m args below meth c H locs cells slots Q (F0 m pc ls (.ref (g.2.1 35) :: rest)) :=
  va_get (D := g.1) (ci := 6) (v := .ref (g.2.1 38)) (C := R_Mo) (T := T_Mo) (N := 26) C0.1 C0.2.1 C0.2.2.2.2.1 in_Mo C0.2.2.2.1 C0.2.2.2.2.2.1.1 hw.1 35 (hR.1 35 (by decide) (by decide)) rfl 4 (by decide) (C0.2.2.2.2.1 _ wd_714) (fun _ h => h) rfl hdg kk
theorem gf_Mo_19 {p : Program} {l : Launch} {e : Env} {R : Room} {s : State} {m : MethodId} {args : Array Value} {below : List Frame} {meth : Method} {c : Code} {H : Heap} {locs : List Loc} {cells slots : Nat} {Q : State → Prop} {cc : ByteArray} {nL : Nat} {g : Gx} {A : Nat → Prop} {w0 ws : va_W} {pc : Nat} {ls : Array Slot} {rest : List Value} {st : MS} (C0 : ct_Cx R_Mo cc nL p s m args meth c g A) (hw : ct_Wd g A s ws H locs) (hR : ms_Rel g w0 ws st) (hdg : decode cc pc = .ok (.getfield 19, 3)) (kk : W p l e R s m args below meth c H locs cells slots Q (F0 m (pc + 3) ls (.ref (g.2.1 39) :: rest))) : W p l e R s m args below meth c H locs cells slots Q (F0 m pc ls (.ref (g.2.1 35) :: rest)) :=
  va_get (D := g.1) (ci := 6) (v := .ref (g.2.1 39)) (C := R_Mo) (T := T_Mo) (N := 26) C0.1 C0.2.1 C0.2.2.2.2.1 in_Mo C0.2.2.2.1 C0.2.2.2.2.2.1.1 hw.1 35 (hR.1 35 (by decide) (by decide)) rfl 5 (by decide) (C0.2.2.2.2.1 _ wd_715) (fun _ h => h) rfl hdg kk
theorem gf_Mo_22 {p : Program} {l : Launch} {e : Env} {R : Room} {s : State} {m : MethodId} {args : Array Value} {below : List Frame} {meth : Method} {c : Code} {H : Heap} {locs : List Loc} {cells slots : Nat} {Q : State → Prop} {cc : ByteArray} {nL : Nat} {g : Gx} {A : Nat → Prop} {w0 ws : va_W} {pc : Nat} {ls : Array Slot} {rest : List Value} {st : MS} (C0 : ct_Cx R_Mo cc nL p s m args meth c g A) (hw : ct_Wd g A s ws H locs) (hR : ms_Rel g w0 ws st) (hdg : decode cc pc = .ok (.getfield 22, 3)) (kk : W p l e R s m args below meth c H locs cells slots Q (F0 m (pc + 3) ls (.ref (g.2.1 40) :: rest))) : W p l e R s m args below meth c H locs cells slots Q (F0 m pc ls (.ref (g.2.1 35) :: rest)) :=
  va_get (D := g.1) (ci := 6) (v := .ref (g.2.1 40)) (C := R_Mo) (T := T_Mo) (N := 26) C0.1 C0.2.1 C0.2.2.2.2.1 in_Mo C0.2.2.2.1 C0.2.2.2.2.2.1.1 hw.1 35 (hR.1 35 (by decide) (by decide)) rfl 6 (by decide) (C0.2.2.2.2.1 _ wd_716) (fun _ h => h) rfl hdg kk
theorem gf_Mo_26 {p : Program} {l : Launch} {e : Env} {R : Room} {s : State} {m : MethodId} {args : Array Value} {below : List Frame} {meth : Method} {c : Code} {H : Heap} {locs : List Loc} {cells slots : Nat} {Q : State → Prop} {cc : ByteArray} {nL : Nat} {g : Gx} {A : Nat → Prop} {w0 ws : va_W} {pc : Nat} {ls : Array Slot} {rest : List Value} {st : MS} (C0 : ct_Cx R_Mo cc nL p s m args meth c g A) (hw : ct_Wd g A s ws H locs) (hR : ms_Rel g w0 ws st) (hdg : decode cc pc = .ok (.getfield 26, 3)) (kk : W p l e R s m args below meth c H locs cells slots Q (F0 m (pc + 3) ls (.ref (g.2.1 41) :: rest))) : W p l e R s m args below meth c H locs cells slots Q (F0 m pc ls (.ref (g.2.1 35) :: rest)) :=
  va_get (D := g.1) (ci := 6) (v := .ref (g.2.1 41)) (C := R_Mo) (T := T_Mo) (N := 26) C0.1 C0.2.1 C0.2.2.2.2.1 in_Mo C0.2.2.2.1 C0.2.2.2.2.2.1.1 hw.1 35 (hR.1 35 (by decide) (by decide)) rfl 7 (by decide) (C0.2.2.2.2.1 _ wd_717) (fun _ h => h) rfl hdg kk
theorem pf_Mo_66 {p : Program} {l : Launch} {e : Env} {R : Room} {s : State} {m : MethodId} {args : Array Value} {below : List Frame} {meth : Method} {c : Code} {H : Heap} {locs : List Loc} {cells slots : Nat} {Q : State → Prop} {cc : ByteArray} {nL : Nat} {g : Gx} {A : Nat → Prop} {w0 ws : va_W} {pc : Nat} {ls : Array Slot} {rest : List Value} {st : MS} {v : Int32} (C0 : ct_Cx R_Mo cc nL p s m args meth c g A) (hw : ct_Wd g A s ws H locs) (hR : ms_Rel g w0 ws st) (hdg : decode cc pc = .ok (.putfield 66, 3)) (kk : ∀ (ws : va_W) (H : Heap) (locs : List Loc), ct_Wd g A s ws H locs → ms_Rel g w0 ws (ms_I' st 1 v) → W p l e R s m args below meth c H locs cells slots Q (F0 m (pc + 3) ls rest)) : W p l e R s m args below meth c H locs cells slots Q (F0 m pc ls (.int v :: .ref (g.2.1 35) :: rest)) :=
  va_put (D := g.1) (ci := 6) (v := .int v) (ty := .int) (C := R_Mo) (T := T_Mo) (N := 26) C0.1 C0.2.1 C0.2.2.2.2.1 in_Mo ty_Mo tk_Mo nm_Mo C0.2.2.2.1 C0.2.2.2.2.2.1.1 hw.1 hw.2.1 hw.2.2 35 (hR.1 35 (by decide) (by decide)) rfl 1 (by decide) (C0.2.2.2.2.1 _ wd_711) (fun _ h => h) rfl (by decide +kernel) rfl rfl (Nat.le_of_ble_eq_true rfl) hdg (fun H locs hP hD hS => kk _ H locs ⟨hP, hD, hS⟩ (ms_putI1 hR v))
theorem sel_Mo_noLine : Cond.selects R_Mo y_Mo_noLine y_Mo_noLine ∈ Wds := List.mem_filter.mpr ⟨List.mem_append_left _ (by decide +kernel), by decide +kernel⟩
theorem sel_Mo_noMonths : Cond.selects R_Mo y_Mo_noMonths y_Mo_noMonths ∈ Wds := List.mem_filter.mpr ⟨List.mem_append_left _ (by decide +kernel), by decide +kernel⟩
theorem sel_Mo_enter : Cond.selects R_Mo y_Mo_enter y_Mo_enter ∈ Wds := List.mem_filter.mpr ⟨List.mem_append_left _ (by decide +kernel), by decide +kernel⟩
theorem sel_Mo_noEntry : Cond.selects R_Mo y_Mo_noEntry y_Mo_noEntry ∈ Wds := List.mem_filter.mpr ⟨List.mem_append_left _ (by decide +kernel), by decide +kernel⟩
theorem gf_Mo_29 {p : Program} {l : Launch} {e : Env} {R : Room} {s : State} {m : MethodId} {args : Array Value} {below : List Frame} {meth : Method} {c : Code} {H : Heap} {locs : List Loc} {cells slots : Nat} {Q : State → Prop} {cc : ByteArray} {nL : Nat} {g : Gx} {A : Nat → Prop} {w0 ws : va_W} {pc : Nat} {ls : Array Slot} {rest : List Value} {st : MS} (C0 : ct_Cx R_Mo cc nL p s m args meth c g A) (hw : ct_Wd g A s ws H locs) (hR : ms_Rel g w0 ws st) (hdg : decode cc pc = .ok (.getfield 29, 3)) (kk : W p l e R s m args below meth c H locs cells slots Q (F0 m (pc + 3) ls (.ref (g.2.1 42) :: rest))) : W p l e R s m args below meth c H locs cells slots Q (F0 m pc ls (.ref (g.2.1 35) :: rest)) :=
  va_get (D := g.1) (ci := 6) (v := .ref (g.2.1 42)) (C := R_Mo) (T := T_Mo) (N := 26) C0.1 C0.2.1 C0.2.2.2.2.1 in_Mo C0.2.2.2.1 C0.2.2.2.2.2.1.1 hw.1 35 (hR.1 35 (by decide) (by decide)) rfl 8 (by decide) (C0.2.2.2.2.1 _ wd_718) (fun _ h => h) rfl hdg kk
theorem sel_Mo_divisor : Cond.selects R_Mo y_Mo_divisor y_Mo_divisor ∈ Wds := List.mem_filter.mpr ⟨List.mem_append_left _ (by decide +kernel), by decide +kernel⟩
theorem gf_Mo_32 {p : Program} {l : Launch} {e : Env} {R : Room} {s : State} {m : MethodId} {args : Array Value} {below : List Frame} {meth : Method} {c : Code} {H : Heap} {locs : List Loc} {cells slots : Nat} {Q : State → Prop} {cc : ByteArray} {nL : Nat} {g : Gx} {A : Nat → Prop} {w0 ws : va_W} {pc : Nat} {ls : Array Slot} {rest : List Value} {st : MS} (C0 : ct_Cx R_Mo cc nL p s m args meth c g A) (hw : ct_Wd g A s ws H locs) (hR : ms_Rel g w0 ws st) (hdg : decode cc pc = .ok (.getfield 32, 3)) (kk : W p l e R s m args below meth c H locs cells slots Q (F0 m (pc + 3) ls (.ref (g.2.1 43) :: rest))) : W p l e R s m args below meth c H locs cells slots Q (F0 m pc ls (.ref (g.2.1 35) :: rest)) :=
  va_get (D := g.1) (ci := 6) (v := .ref (g.2.1 43)) (C := R_Mo) (T := T_Mo) (N := 26) C0.1 C0.2.1 C0.2.2.2.2.1 in_Mo C0.2.2.2.1 C0.2.2.2.2.2.1.1 hw.1 35 (hR.1 35 (by decide) (by decide)) rfl 9 (by decide) (C0.2.2.2.2.1 _ wd_719) (fun _ h => h) rfl hdg kk
theorem gf_Mo_36 {p : Program} {l : Launch} {e : Env} {R : Room} {s : State} {m : MethodId} {args : Array Value} {below : List Frame} {meth : Method} {c : Code} {H : Heap} {locs : List Loc} {cells slots : Nat} {Q : State → Prop} {cc : ByteArray} {nL : Nat} {g : Gx} {A : Nat → Prop} {w0 ws : va_W} {pc : Nat} {ls : Array Slot} {rest : List Value} {st : MS} (C0 : ct_Cx R_Mo cc nL p s m args meth c g A) (hw : ct_Wd g A s ws H locs) (hR : ms_Rel g w0 ws st) (hdg : decode cc pc = .ok (.getfield 36, 3)) (kk : W p l e R s m args below meth c H locs cells slots Q (F0 m (pc + 3) ls (.ref (g.2.1 44) :: rest))) : W p l e R s m args below meth c H locs cells slots Q (F0 m pc ls (.ref (g.2.1 35) :: rest)) :=
  va_get (D := g.1) (ci := 6) (v := .ref (g.2.1 44)) (C := R_Mo) (T := T_Mo) (N := 26) C0.1 C0.2.1 C0.2.2.2.2.1 in_Mo C0.2.2.2.1 C0.2.2.2.2.2.1.1 hw.1 35 (hR.1 35 (by decide) (by decide)) rfl 10 (by decide) (C0.2.2.2.2.1 _ wd_720) (fun _ h => h) rfl hdg kk
theorem gf_Mo_49 {p : Program} {l : Launch} {e : Env} {R : Room} {s : State} {m : MethodId} {args : Array Value} {below : List Frame} {meth : Method} {c : Code} {H : Heap} {locs : List Loc} {cells slots : Nat} {Q : State → Prop} {cc : ByteArray} {nL : Nat} {g : Gx} {A : Nat → Prop} {w0 ws : va_W} {pc : Nat} {ls : Array Slot} {rest : List Value} {st : MS} (C0 : ct_Cx R_Mo cc nL p s m args meth c g A) (hw : ct_Wd g A s ws H locs) (hR : ms_Rel g w0 ws st) (hdg : decode cc pc = .ok (.getfield 49, 3)) (kk : W p l e R s m args below meth c H locs cells slots Q (F0 m (pc + 3) ls (.ref (g.2.1 45) :: rest))) : W p l e R s m args below meth c H locs cells slots Q (F0 m pc ls (.ref (g.2.1 35) :: rest)) :=
  va_get (D := g.1) (ci := 6) (v := .ref (g.2.1 45)) (C := R_Mo) (T := T_Mo) (N := 26) C0.1 C0.2.1 C0.2.2.2.2.1 in_Mo C0.2.2.2.1 C0.2.2.2.2.2.1.1 hw.1 35 (hR.1 35 (by decide) (by decide)) rfl 17 (by decide) (C0.2.2.2.2.1 _ wd_727) (fun _ h => h) rfl hdg kk
theorem pf_Mo_80 {p : Program} {l : Launch} {e : Env} {R : Room} {s : State} {m : MethodId} {args : Array Value} {below : List Frame} {meth : Method} {c : Code} {H : Heap} {locs : List Loc} {cells slots : Nat} {Q : State → Prop} {cc : ByteArray} {nL : Nat} {g : Gx} {A : Nat → Prop} {w0 ws : va_W} {pc : Nat} {ls : Array Slot} {rest : List Value} {st : MS} {v : Int32} (C0 : ct_Cx R_Mo cc nL p s m args meth c g A) (hw : ct_Wd g A s ws H locs) (hR : ms_Rel g w0 ws st) (hdg : decode cc pc = .ok (.putfield 80, 3)) (kk : ∀ (ws : va_W) (H : Heap) (locs : List Loc), ct_Wd g A s ws H locs → ms_Rel g w0 ws (ms_I' st 2 v) → W p l e R s m args below meth c H locs cells slots Q (F0 m (pc + 3) ls rest)) : W p l e R s m args below meth c H locs cells slots Q (F0 m pc ls (.int v :: .ref (g.2.1 35) :: rest)) :=
  va_put (D := g.1) (ci := 6) (v := .int v) (ty := .int) (C := R_Mo) (T := T_Mo) (N := 26) C0.1 C0.2.1 C0.2.2.2.2.1 in_Mo ty_Mo tk_Mo nm_Mo C0.2.2.2.1 C0.2.2.2.2.2.1.1 hw.1 hw.2.1 hw.2.2 35 (hR.1 35 (by decide) (by decide)) rfl 11 (by decide) (C0.2.2.2.2.1 _ wd_721) (fun _ h => h) rfl (by decide +kernel) rfl rfl (Nat.le_of_ble_eq_true rfl) hdg (fun H locs hP hD hS => kk _ H locs ⟨hP, hD, hS⟩ (ms_putI2 hR v))
theorem pf_Mo_39 {p : Program} {l : Launch} {e : Env} {R : Room} {s : State} {m : MethodId} {args : Array Value} {below : List Frame} {meth : Method} {c : Code} {H : Heap} {locs : List Loc} {cells slots : Nat} {Q : State → Prop} {cc : ByteArray} {nL : Nat} {g : Gx} {A : Nat → Prop} {w0 ws : va_W} {pc : Nat} {ls : Array Slot} {rest : List Value} {st : MS} {v : Int32} (C0 : ct_Cx R_Mo cc nL p s m args meth c g A) (hw : ct_Wd g A s ws H locs) (hR : ms_Rel g w0 ws st) (hdg : decode cc pc = .ok (.putfield 39, 3)) (kk : ∀ (ws : va_W) (H : Heap) (locs : List Loc), ct_Wd g A s ws H locs → ms_Rel g w0 ws (ms_I' st 3 v) → W p l e R s m args below meth c H locs cells slots Q (F0 m (pc + 3) ls rest)) : W p l e R s m args below meth c H locs cells slots Q (F0 m pc ls (.int v :: .ref (g.2.1 35) :: rest)) :=
  va_put (D := g.1) (ci := 6) (v := .int v) (ty := .int) (C := R_Mo) (T := T_Mo) (N := 26) C0.1 C0.2.1 C0.2.2.2.2.1 in_Mo ty_Mo tk_Mo nm_Mo C0.2.2.2.1 C0.2.2.2.2.2.1.1 hw.1 hw.2.1 hw.2.2 35 (hR.1 35 (by decide) (by decide)) rfl 12 (by decide) (C0.2.2.2.2.1 _ wd_722) (fun _ h => h) rfl (by decide +kernel) rfl rfl (Nat.le_of_ble_eq_true rfl) hdg (fun H locs hP hD hS => kk _ H locs ⟨hP, hD, hS⟩ (ms_putI3 hR v))
theorem pf_Mo_83 {p : Program} {l : Launch} {e : Env} {R : Room} {s : State} {m : MethodId} {args : Array Value} {below : List Frame} {meth : Method} {c : Code} {H : Heap} {locs : List Loc} {cells slots : Nat} {Q : State → Prop} {cc : ByteArray} {nL : Nat} {g : Gx} {A : Nat → Prop} {w0 ws : va_W} {pc : Nat} {ls : Array Slot} {rest : List Value} {st : MS} {v : Int32} (C0 : ct_Cx R_Mo cc nL p s m args meth c g A) (hw : ct_Wd g A s ws H locs) (hR : ms_Rel g w0 ws st) (hb : ct_isB v = true) (hdg : decode cc pc = .ok (.putfield 83, 3)) (kk : ∀ (ws : va_W) (H : Heap) (locs : List Loc), ct_Wd g A s ws H locs → ms_Rel g w0 ws (ms_I' st 4 v) → W p l e R s m args below meth c H locs cells slots Q (F0 m (pc + 3) ls rest)) : W p l e R s m args below meth c H locs cells slots Q (F0 m pc ls (.int v :: .ref (g.2.1 35) :: rest)) :=
  va_put (D := g.1) (ci := 6) (v := .int v) (ty := .boolean) (C := R_Mo) (T := T_Mo) (N := 26) C0.1 C0.2.1 C0.2.2.2.2.1 in_Mo ty_Mo tk_Mo nm_Mo C0.2.2.2.1 C0.2.2.2.2.2.1.1 hw.1 hw.2.1 hw.2.2 35 (hR.1 35 (by decide) (by decide)) rfl 13 (by decide) (C0.2.2.2.2.1 _ wd_723) (fun _ h => h) rfl (by decide +kernel) (ct_isB_nar hb) (ct_isB_fit hb) (Nat.le_of_ble_eq_true rfl) hdg (fun H locs hP hD hS => kk _ H locs ⟨hP, hD, hS⟩ (ms_putI4 hR v))
theorem pf_Mo_43 {p : Program} {l : Launch} {e : Env} {R : Room} {s : State} {m : MethodId} {args : Array Value} {below : List Frame} {meth : Method} {c : Code} {H : Heap} {locs : List Loc} {cells slots : Nat} {Q : State → Prop} {cc : ByteArray} {nL : Nat} {g : Gx} {A : Nat → Prop} {w0 ws : va_W} {pc : Nat} {ls : Array Slot} {rest : List Value} {st : MS} {v : Int32} (C0 : ct_Cx R_Mo cc nL p s m args meth c g A) (hw : ct_Wd g A s ws H locs) (hR : ms_Rel g w0 ws st) (hdg : decode cc pc = .ok (.putfield 43, 3)) (kk : ∀ (ws : va_W) (H : Heap) (locs : List Loc), ct_Wd g A s ws H locs → ms_Rel g w0 ws (ms_I' st 5 v) → W p l e R s m args below meth c H locs cells slots Q (F0 m (pc + 3) ls rest)) : W p l e R s m args below meth c H locs cells slots Q (F0 m pc ls (.int v :: .ref (g.2.1 35) :: rest)) :=
  va_put (D := g.1) (ci := 6) (v := .int v) (ty := .int) (C := R_Mo) (T := T_Mo) (N := 26) C0.1 C0.2.1 C0.2.2.2.2.1 in_Mo ty_Mo tk_Mo nm_Mo C0.2.2.2.1 C0.2.2.2.2.2.1.1 hw.1 hw.2.1 hw.2.2 35 (hR.1 35 (by decide) (by decide)) rfl 14 (by decide) (C0.2.2.2.2.1 _ wd_724) (fun _ h => h) rfl (by decide +kernel) rfl rfl (Nat.le_of_ble_eq_true rfl) hdg (fun H locs hP hD hS => kk _ H locs ⟨hP, hD, hS⟩ (ms_putI5 hR v))
theorem pf_Mo_87 {p : Program} {l : Launch} {e : Env} {R : Room} {s : State} {m : MethodId} {args : Array Value} {below : List Frame} {meth : Method} {c : Code} {H : Heap} {locs : List Loc} {cells slots : Nat} {Q : State → Prop} {cc : ByteArray} {nL : Nat} {g : Gx} {A : Nat → Prop} {w0 ws : va_W} {pc : Nat} {ls : Array Slot} {rest : List Value} {st : MS} {v : Int32} (C0 : ct_Cx R_Mo cc nL p s m args meth c g A) (hw : ct_Wd g A s ws H locs) (hR : ms_Rel g w0 ws st) (hdg : decode cc pc = .ok (.putfield 87, 3)) (kk : ∀ (ws : va_W) (H : Heap) (locs : List Loc), ct_Wd g A s ws H locs → ms_Rel g w0 ws (ms_I' st 6 v) → W p l e R s m args below meth c H locs cells slots Q (F0 m (pc + 3) ls rest)) : W p l e R s m args below meth c H locs cells slots Q (F0 m pc ls (.int v :: .ref (g.2.1 35) :: rest)) :=
  va_put (D := g.1) (ci := 6) (v := .int v) (ty := .int) (C := R_Mo) (T := T_Mo) (N := 26) C0.1 C0.2.1 C0.2.2.2.2.1 in_Mo ty_Mo tk_Mo nm_Mo C0.2.2.2.1 C0.2.2.2.2.2.1.1 hw.1 hw.2.1 hw.2.2 35 (hR.1 35 (by decide) (by decide)) rfl 15 (by decide) (C0.2.2.2.2.1 _ wd_725) (fun _ h => h) rfl (by decide +kernel) rfl rfl (Nat.le_of_ble_eq_true rfl) hdg (fun H locs hP hD hS => kk _ H locs ⟨hP, hD, hS⟩ (ms_putI6 hR v))
theorem gf_Mo_80 {p : Program} {l : Launch} {e : Env} {R : Room} {s : State} {m : MethodId} {args : Array Value} {below : List Frame} {meth : Method} {c : Code} {H : Heap} {locs : List Loc} {cells slots : Nat} {Q : State → Prop} {cc : ByteArray} {nL : Nat} {g : Gx} {A : Nat → Prop} {w0 ws : va_W} {pc : Nat} {ls : Array Slot} {rest : List Value} {st : MS} (C0 : ct_Cx R_Mo cc nL p s m args meth c g A) (hw : ct_Wd g A s ws H locs) (hR : ms_Rel g w0 ws st) (hdg : decode cc pc = .ok (.getfield 80, 3)) (kk : W p l e R s m args below meth c H locs cells slots Q (F0 m (pc + 3) ls (.int (ms_I st 2) :: rest))) : W p l e R s m args below meth c H locs cells slots Q (F0 m pc ls (.ref (g.2.1 35) :: rest)) :=
  va_get (D := g.1) (ci := 6) (v := .int (ms_I st 2)) (C := R_Mo) (T := T_Mo) (N := 26) C0.1 C0.2.1 C0.2.2.2.2.1 in_Mo C0.2.2.2.1 C0.2.2.2.2.2.1.1 hw.1 35 (hR.1 35 (by decide) (by decide)) rfl 11 (by decide) (C0.2.2.2.2.1 _ wd_721) (fun _ h => h) rfl hdg kk
theorem gf_Mo_39 {p : Program} {l : Launch} {e : Env} {R : Room} {s : State} {m : MethodId} {args : Array Value} {below : List Frame} {meth : Method} {c : Code} {H : Heap} {locs : List Loc} {cells slots : Nat} {Q : State → Prop} {cc : ByteArray} {nL : Nat} {g : Gx} {A : Nat → Prop} {w0 ws : va_W} {pc : Nat} {ls : Array Slot} {rest : List Value} {st : MS} (C0 : ct_Cx R_Mo cc nL p s m args meth c g A) (hw : ct_Wd g A s ws H locs) (hR : ms_Rel g w0 ws st) (hdg : decode cc pc = .ok (.getfield 39, 3)) (kk : W p l e R s m args below meth c H locs cells slots Q (F0 m (pc + 3) ls (.int (ms_I st 3) :: rest))) : W p l e R s m args below meth c H locs cells slots Q (F0 m pc ls (.ref (g.2.1 35) :: rest)) :=
  va_get (D := g.1) (ci := 6) (v := .int (ms_I st 3)) (C := R_Mo) (T := T_Mo) (N := 26) C0.1 C0.2.1 C0.2.2.2.2.1 in_Mo C0.2.2.2.1 C0.2.2.2.2.2.1.1 hw.1 35 (hR.1 35 (by decide) (by decide)) rfl 12 (by decide) (C0.2.2.2.2.1 _ wd_722) (fun _ h => h) rfl hdg kk
theorem gf_Mo_83 {p : Program} {l : Launch} {e : Env} {R : Room} {s : State} {m : MethodId} {args : Array Value} {below : List Frame} {meth : Method} {c : Code} {H : Heap} {locs : List Loc} {cells slots : Nat} {Q : State → Prop} {cc : ByteArray} {nL : Nat} {g : Gx} {A : Nat → Prop} {w0 ws : va_W} {pc : Nat} {ls : Array Slot} {rest : List Value} {st : MS} (C0 : ct_Cx R_Mo cc nL p s m args meth c g A) (hw : ct_Wd g A s ws H locs) (hR : ms_Rel g w0 ws st) (hdg : decode cc pc = .ok (.getfield 83, 3)) (kk : W p l e R s m args below meth c H locs cells slots Q (F0 m (pc + 3) ls (.int (ms_I st 4) :: rest))) : W p l e R s m args below meth c H locs cells slots Q (F0 m pc ls (.ref (g.2.1 35) :: rest)) :=
  va_get (D := g.1) (ci := 6) (v := .int (ms_I st 4)) (C := R_Mo) (T := T_Mo) (N := 26) C0.1 C0.2.1 C0.2.2.2.2.1 in_Mo C0.2.2.2.1 C0.2.2.2.2.2.1.1 hw.1 35 (hR.1 35 (by decide) (by decide)) rfl 13 (by decide) (C0.2.2.2.2.1 _ wd_723) (fun _ h => h) rfl hdg kk
theorem sel_Mo_estimateOf : Cond.selects R_Mo y_Mo_estimateOf y_Mo_estimateOf ∈ Wds := List.mem_filter.mpr ⟨List.mem_append_left _ (by decide +kernel), by decide +kernel⟩
theorem gf_Mo_43 {p : Program} {l : Launch} {e : Env} {R : Room} {s : State} {m : MethodId} {args : Array Value} {below : List Frame} {meth : Method} {c : Code} {H : Heap} {locs : List Loc} {cells slots : Nat} {Q : State → Prop} {cc : ByteArray} {nL : Nat} {g : Gx} {A : Nat → Prop} {w0 ws : va_W} {pc : Nat} {ls : Array Slot} {rest : List Value} {st : MS} (C0 : ct_Cx R_Mo cc nL p s m args meth c g A) (hw : ct_Wd g A s ws H locs) (hR : ms_Rel g w0 ws st) (hdg : decode cc pc = .ok (.getfield 43, 3)) (kk : W p l e R s m args below meth c H locs cells slots Q (F0 m (pc + 3) ls (.int (ms_I st 5) :: rest))) : W p l e R s m args below meth c H locs cells slots Q (F0 m pc ls (.ref (g.2.1 35) :: rest)) :=
  va_get (D := g.1) (ci := 6) (v := .int (ms_I st 5)) (C := R_Mo) (T := T_Mo) (N := 26) C0.1 C0.2.1 C0.2.2.2.2.1 in_Mo C0.2.2.2.1 C0.2.2.2.2.2.1.1 hw.1 35 (hR.1 35 (by decide) (by decide)) rfl 14 (by decide) (C0.2.2.2.2.1 _ wd_724) (fun _ h => h) rfl hdg kk
theorem gf_Mo_52 {p : Program} {l : Launch} {e : Env} {R : Room} {s : State} {m : MethodId} {args : Array Value} {below : List Frame} {meth : Method} {c : Code} {H : Heap} {locs : List Loc} {cells slots : Nat} {Q : State → Prop} {cc : ByteArray} {nL : Nat} {g : Gx} {A : Nat → Prop} {w0 ws : va_W} {pc : Nat} {ls : Array Slot} {rest : List Value} {st : MS} (C0 : ct_Cx R_Mo cc nL p s m args meth c g A) (hw : ct_Wd g A s ws H locs) (hR : ms_Rel g w0 ws st) (hdg : decode cc pc = .ok (.getfield 52, 3)) (kk : W p l e R s m args below meth c H locs cells slots Q (F0 m (pc + 3) ls (.ref (g.2.1 46) :: rest))) : W p l e R s m args below meth c H locs cells slots Q (F0 m pc ls (.ref (g.2.1 35) :: rest)) :=
  va_get (D := g.1) (ci := 6) (v := .ref (g.2.1 46)) (C := R_Mo) (T := T_Mo) (N := 26) C0.1 C0.2.1 C0.2.2.2.2.1 in_Mo C0.2.2.2.1 C0.2.2.2.2.2.1.1 hw.1 35 (hR.1 35 (by decide) (by decide)) rfl 18 (by decide) (C0.2.2.2.2.1 _ wd_728) (fun _ h => h) rfl hdg kk
theorem sel_Mo_sumOf : Cond.selects R_Mo y_Mo_sumOf y_Mo_sumOf ∈ Wds := List.mem_filter.mpr ⟨List.mem_append_left _ (by decide +kernel), by decide +kernel⟩
theorem pf_Mo_97 {p : Program} {l : Launch} {e : Env} {R : Room} {s : State} {m : MethodId} {args : Array Value} {below : List Frame} {meth : Method} {c : Code} {H : Heap} {locs : List Loc} {cells slots : Nat} {Q : State → Prop} {cc : ByteArray} {nL : Nat} {g : Gx} {A : Nat → Prop} {w0 ws : va_W} {pc : Nat} {ls : Array Slot} {rest : List Value} {st : MS} {v : Int32} (C0 : ct_Cx R_Mo cc nL p s m args meth c g A) (hw : ct_Wd g A s ws H locs) (hR : ms_Rel g w0 ws st) (hb : ct_isB v = true) (hdg : decode cc pc = .ok (.putfield 97, 3)) (kk : ∀ (ws : va_W) (H : Heap) (locs : List Loc), ct_Wd g A s ws H locs → ms_Rel g w0 ws (ms_I' st 8 v) → W p l e R s m args below meth c H locs cells slots Q (F0 m (pc + 3) ls rest)) : W p l e R s m args below meth c H locs cells slots Q (F0 m pc ls (.int v :: .ref (g.2.1 35) :: rest)) :=
  va_put (D := g.1) (ci := 6) (v := .int v) (ty := .boolean) (C := R_Mo) (T := T_Mo) (N := 26) C0.1 C0.2.1 C0.2.2.2.2.1 in_Mo ty_Mo tk_Mo nm_Mo C0.2.2.2.1 C0.2.2.2.2.2.1.1 hw.1 hw.2.1 hw.2.2 35 (hR.1 35 (by decide) (by decide)) rfl 21 (by decide) (C0.2.2.2.2.1 _ wd_731) (fun _ h => h) rfl (by decide +kernel) (ct_isB_nar hb) (ct_isB_fit hb) (Nat.le_of_ble_eq_true rfl) hdg (fun H locs hP hD hS => kk _ H locs ⟨hP, hD, hS⟩ (ms_putI8 hR v))
theorem gf_Mo_87 {p : Program} {l : Launch} {e : Env} {R : Room} {s : State} {m : MethodId} {args : Array Value} {below : List Frame} {meth : Method} {c : Code} {H : Heap} {locs : List Loc} {cells slots : Nat} {Q : State → Prop} {cc : ByteArray} {nL : Nat} {g : Gx} {A : Nat → Prop} {w0 ws : va_W} {pc : Nat} {ls : Array Slot} {rest : List Value} {st : MS} (C0 : ct_Cx R_Mo cc nL p s m args meth c g A) (hw : ct_Wd g A s ws H locs) (hR : ms_Rel g w0 ws st) (hdg : decode cc pc = .ok (.getfield 87, 3)) (kk : W p l e R s m args below meth c H locs cells slots Q (F0 m (pc + 3) ls (.int (ms_I st 6) :: rest))) : W p l e R s m args below meth c H locs cells slots Q (F0 m pc ls (.ref (g.2.1 35) :: rest)) :=
  va_get (D := g.1) (ci := 6) (v := .int (ms_I st 6)) (C := R_Mo) (T := T_Mo) (N := 26) C0.1 C0.2.1 C0.2.2.2.2.1 in_Mo C0.2.2.2.1 C0.2.2.2.2.2.1.1 hw.1 35 (hR.1 35 (by decide) (by decide)) rfl 15 (by decide) (C0.2.2.2.2.1 _ wd_725) (fun _ h => h) rfl hdg kk
theorem sel_Mo_left : Cond.selects R_Mo y_Mo_left y_Mo_left ∈ Wds := List.mem_filter.mpr ⟨List.mem_append_left _ (by decide +kernel), by decide +kernel⟩
theorem sel_Mo_noCell : Cond.selects R_Mo y_Mo_noCell y_Mo_noCell ∈ Wds := List.mem_filter.mpr ⟨List.mem_append_left _ (by decide +kernel), by decide +kernel⟩
theorem pf_Mo_46 {p : Program} {l : Launch} {e : Env} {R : Room} {s : State} {m : MethodId} {args : Array Value} {below : List Frame} {meth : Method} {c : Code} {H : Heap} {locs : List Loc} {cells slots : Nat} {Q : State → Prop} {cc : ByteArray} {nL : Nat} {g : Gx} {A : Nat → Prop} {w0 ws : va_W} {pc : Nat} {ls : Array Slot} {rest : List Value} {st : MS} {v : Int32} (C0 : ct_Cx R_Mo cc nL p s m args meth c g A) (hw : ct_Wd g A s ws H locs) (hR : ms_Rel g w0 ws st) (hdg : decode cc pc = .ok (.putfield 46, 3)) (kk : ∀ (ws : va_W) (H : Heap) (locs : List Loc), ct_Wd g A s ws H locs → ms_Rel g w0 ws (ms_I' st 7 v) → W p l e R s m args below meth c H locs cells slots Q (F0 m (pc + 3) ls rest)) : W p l e R s m args below meth c H locs cells slots Q (F0 m pc ls (.int v :: .ref (g.2.1 35) :: rest)) :=
  va_put (D := g.1) (ci := 6) (v := .int v) (ty := .int) (C := R_Mo) (T := T_Mo) (N := 26) C0.1 C0.2.1 C0.2.2.2.2.1 in_Mo ty_Mo tk_Mo nm_Mo C0.2.2.2.1 C0.2.2.2.2.2.1.1 hw.1 hw.2.1 hw.2.2 35 (hR.1 35 (by decide) (by decide)) rfl 16 (by decide) (C0.2.2.2.2.1 _ wd_726) (fun _ h => h) rfl (by decide +kernel) rfl rfl (Nat.le_of_ble_eq_true rfl) hdg (fun H locs hP hD hS => kk _ H locs ⟨hP, hD, hS⟩ (ms_putI7 hR v))
theorem sel_Mo_size : Cond.selects R_Mo y_Mo_size y_Mo_size ∈ Wds := List.mem_filter.mpr ⟨List.mem_append_left _ (by decide +kernel), by decide +kernel⟩
theorem pf_Mo_114 {p : Program} {l : Launch} {e : Env} {R : Room} {s : State} {m : MethodId} {args : Array Value} {below : List Frame} {meth : Method} {c : Code} {H : Heap} {locs : List Loc} {cells slots : Nat} {Q : State → Prop} {cc : ByteArray} {nL : Nat} {g : Gx} {A : Nat → Prop} {w0 ws : va_W} {pc : Nat} {ls : Array Slot} {rest : List Value} {st : MS} {v : Int64} (C0 : ct_Cx R_Mo cc nL p s m args meth c g A) (hw : ct_Wd g A s ws H locs) (hR : ms_Rel g w0 ws st) (hdg : decode cc pc = .ok (.putfield 114, 3)) (kk : ∀ (ws : va_W) (H : Heap) (locs : List Loc), ct_Wd g A s ws H locs → ms_Rel g w0 ws (ms_L' st 0 v) → W p l e R s m args below meth c H locs cells slots Q (F0 m (pc + 3) ls rest)) : W p l e R s m args below meth c H locs cells slots Q (F0 m pc ls (.long v :: .ref (g.2.1 35) :: rest)) :=
  va_put (D := g.1) (ci := 6) (v := .long v) (ty := .long) (C := R_Mo) (T := T_Mo) (N := 26) C0.1 C0.2.1 C0.2.2.2.2.1 in_Mo ty_Mo tk_Mo nm_Mo C0.2.2.2.1 C0.2.2.2.2.2.1.1 hw.1 hw.2.1 hw.2.2 35 (hR.1 35 (by decide) (by decide)) rfl 19 (by decide) (C0.2.2.2.2.1 _ wd_729) (fun _ h => h) rfl (by decide +kernel) rfl rfl (Nat.le_of_ble_eq_true rfl) hdg (fun H locs hP hD hS => kk _ H locs ⟨hP, hD, hS⟩ (ms_putL0 hR v))
theorem pf_Mo_118 {p : Program} {l : Launch} {e : Env} {R : Room} {s : State} {m : MethodId} {args : Array Value} {below : List Frame} {meth : Method} {c : Code} {H : Heap} {locs : List Loc} {cells slots : Nat} {Q : State → Prop} {cc : ByteArray} {nL : Nat} {g : Gx} {A : Nat → Prop} {w0 ws : va_W} {pc : Nat} {ls : Array Slot} {rest : List Value} {st : MS} {v : Int64} (C0 : ct_Cx R_Mo cc nL p s m args meth c g A) (hw : ct_Wd g A s ws H locs) (hR : ms_Rel g w0 ws st) (hdg : decode cc pc = .ok (.putfield 118, 3)) (kk : ∀ (ws : va_W) (H : Heap) (locs : List Loc), ct_Wd g A s ws H locs → ms_Rel g w0 ws (ms_L' st 1 v) → W p l e R s m args below meth c H locs cells slots Q (F0 m (pc + 3) ls rest)) : W p l e R s m args below meth c H locs cells slots Q (F0 m pc ls (.long v :: .ref (g.2.1 35) :: rest)) :=
  va_put (D := g.1) (ci := 6) (v := .long v) (ty := .long) (C := R_Mo) (T := T_Mo) (N := 26) C0.1 C0.2.1 C0.2.2.2.2.1 in_Mo ty_Mo tk_Mo nm_Mo C0.2.2.2.1 C0.2.2.2.2.2.1.1 hw.1 hw.2.1 hw.2.2 35 (hR.1 35 (by decide) (by decide)) rfl 20 (by decide) (C0.2.2.2.2.1 _ wd_730) (fun _ h => h) rfl (by decide +kernel) rfl rfl (Nat.le_of_ble_eq_true rfl) hdg (fun H locs hP hD hS => kk _ H locs ⟨hP, hD, hS⟩ (ms_putL1 hR v))
theorem gf_Mo_97 {p : Program} {l : Launch} {e : Env} {R : Room} {s : State} {m : MethodId} {args : Array Value} {below : List Frame} {meth : Method} {c : Code} {H : Heap} {locs : List Loc} {cells slots : Nat} {Q : State → Prop} {cc : ByteArray} {nL : Nat} {g : Gx} {A : Nat → Prop} {w0 ws : va_W} {pc : Nat} {ls : Array Slot} {rest : List Value} {st : MS} (C0 : ct_Cx R_Mo cc nL p s m args meth c g A) (hw : ct_Wd g A s ws H locs) (hR : ms_Rel g w0 ws st) (hdg : decode cc pc = .ok (.getfield 97, 3)) (kk : W p l e R s m args below meth c H locs cells slots Q (F0 m (pc + 3) ls (.int (ms_I st 8) :: rest))) : W p l e R s m args below meth c H locs cells slots Q (F0 m pc ls (.ref (g.2.1 35) :: rest)) :=
  va_get (D := g.1) (ci := 6) (v := .int (ms_I st 8)) (C := R_Mo) (T := T_Mo) (N := 26) C0.1 C0.2.1 C0.2.2.2.2.1 in_Mo C0.2.2.2.1 C0.2.2.2.2.2.1.1 hw.1 35 (hR.1 35 (by decide) (by decide)) rfl 21 (by decide) (C0.2.2.2.2.1 _ wd_731) (fun _ h => h) rfl hdg kk
theorem sel_Mo_set : Cond.selects R_Mo y_Mo_set y_Mo_set ∈ Wds := List.mem_filter.mpr ⟨List.mem_append_left _ (by decide +kernel), by decide +kernel⟩
theorem gf_Mo_114 {p : Program} {l : Launch} {e : Env} {R : Room} {s : State} {m : MethodId} {args : Array Value} {below : List Frame} {meth : Method} {c : Code} {H : Heap} {locs : List Loc} {cells slots : Nat} {Q : State → Prop} {cc : ByteArray} {nL : Nat} {g : Gx} {A : Nat → Prop} {w0 ws : va_W} {pc : Nat} {ls : Array Slot} {rest : List Value} {st : MS} (C0 : ct_Cx R_Mo cc nL p s m args meth c g A) (hw : ct_Wd g A s ws H locs) (hR : ms_Rel g w0 ws st) (hdg : decode cc pc = .ok (.getfield 114, 3)) (kk : W p l e R s m args below meth c H locs cells slots Q (F0 m (pc + 3) ls (.long (ms_L st 0) :: rest))) : W p l e R s m args below meth c H locs cells slots Q (F0 m pc ls (.ref (g.2.1 35) :: rest)) :=
  va_get (D := g.1) (ci := 6) (v := .long (ms_L st 0)) (C := R_Mo) (T := T_Mo) (N := 26) C0.1 C0.2.1 C0.2.2.2.2.1 in_Mo C0.2.2.2.1 C0.2.2.2.2.2.1.1 hw.1 35 (hR.1 35 (by decide) (by decide)) rfl 19 (by decide) (C0.2.2.2.2.1 _ wd_729) (fun _ h => h) rfl hdg kk
theorem gf_Mo_118 {p : Program} {l : Launch} {e : Env} {R : Room} {s : State} {m : MethodId} {args : Array Value} {below : List Frame} {meth : Method} {c : Code} {H : Heap} {locs : List Loc} {cells slots : Nat} {Q : State → Prop} {cc : ByteArray} {nL : Nat} {g : Gx} {A : Nat → Prop} {w0 ws : va_W} {pc : Nat} {ls : Array Slot} {rest : List Value} {st : MS} (C0 : ct_Cx R_Mo cc nL p s m args meth c g A) (hw : ct_Wd g A s ws H locs) (hR : ms_Rel g w0 ws st) (hdg : decode cc pc = .ok (.getfield 118, 3)) (kk : W p l e R s m args below meth c H locs cells slots Q (F0 m (pc + 3) ls (.long (ms_L st 1) :: rest))) : W p l e R s m args below meth c H locs cells slots Q (F0 m pc ls (.ref (g.2.1 35) :: rest)) :=
  va_get (D := g.1) (ci := 6) (v := .long (ms_L st 1)) (C := R_Mo) (T := T_Mo) (N := 26) C0.1 C0.2.1 C0.2.2.2.2.1 in_Mo C0.2.2.2.1 C0.2.2.2.2.2.1.1 hw.1 35 (hR.1 35 (by decide) (by decide)) rfl 20 (by decide) (C0.2.2.2.2.1 _ wd_730) (fun _ h => h) rfl hdg kk
theorem sel_Mo_isShort : Cond.selects R_Mo y_Mo_isShort y_Mo_isShort ∈ Wds := List.mem_filter.mpr ⟨List.mem_append_left _ (by decide +kernel), by decide +kernel⟩
theorem pf_Mo_134 {p : Program} {l : Launch} {e : Env} {R : Room} {s : State} {m : MethodId} {args : Array Value} {below : List Frame} {meth : Method} {c : Code} {H : Heap} {locs : List Loc} {cells slots : Nat} {Q : State → Prop} {cc : ByteArray} {nL : Nat} {g : Gx} {A : Nat → Prop} {w0 ws : va_W} {pc : Nat} {ls : Array Slot} {rest : List Value} {st : MS} {v : Int64} (C0 : ct_Cx R_Mo cc nL p s m args meth c g A) (hw : ct_Wd g A s ws H locs) (hR : ms_Rel g w0 ws st) (hdg : decode cc pc = .ok (.putfield 134, 3)) (kk : ∀ (ws : va_W) (H : Heap) (locs : List Loc), ct_Wd g A s ws H locs → ms_Rel g w0 ws (ms_L' st 4 v) → W p l e R s m args below meth c H locs cells slots Q (F0 m (pc + 3) ls rest)) : W p l e R s m args below meth c H locs cells slots Q (F0 m pc ls (.long v :: .ref (g.2.1 35) :: rest)) :=
  va_put (D := g.1) (ci := 6) (v := .long v) (ty := .long) (C := R_Mo) (T := T_Mo) (N := 26) C0.1 C0.2.1 C0.2.2.2.2.1 in_Mo ty_Mo tk_Mo nm_Mo C0.2.2.2.1 C0.2.2.2.2.2.1.1 hw.1 hw.2.1 hw.2.2 35 (hR.1 35 (by decide) (by decide)) rfl 24 (by decide) (C0.2.2.2.2.1 _ wd_734) (fun _ h => h) rfl (by decide +kernel) rfl rfl (Nat.le_of_ble_eq_true rfl) hdg (fun H locs hP hD hS => kk _ H locs ⟨hP, hD, hS⟩ (ms_putL4 hR v))
theorem pf_Mo_137 {p : Program} {l : Launch} {e : Env} {R : Room} {s : State} {m : MethodId} {args : Array Value} {below : List Frame} {meth : Method} {c : Code} {H : Heap} {locs : List Loc} {cells slots : Nat} {Q : State → Prop} {cc : ByteArray} {nL : Nat} {g : Gx} {A : Nat → Prop} {w0 ws : va_W} {pc : Nat} {ls : Array Slot} {rest : List Value} {st : MS} {v : Int64} (C0 : ct_Cx R_Mo cc nL p s m args meth c g A) (hw : ct_Wd g A s ws H locs) (hR : ms_Rel g w0 ws st) (hdg : decode cc pc = .ok (.putfield 137, 3)) (kk : ∀ (ws : va_W) (H : Heap) (locs : List Loc), ct_Wd g A s ws H locs → ms_Rel g w0 ws (ms_L' st 5 v) → W p l e R s m args below meth c H locs cells slots Q (F0 m (pc + 3) ls rest)) : W p l e R s m args below meth c H locs cells slots Q (F0 m pc ls (.long v :: .ref (g.2.1 35) :: rest)) :=
  va_put (D := g.1) (ci := 6) (v := .long v) (ty := .long) (C := R_Mo) (T := T_Mo) (N := 26) C0.1 C0.2.1 C0.2.2.2.2.1 in_Mo ty_Mo tk_Mo nm_Mo C0.2.2.2.1 C0.2.2.2.2.2.1.1 hw.1 hw.2.1 hw.2.2 35 (hR.1 35 (by decide) (by decide)) rfl 25 (by decide) (C0.2.2.2.2.1 _ wd_735) (fun _ h => h) rfl (by decide +kernel) rfl rfl (Nat.le_of_ble_eq_true rfl) hdg (fun H locs hP hD hS => kk _ H locs ⟨hP, hD, hS⟩ (ms_putL5 hR v))
theorem sel_Mo_takes : Cond.selects R_Mo y_Mo_takes y_Mo_takes ∈ Wds := List.mem_filter.mpr ⟨List.mem_append_left _ (by decide +kernel), by decide +kernel⟩
theorem gf_Mo_46 {p : Program} {l : Launch} {e : Env} {R : Room} {s : State} {m : MethodId} {args : Array Value} {below : List Frame} {meth : Method} {c : Code} {H : Heap} {locs : List Loc} {cells slots : Nat} {Q : State → Prop} {cc : ByteArray} {nL : Nat} {g : Gx} {A : Nat → Prop} {w0 ws : va_W} {pc : Nat} {ls : Array Slot} {rest : List Value} {st : MS} (C0 : ct_Cx R_Mo cc nL p s m args meth c g A) (hw : ct_Wd g A s ws H locs) (hR : ms_Rel g w0 ws st) (hdg : decode cc pc = .ok (.getfield 46, 3)) (kk : W p l e R s m args below meth c H locs cells slots Q (F0 m (pc + 3) ls (.int (ms_I st 7) :: rest))) : W p l e R s m args below meth c H locs cells slots Q (F0 m pc ls (.ref (g.2.1 35) :: rest)) :=
  va_get (D := g.1) (ci := 6) (v := .int (ms_I st 7)) (C := R_Mo) (T := T_Mo) (N := 26) C0.1 C0.2.1 C0.2.2.2.2.1 in_Mo C0.2.2.2.1 C0.2.2.2.2.2.1.1 hw.1 35 (hR.1 35 (by decide) (by decide)) rfl 16 (by decide) (C0.2.2.2.2.1 _ wd_726) (fun _ h => h) rfl hdg kk
theorem sel_Mo_find : Cond.selects R_Mo y_Mo_find y_Mo_find ∈ Wds := List.mem_filter.mpr ⟨List.mem_append_left _ (by decide +kernel), by decide +kernel⟩
theorem gf_Mo_134 {p : Program} {l : Launch} {e : Env} {R : Room} {s : State} {m : MethodId} {args : Array Value} {below : List Frame} {meth : Method} {c : Code} {H : Heap} {locs : List Loc} {cells slots : Nat} {Q : State → Prop} {cc : ByteArray} {nL : Nat} {g : Gx} {A : Nat → Prop} {w0 ws : va_W} {pc : Nat} {ls : Array Slot} {rest : List Value} {st : MS} (C0 : ct_Cx R_Mo cc nL p s m args meth c g A) (hw : ct_Wd g A s ws H locs) (hR : ms_Rel g w0 ws st) (hdg : decode cc pc = .ok (.getfield 134, 3)) (kk : W p l e R s m args below meth c H locs cells slots Q (F0 m (pc + 3) ls (.long (ms_L st 4) :: rest))) : W p l e R s m args below meth c H locs cells slots Q (F0 m pc ls (.ref (g.2.1 35) :: rest)) :=
  va_get (D := g.1) (ci := 6) (v := .long (ms_L st 4)) (C := R_Mo) (T := T_Mo) (N := 26) C0.1 C0.2.1 C0.2.2.2.2.1 in_Mo C0.2.2.2.1 C0.2.2.2.2.2.1.1 hw.1 35 (hR.1 35 (by decide) (by decide)) rfl 24 (by decide) (C0.2.2.2.2.1 _ wd_734) (fun _ h => h) rfl hdg kk
theorem gf_Mo_137 {p : Program} {l : Launch} {e : Env} {R : Room} {s : State} {m : MethodId} {args : Array Value} {below : List Frame} {meth : Method} {c : Code} {H : Heap} {locs : List Loc} {cells slots : Nat} {Q : State → Prop} {cc : ByteArray} {nL : Nat} {g : Gx} {A : Nat → Prop} {w0 ws : va_W} {pc : Nat} {ls : Array Slot} {rest : List Value} {st : MS} (C0 : ct_Cx R_Mo cc nL p s m args meth c g A) (hw : ct_Wd g A s ws H locs) (hR : ms_Rel g w0 ws st) (hdg : decode cc pc = .ok (.getfield 137, 3)) (kk : W p l e R s m args below meth c H locs cells slots Q (F0 m (pc + 3) ls (.long (ms_L st 5) :: rest))) : W p l e R s m args below meth c H locs cells slots Q (F0 m pc ls (.ref (g.2.1 35) :: rest)) :=
  va_get (D := g.1) (ci := 6) (v := .long (ms_L st 5)) (C := R_Mo) (T := T_Mo) (N := 26) C0.1 C0.2.1 C0.2.2.2.2.1 in_Mo C0.2.2.2.1 C0.2.2.2.2.2.1.1 hw.1 35 (hR.1 35 (by decide) (by decide)) rfl 25 (by decide) (C0.2.2.2.2.1 _ wd_735) (fun _ h => h) rfl hdg kk
theorem sel_Mo_times : Cond.selects R_Mo y_Mo_times y_Mo_times ∈ Wds := List.mem_filter.mpr ⟨List.mem_append_left _ (by decide +kernel), by decide +kernel⟩
theorem pf_Mo_146 {p : Program} {l : Launch} {e : Env} {R : Room} {s : State} {m : MethodId} {args : Array Value} {below : List Frame} {meth : Method} {c : Code} {H : Heap} {locs : List Loc} {cells slots : Nat} {Q : State → Prop} {cc : ByteArray} {nL : Nat} {g : Gx} {A : Nat → Prop} {w0 ws : va_W} {pc : Nat} {ls : Array Slot} {rest : List Value} {st : MS} {v : Int64} (C0 : ct_Cx R_Mo cc nL p s m args meth c g A) (hw : ct_Wd g A s ws H locs) (hR : ms_Rel g w0 ws st) (hdg : decode cc pc = .ok (.putfield 146, 3)) (kk : ∀ (ws : va_W) (H : Heap) (locs : List Loc), ct_Wd g A s ws H locs → ms_Rel g w0 ws (ms_L' st 2 v) → W p l e R s m args below meth c H locs cells slots Q (F0 m (pc + 3) ls rest)) : W p l e R s m args below meth c H locs cells slots Q (F0 m pc ls (.long v :: .ref (g.2.1 35) :: rest)) :=
  va_put (D := g.1) (ci := 6) (v := .long v) (ty := .long) (C := R_Mo) (T := T_Mo) (N := 26) C0.1 C0.2.1 C0.2.2.2.2.1 in_Mo ty_Mo tk_Mo nm_Mo C0.2.2.2.1 C0.2.2.2.2.2.1.1 hw.1 hw.2.1 hw.2.2 35 (hR.1 35 (by decide) (by decide)) rfl 22 (by decide) (C0.2.2.2.2.1 _ wd_732) (fun _ h => h) rfl (by decide +kernel) rfl rfl (Nat.le_of_ble_eq_true rfl) hdg (fun H locs hP hD hS => kk _ H locs ⟨hP, hD, hS⟩ (ms_putL2 hR v))
theorem pf_Mo_149 {p : Program} {l : Launch} {e : Env} {R : Room} {s : State} {m : MethodId} {args : Array Value} {below : List Frame} {meth : Method} {c : Code} {H : Heap} {locs : List Loc} {cells slots : Nat} {Q : State → Prop} {cc : ByteArray} {nL : Nat} {g : Gx} {A : Nat → Prop} {w0 ws : va_W} {pc : Nat} {ls : Array Slot} {rest : List Value} {st : MS} {v : Int64} (C0 : ct_Cx R_Mo cc nL p s m args meth c g A) (hw : ct_Wd g A s ws H locs) (hR : ms_Rel g w0 ws st) (hdg : decode cc pc = .ok (.putfield 149, 3)) (kk : ∀ (ws : va_W) (H : Heap) (locs : List Loc), ct_Wd g A s ws H locs → ms_Rel g w0 ws (ms_L' st 3 v) → W p l e R s m args below meth c H locs cells slots Q (F0 m (pc + 3) ls rest)) : W p l e R s m args below meth c H locs cells slots Q (F0 m pc ls (.long v :: .ref (g.2.1 35) :: rest)) :=
  va_put (D := g.1) (ci := 6) (v := .long v) (ty := .long) (C := R_Mo) (T := T_Mo) (N := 26) C0.1 C0.2.1 C0.2.2.2.2.1 in_Mo ty_Mo tk_Mo nm_Mo C0.2.2.2.1 C0.2.2.2.2.2.1.1 hw.1 hw.2.1 hw.2.2 35 (hR.1 35 (by decide) (by decide)) rfl 23 (by decide) (C0.2.2.2.2.1 _ wd_733) (fun _ h => h) rfl (by decide +kernel) rfl rfl (Nat.le_of_ble_eq_true rfl) hdg (fun H locs hP hD hS => kk _ H locs ⟨hP, hD, hS⟩ (ms_putL3 hR v))
theorem sel_Mo_turn : Cond.selects R_Mo y_Mo_turn y_Mo_turn ∈ Wds := List.mem_filter.mpr ⟨List.mem_append_left _ (by decide +kernel), by decide +kernel⟩
theorem sel_Mo_plus : Cond.selects R_Mo y_Mo_plus y_Mo_plus ∈ Wds := List.mem_filter.mpr ⟨List.mem_append_left _ (by decide +kernel), by decide +kernel⟩
theorem gf_Mo_146 {p : Program} {l : Launch} {e : Env} {R : Room} {s : State} {m : MethodId} {args : Array Value} {below : List Frame} {meth : Method} {c : Code} {H : Heap} {locs : List Loc} {cells slots : Nat} {Q : State → Prop} {cc : ByteArray} {nL : Nat} {g : Gx} {A : Nat → Prop} {w0 ws : va_W} {pc : Nat} {ls : Array Slot} {rest : List Value} {st : MS} (C0 : ct_Cx R_Mo cc nL p s m args meth c g A) (hw : ct_Wd g A s ws H locs) (hR : ms_Rel g w0 ws st) (hdg : decode cc pc = .ok (.getfield 146, 3)) (kk : W p l e R s m args below meth c H locs cells slots Q (F0 m (pc + 3) ls (.long (ms_L st 2) :: rest))) : W p l e R s m args below meth c H locs cells slots Q (F0 m pc ls (.ref (g.2.1 35) :: rest)) :=
  va_get (D := g.1) (ci := 6) (v := .long (ms_L st 2)) (C := R_Mo) (T := T_Mo) (N := 26) C0.1 C0.2.1 C0.2.2.2.2.1 in_Mo C0.2.2.2.1 C0.2.2.2.2.2.1.1 hw.1 35 (hR.1 35 (by decide) (by decide)) rfl 22 (by decide) (C0.2.2.2.2.1 _ wd_732) (fun _ h => h) rfl hdg kk
theorem gf_Mo_149 {p : Program} {l : Launch} {e : Env} {R : Room} {s : State} {m : MethodId} {args : Array Value} {below : List Frame} {meth : Method} {c : Code} {H : Heap} {locs : List Loc} {cells slots : Nat} {Q : State → Prop} {cc : ByteArray} {nL : Nat} {g : Gx} {A : Nat → Prop} {w0 ws : va_W} {pc : Nat} {ls : Array Slot} {rest : List Value} {st : MS} (C0 : ct_Cx R_Mo cc nL p s m args meth c g A) (hw : ct_Wd g A s ws H locs) (hR : ms_Rel g w0 ws st) (hdg : decode cc pc = .ok (.getfield 149, 3)) (kk : W p l e R s m args below meth c H locs cells slots Q (F0 m (pc + 3) ls (.long (ms_L st 3) :: rest))) : W p l e R s m args below meth c H locs cells slots Q (F0 m pc ls (.ref (g.2.1 35) :: rest)) :=
  va_get (D := g.1) (ci := 6) (v := .long (ms_L st 3)) (C := R_Mo) (T := T_Mo) (N := 26) C0.1 C0.2.1 C0.2.2.2.2.1 in_Mo C0.2.2.2.1 C0.2.2.2.2.2.1.1 hw.1 35 (hR.1 35 (by decide) (by decide)) rfl 23 (by decide) (C0.2.2.2.2.1 _ wd_733) (fun _ h => h) rfl hdg kk
theorem sel_Mo_latestOf : Cond.selects R_Mo y_Mo_latestOf y_Mo_latestOf ∈ Wds := List.mem_filter.mpr ⟨List.mem_append_left _ (by decide +kernel), by decide +kernel⟩
theorem sel_Mo_answer : Cond.selects R_Mo y_Mo_answer y_Mo_answer ∈ Wds := List.mem_filter.mpr ⟨List.mem_append_left _ (by decide +kernel), by decide +kernel⟩
theorem sel_Mo_way : Cond.selects R_Mo y_Mo_way y_Mo_way ∈ Wds := List.mem_filter.mpr ⟨List.mem_append_left _ (by decide +kernel), by decide +kernel⟩
theorem sel_Mo_areDefined : Cond.selects R_Mo y_Mo_areDefined y_Mo_areDefined ∈ Wds := List.mem_filter.mpr ⟨List.mem_append_left _ (by decide +kernel), by decide +kernel⟩
theorem sel_Mo_expect : Cond.selects R_Mo y_Mo_expect y_Mo_expect ∈ Wds := List.mem_filter.mpr ⟨List.mem_append_left _ (by decide +kernel), by decide +kernel⟩
theorem sel_Mo_work : Cond.selects R_Mo y_Mo_work y_Mo_work ∈ Wds := List.mem_filter.mpr ⟨List.mem_append_left _ (by decide +kernel), by decide +kernel⟩
theorem sel_Mo_told : Cond.selects R_Mo y_Mo_told y_Mo_told ∈ Wds := List.mem_filter.mpr ⟨List.mem_append_left _ (by decide +kernel), by decide +kernel⟩
theorem sel_Mo_look : Cond.selects R_Mo y_Mo_look y_Mo_look ∈ Wds := List.mem_filter.mpr ⟨List.mem_append_left _ (by decide +kernel), by decide +kernel⟩
theorem sel_Mo_noRow : Cond.selects R_Mo y_Mo_noRow y_Mo_noRow ∈ Wds := List.mem_filter.mpr ⟨List.mem_append_left _ (by decide +kernel), by decide +kernel⟩
theorem sel_Mo_workReserve : Cond.selects R_Mo y_Mo_workReserve y_Mo_workReserve ∈ Wds := List.mem_filter.mpr ⟨List.mem_append_left _ (by decide +kernel), by decide +kernel⟩
theorem ct_ldma0 {p : Program} {l : Launch} {e : Env} {R : Room} {s : State} {m : MethodId} {args : Array Value} {below : List Frame} {meth : Method} {c : Code} {H : Heap} {locs : List Loc} {cells slots : Nat} {Q : State → Prop} {cc : ByteArray} {nL : Nat} {g : Gx} {A : Nat → Prop} {w0 ws : va_W} {pc : Nat} {ls : Array Slot} {rest : List Value} {own : String} {st : MS} {i : Int32} (C0 : ct_Cx own cc nL p s m args meth c g A) (hw : ct_Wd g A s ws H locs) (hR : ms_Rel g w0 ws st) (hi : vp_in i 60) (hdg : decode cc pc = .ok (.iaload, 1)) (kk : W p l e R s m args below meth c H locs cells slots Q (F0 m (pc + 1) ls (.int (ms_A st 0 i.toNatClampNeg) :: rest))) : W p l e R s m args below meth c H locs cells slots Q (F0 m pc ls (.int i :: .ref (g.2.1 36) :: rest)) :=
  va_iald C0.1 C0.2.1 C0.2.2.2.2.2.1.1 hw.1 36 0 (hR.1 36 (by decide) (by decide)) rfl hi hdg kk
theorem ct_stma0 {p : Program} {l : Launch} {e : Env} {R : Room} {s : State} {m : MethodId} {args : Array Value} {below : List Frame} {meth : Method} {c : Code} {H : Heap} {locs : List Loc} {cells slots : Nat} {Q : State → Prop} {cc : ByteArray} {nL : Nat} {g : Gx} {A : Nat → Prop} {w0 ws : va_W} {pc : Nat} {ls : Array Slot} {rest : List Value} {own : String} {st : MS} {i x : Int32} (C0 : ct_Cx own cc nL p s m args meth c g A) (hw : ct_Wd g A s ws H locs) (hR : ms_Rel g w0 ws st) (hi : vp_in i 60) (hdg : decode cc pc = .ok (.iastore, 1)) (kk : ∀ (ws : va_W) (H : Heap) (locs : List Loc), ct_Wd g A s ws H locs → ms_Rel g w0 ws (ms_A' st 0 i.toNatClampNeg x) → W p l e R s m args below meth c H locs cells slots Q (F0 m (pc + 1) ls rest)) : W p l e R s m args below meth c H locs cells slots Q (F0 m pc ls (.int x :: .int i :: .ref (g.2.1 36) :: rest)) :=
  va_iast C0.1 C0.2.1 C0.2.2.2.2.2.1.1 hw.1 hw.2.1 hw.2.2 36 0 (hR.1 36 (by decide) (by decide)) rfl hi hdg (fun H locs hP hD hS => kk _ H locs ⟨hP, hD, hS⟩ (hR.put (by decide) (by decide) rfl (fun j h9 h8 hne => ms_cell_ext (fun _ => ⟨rfl, rfl⟩) (fun a b => va_up_ne _ _ (by omega)) (fun _ _ => rfl) (fun e => rfl) (fun a => rfl) h9)))
theorem ct_ldma1 {p : Program} {l : Launch} {e : Env} {R : Room} {s : State} {m : MethodId} {args : Array Value} {below : List Frame} {meth : Method} {c : Code} {H : Heap} {locs : List Loc} {cells slots : Nat} {Q : State → Prop} {cc : ByteArray} {nL : Nat} {g : Gx} {A : Nat → Prop} {w0 ws : va_W} {pc : Nat} {ls : Array Slot} {rest : List Value} {own : String} {st : MS} {i : Int32} (C0 : ct_Cx own cc nL p s m args meth c g A) (hw : ct_Wd g A s ws H locs) (hR : ms_Rel g w0 ws st) (hi : vp_in i 60) (hdg : decode cc pc = .ok (.iaload, 1)) (kk : W p l e R s m args below meth c H locs cells slots Q (F0 m (pc + 1) ls (.int (ms_A st 1 i.toNatClampNeg) :: rest))) : W p l e R s m args below meth c H locs cells slots Q (F0 m pc ls (.int i :: .ref (g.2.1 37) :: rest)) :=
  va_iald C0.1 C0.2.1 C0.2.2.2.2.2.1.1 hw.1 37 0 (hR.1 37 (by decide) (by decide)) rfl hi hdg kk
theorem ct_stma1 {p : Program} {l : Launch} {e : Env} {R : Room} {s : State} {m : MethodId} {args : Array Value} {below : List Frame} {meth : Method} {c : Code} {H : Heap} {locs : List Loc} {cells slots : Nat} {Q : State → Prop} {cc : ByteArray} {nL : Nat} {g : Gx} {A : Nat → Prop} {w0 ws : va_W} {pc : Nat} {ls : Array Slot} {rest : List Value} {own : String} {st : MS} {i x : Int32} (C0 : ct_Cx own cc nL p s m args meth c g A) (hw : ct_Wd g A s ws H locs) (hR : ms_Rel g w0 ws st) (hi : vp_in i 60) (hdg : decode cc pc = .ok (.iastore, 1)) (kk : ∀ (ws : va_W) (H : Heap) (locs : List Loc), ct_Wd g A s ws H locs → ms_Rel g w0 ws (ms_A' st 1 i.toNatClampNeg x) → W p l e R s m args below meth c H locs cells slots Q (F0 m (pc + 1) ls rest)) : W p l e R s m args below meth c H locs cells slots Q (F0 m pc ls (.int x :: .int i :: .ref (g.2.1 37) :: rest)) :=
  va_iast C0.1 C0.2.1 C0.2.2.2.2.2.1.1 hw.1 hw.2.1 hw.2.2 37 0 (hR.1 37 (by decide) (by decide)) rfl hi hdg (fun H locs hP hD hS => kk _ H locs ⟨hP, hD, hS⟩ (hR.put (by decide) (by decide) rfl (fun j h9 h8 hne => ms_cell_ext (fun _ => ⟨rfl, rfl⟩) (fun a b => va_up_ne _ _ (by omega)) (fun _ _ => rfl) (fun e => rfl) (fun a => rfl) h9)))
theorem ct_ldma2 {p : Program} {l : Launch} {e : Env} {R : Room} {s : State} {m : MethodId} {args : Array Value} {below : List Frame} {meth : Method} {c : Code} {H : Heap} {locs : List Loc} {cells slots : Nat} {Q : State → Prop} {cc : ByteArray} {nL : Nat} {g : Gx} {A : Nat → Prop} {w0 ws : va_W} {pc : Nat} {ls : Array Slot} {rest : List Value} {own : String} {st : MS} {i : Int32} (C0 : ct_Cx own cc nL p s m args meth c g A) (hw : ct_Wd g A s ws H locs) (hR : ms_Rel g w0 ws st) (hi : vp_in i 60) (hdg : decode cc pc = .ok (.iaload, 1)) (kk : W p l e R s m args below meth c H locs cells slots Q (F0 m (pc + 1) ls (.int (ms_A st 2 i.toNatClampNeg) :: rest))) : W p l e R s m args below meth c H locs cells slots Q (F0 m pc ls (.int i :: .ref (g.2.1 38) :: rest)) :=
  va_iald C0.1 C0.2.1 C0.2.2.2.2.2.1.1 hw.1 38 0 (hR.1 38 (by decide) (by decide)) rfl hi hdg kk
theorem ct_stma2 {p : Program} {l : Launch} {e : Env} {R : Room} {s : State} {m : MethodId} {args : Array Value} {below : List Frame} {meth : Method} {c : Code} {H : Heap} {locs : List Loc} {cells slots : Nat} {Q : State → Prop} {cc : ByteArray} {nL : Nat} {g : Gx} {A : Nat → Prop} {w0 ws : va_W} {pc : Nat} {ls : Array Slot} {rest : List Value} {own : String} {st : MS} {i x : Int32} (C0 : ct_Cx own cc nL p s m args meth c g A) (hw : ct_Wd g A s ws H locs) (hR : ms_Rel g w0 ws st) (hi : vp_in i 60) (hdg : decode cc pc = .ok (.iastore, 1)) (kk : ∀ (ws : va_W) (H : Heap) (locs : List Loc), ct_Wd g A s ws H locs → ms_Rel g w0 ws (ms_A' st 2 i.toNatClampNeg x) → W p l e R s m args below meth c H locs cells slots Q (F0 m (pc + 1) ls rest)) : W p l e R s m args below meth c H locs cells slots Q (F0 m pc ls (.int x :: .int i :: .ref (g.2.1 38) :: rest)) :=
  va_iast C0.1 C0.2.1 C0.2.2.2.2.2.1.1 hw.1 hw.2.1 hw.2.2 38 0 (hR.1 38 (by decide) (by decide)) rfl hi hdg (fun H locs hP hD hS => kk _ H locs ⟨hP, hD, hS⟩ (hR.put (by decide) (by decide) rfl (fun j h9 h8 hne => ms_cell_ext (fun _ => ⟨rfl, rfl⟩) (fun a b => va_up_ne _ _ (by omega)) (fun _ _ => rfl) (fun e => rfl) (fun a => rfl) h9)))
theorem ct_ldma3 {p : Program} {l : Launch} {e : Env} {R : Room} {s : State} {m : MethodId} {args : Array Value} {below : List Frame} {meth : Method} {c : Code} {H : Heap} {locs : List Loc} {cells slots : Nat} {Q : State → Prop} {cc : ByteArray} {nL : Nat} {g : Gx} {A : Nat → Prop} {w0 ws : va_W} {pc : Nat} {ls : Array Slot} {rest : List Value} {own : String} {st : MS} {i : Int32} (C0 : ct_Cx own cc nL p s m args meth c g A) (hw : ct_Wd g A s ws H locs) (hR : ms_Rel g w0 ws st) (hi : vp_in i 60) (hdg : decode cc pc = .ok (.iaload, 1)) (kk : W p l e R s m args below meth c H locs cells slots Q (F0 m (pc + 1) ls (.int (ms_A st 3 i.toNatClampNeg) :: rest))) : W p l e R s m args below meth c H locs cells slots Q (F0 m pc ls (.int i :: .ref (g.2.1 39) :: rest)) :=
  va_iald C0.1 C0.2.1 C0.2.2.2.2.2.1.1 hw.1 39 0 (hR.1 39 (by decide) (by decide)) rfl hi hdg kk
theorem ct_stma3 {p : Program} {l : Launch} {e : Env} {R : Room} {s : State} {m : MethodId} {args : Array Value} {below : List Frame} {meth : Method} {c : Code} {H : Heap} {locs : List Loc} {cells slots : Nat} {Q : State → Prop} {cc : ByteArray} {nL : Nat} {g : Gx} {A : Nat → Prop} {w0 ws : va_W} {pc : Nat} {ls : Array Slot} {rest : List Value} {own : String} {st : MS} {i x : Int32} (C0 : ct_Cx own cc nL p s m args meth c g A) (hw : ct_Wd g A s ws H locs) (hR : ms_Rel g w0 ws st) (hi : vp_in i 60) (hdg : decode cc pc = .ok (.iastore, 1)) (kk : ∀ (ws : va_W) (H : Heap) (locs : List Loc), ct_Wd g A s ws H locs → ms_Rel g w0 ws (ms_A' st 3 i.toNatClampNeg x) → W p l e R s m args below meth c H locs cells slots Q (F0 m (pc + 1) ls rest)) : W p l e R s m args below meth c H locs cells slots Q (F0 m pc ls (.int x :: .int i :: .ref (g.2.1 39) :: rest)) :=
  va_iast C0.1 C0.2.1 C0.2.2.2.2.2.1.1 hw.1 hw.2.1 hw.2.2 39 0 (hR.1 39 (by decide) (by decide)) rfl hi hdg (fun H locs hP hD hS => kk _ H locs ⟨hP, hD, hS⟩ (hR.put (by decide) (by decide) rfl (fun j h9 h8 hne => ms_cell_ext (fun _ => ⟨rfl, rfl⟩) (fun a b => va_up_ne _ _ (by omega)) (fun _ _ => rfl) (fun e => rfl) (fun a => rfl) h9)))
theorem ct_ldma4 {p : Program} {l : Launch} {e : Env} {R : Room} {s : State} {m : MethodId} {args : Array Value} {below : List Frame} {meth : Method} {c : Code} {H : Heap} {locs : List Loc} {cells slots : Nat} {Q : State → Prop} {cc : ByteArray} {nL : Nat} {g : Gx} {A : Nat → Prop} {w0 ws : va_W} {pc : Nat} {ls : Array Slot} {rest : List Value} {own : String} {st : MS} {i : Int32} (C0 : ct_Cx own cc nL p s m args meth c g A) (hw : ct_Wd g A s ws H locs) (hR : ms_Rel g w0 ws st) (hi : vp_in i 60) (hdg : decode cc pc = .ok (.baload, 1)) (kk : W p l e R s m args below meth c H locs cells slots Q (F0 m (pc + 1) ls (.int (ms_A st 4 i.toNatClampNeg) :: rest))) : W p l e R s m args below meth c H locs cells slots Q (F0 m pc ls (.int i :: .ref (g.2.1 40) :: rest)) :=
  va_zald C0.1 C0.2.1 C0.2.2.2.2.2.1.1 hw.1 40 1 (hR.1 40 (by decide) (by decide)) rfl hi hdg kk
theorem ct_stma4 {p : Program} {l : Launch} {e : Env} {R : Room} {s : State} {m : MethodId} {args : Array Value} {below : List Frame} {meth : Method} {c : Code} {H : Heap} {locs : List Loc} {cells slots : Nat} {Q : State → Prop} {cc : ByteArray} {nL : Nat} {g : Gx} {A : Nat → Prop} {w0 ws : va_W} {pc : Nat} {ls : Array Slot} {rest : List Value} {own : String} {st : MS} {i x : Int32} (C0 : ct_Cx own cc nL p s m args meth c g A) (hw : ct_Wd g A s ws H locs) (hR : ms_Rel g w0 ws st) (hi : vp_in i 60) (hdg : decode cc pc = .ok (.bastore, 1)) (kk : ∀ (ws : va_W) (H : Heap) (locs : List Loc), ct_Wd g A s ws H locs → ms_Rel g w0 ws (ms_A' st 4 i.toNatClampNeg (vp_nar .boolean x)) → W p l e R s m args below meth c H locs cells slots Q (F0 m (pc + 1) ls rest)) : W p l e R s m args below meth c H locs cells slots Q (F0 m pc ls (.int x :: .int i :: .ref (g.2.1 40) :: rest)) :=
  va_zast C0.1 C0.2.1 C0.2.2.2.2.2.1.1 hw.1 hw.2.1 hw.2.2 40 1 (hR.1 40 (by decide) (by decide)) rfl hi hdg (fun H locs hP hD hS => kk _ H locs ⟨hP, hD, hS⟩ (hR.put (by decide) (by decide) rfl (fun j h9 h8 hne => ms_cell_ext (fun _ => ⟨rfl, rfl⟩) (fun a b => va_up_ne _ _ (by omega)) (fun _ _ => rfl) (fun e => rfl) (fun a => rfl) h9)))
theorem ct_ldma5 {p : Program} {l : Launch} {e : Env} {R : Room} {s : State} {m : MethodId} {args : Array Value} {below : List Frame} {meth : Method} {c : Code} {H : Heap} {locs : List Loc} {cells slots : Nat} {Q : State → Prop} {cc : ByteArray} {nL : Nat} {g : Gx} {A : Nat → Prop} {w0 ws : va_W} {pc : Nat} {ls : Array Slot} {rest : List Value} {own : String} {st : MS} {i : Int32} (C0 : ct_Cx own cc nL p s m args meth c g A) (hw : ct_Wd g A s ws H locs) (hR : ms_Rel g w0 ws st) (hi : vp_in i 60) (hdg : decode cc pc = .ok (.baload, 1)) (kk : W p l e R s m args below meth c H locs cells slots Q (F0 m (pc + 1) ls (.int (ms_A st 5 i.toNatClampNeg) :: rest))) : W p l e R s m args below meth c H locs cells slots Q (F0 m pc ls (.int i :: .ref (g.2.1 41) :: rest)) :=
  va_zald C0.1 C0.2.1 C0.2.2.2.2.2.1.1 hw.1 41 1 (hR.1 41 (by decide) (by decide)) rfl hi hdg kk
theorem ct_stma5 {p : Program} {l : Launch} {e : Env} {R : Room} {s : State} {m : MethodId} {args : Array Value} {below : List Frame} {meth : Method} {c : Code} {H : Heap} {locs : List Loc} {cells slots : Nat} {Q : State → Prop} {cc : ByteArray} {nL : Nat} {g : Gx} {A : Nat → Prop} {w0 ws : va_W} {pc : Nat} {ls : Array Slot} {rest : List Value} {own : String} {st : MS} {i x : Int32} (C0 : ct_Cx own cc nL p s m args meth c g A) (hw : ct_Wd g A s ws H locs) (hR : ms_Rel g w0 ws st) (hi : vp_in i 60) (hdg : decode cc pc = .ok (.bastore, 1)) (kk : ∀ (ws : va_W) (H : Heap) (locs : List Loc), ct_Wd g A s ws H locs → ms_Rel g w0 ws (ms_A' st 5 i.toNatClampNeg (vp_nar .boolean x)) → W p l e R s m args below meth c H locs cells slots Q (F0 m (pc + 1) ls rest)) : W p l e R s m args below meth c H locs cells slots Q (F0 m pc ls (.int x :: .int i :: .ref (g.2.1 41) :: rest)) :=
  va_zast C0.1 C0.2.1 C0.2.2.2.2.2.1.1 hw.1 hw.2.1 hw.2.2 41 1 (hR.1 41 (by decide) (by decide)) rfl hi hdg (fun H locs hP hD hS => kk _ H locs ⟨hP, hD, hS⟩ (hR.put (by decide) (by decide) rfl (fun j h9 h8 hne => ms_cell_ext (fun _ => ⟨rfl, rfl⟩) (fun a b => va_up_ne _ _ (by omega)) (fun _ _ => rfl) (fun e => rfl) (fun a => rfl) h9)))
theorem ct_ldma6 {p : Program} {l : Launch} {e : Env} {R : Room} {s : State} {m : MethodId} {args : Array Value} {below : List Frame} {meth : Method} {c : Code} {H : Heap} {locs : List Loc} {cells slots : Nat} {Q : State → Prop} {cc : ByteArray} {nL : Nat} {g : Gx} {A : Nat → Prop} {w0 ws : va_W} {pc : Nat} {ls : Array Slot} {rest : List Value} {own : String} {st : MS} {i : Int32} (C0 : ct_Cx own cc nL p s m args meth c g A) (hw : ct_Wd g A s ws H locs) (hR : ms_Rel g w0 ws st) (hi : vp_in i 144) (hdg : decode cc pc = .ok (.iaload, 1)) (kk : W p l e R s m args below meth c H locs cells slots Q (F0 m (pc + 1) ls (.int (ms_A st 6 i.toNatClampNeg) :: rest))) : W p l e R s m args below meth c H locs cells slots Q (F0 m pc ls (.int i :: .ref (g.2.1 42) :: rest)) :=
  va_iald C0.1 C0.2.1 C0.2.2.2.2.2.1.1 hw.1 42 0 (hR.1 42 (by decide) (by decide)) rfl hi hdg kk
theorem ct_stma6 {p : Program} {l : Launch} {e : Env} {R : Room} {s : State} {m : MethodId} {args : Array Value} {below : List Frame} {meth : Method} {c : Code} {H : Heap} {locs : List Loc} {cells slots : Nat} {Q : State → Prop} {cc : ByteArray} {nL : Nat} {g : Gx} {A : Nat → Prop} {w0 ws : va_W} {pc : Nat} {ls : Array Slot} {rest : List Value} {own : String} {st : MS} {i x : Int32} (C0 : ct_Cx own cc nL p s m args meth c g A) (hw : ct_Wd g A s ws H locs) (hR : ms_Rel g w0 ws st) (hi : vp_in i 144) (hdg : decode cc pc = .ok (.iastore, 1)) (kk : ∀ (ws : va_W) (H : Heap) (locs : List Loc), ct_Wd g A s ws H locs → ms_Rel g w0 ws (ms_A' st 6 i.toNatClampNeg x) → W p l e R s m args below meth c H locs cells slots Q (F0 m (pc + 1) ls rest)) : W p l e R s m args below meth c H locs cells slots Q (F0 m pc ls (.int x :: .int i :: .ref (g.2.1 42) :: rest)) :=
  va_iast C0.1 C0.2.1 C0.2.2.2.2.2.1.1 hw.1 hw.2.1 hw.2.2 42 0 (hR.1 42 (by decide) (by decide)) rfl hi hdg (fun H locs hP hD hS => kk _ H locs ⟨hP, hD, hS⟩ (hR.put (by decide) (by decide) rfl (fun j h9 h8 hne => ms_cell_ext (fun _ => ⟨rfl, rfl⟩) (fun a b => va_up_ne _ _ (by omega)) (fun _ _ => rfl) (fun e => rfl) (fun a => rfl) h9)))
theorem ct_ldma7 {p : Program} {l : Launch} {e : Env} {R : Room} {s : State} {m : MethodId} {args : Array Value} {below : List Frame} {meth : Method} {c : Code} {H : Heap} {locs : List Loc} {cells slots : Nat} {Q : State → Prop} {cc : ByteArray} {nL : Nat} {g : Gx} {A : Nat → Prop} {w0 ws : va_W} {pc : Nat} {ls : Array Slot} {rest : List Value} {own : String} {st : MS} {i : Int32} (C0 : ct_Cx own cc nL p s m args meth c g A) (hw : ct_Wd g A s ws H locs) (hR : ms_Rel g w0 ws st) (hi : vp_in i 36) (hdg : decode cc pc = .ok (.baload, 1)) (kk : W p l e R s m args below meth c H locs cells slots Q (F0 m (pc + 1) ls (.int (ms_A st 7 i.toNatClampNeg) :: rest))) : W p l e R s m args below meth c H locs cells slots Q (F0 m pc ls (.int i :: .ref (g.2.1 45) :: rest)) :=
  va_zald C0.1 C0.2.1 C0.2.2.2.2.2.1.1 hw.1 45 1 (hR.1 45 (by decide) (by decide)) rfl hi hdg kk
theorem ct_stma7 {p : Program} {l : Launch} {e : Env} {R : Room} {s : State} {m : MethodId} {args : Array Value} {below : List Frame} {meth : Method} {c : Code} {H : Heap} {locs : List Loc} {cells slots : Nat} {Q : State → Prop} {cc : ByteArray} {nL : Nat} {g : Gx} {A : Nat → Prop} {w0 ws : va_W} {pc : Nat} {ls : Array Slot} {rest : List Value} {own : String} {st : MS} {i x : Int32} (C0 : ct_Cx own cc nL p s m args meth c g A) (hw : ct_Wd g A s ws H locs) (hR : ms_Rel g w0 ws st) (hi : vp_in i 36) (hdg : decode cc pc = .ok (.bastore, 1)) (kk : ∀ (ws : va_W) (H : Heap) (locs : List Loc), ct_Wd g A s ws H locs → ms_Rel g w0 ws (ms_A' st 7 i.toNatClampNeg (vp_nar .boolean x)) → W p l e R s m args below meth c H locs cells slots Q (F0 m (pc + 1) ls rest)) : W p l e R s m args below meth c H locs cells slots Q (F0 m pc ls (.int x :: .int i :: .ref (g.2.1 45) :: rest)) :=
  va_zast C0.1 C0.2.1 C0.2.2.2.2.2.1.1 hw.1 hw.2.1 hw.2.2 45 1 (hR.1 45 (by decide) (by decide)) rfl hi hdg (fun H locs hP hD hS => kk _ H locs ⟨hP, hD, hS⟩ (hR.put (by decide) (by decide) rfl (fun j h9 h8 hne => ms_cell_ext (fun _ => ⟨rfl, rfl⟩) (fun a b => va_up_ne _ _ (by omega)) (fun _ _ => rfl) (fun e => absurd e hne) (fun a => rfl) h9)))
theorem ct_ldma8 {p : Program} {l : Launch} {e : Env} {R : Room} {s : State} {m : MethodId} {args : Array Value} {below : List Frame} {meth : Method} {c : Code} {H : Heap} {locs : List Loc} {cells slots : Nat} {Q : State → Prop} {cc : ByteArray} {nL : Nat} {g : Gx} {A : Nat → Prop} {w0 ws : va_W} {pc : Nat} {ls : Array Slot} {rest : List Value} {own : String} {st : MS} {i : Int32} (C0 : ct_Cx own cc nL p s m args meth c g A) (hw : ct_Wd g A s ws H locs) (hR : ms_Rel g w0 ws st) (hi : vp_in i 36) (hdg : decode cc pc = .ok (.iaload, 1)) (kk : W p l e R s m args below meth c H locs cells slots Q (F0 m (pc + 1) ls (.int (ms_A st 8 i.toNatClampNeg) :: rest))) : W p l e R s m args below meth c H locs cells slots Q (F0 m pc ls (.int i :: .ref (g.2.1 46) :: rest)) :=
  va_iald C0.1 C0.2.1 C0.2.2.2.2.2.1.1 hw.1 46 0 (hR.1 46 (by decide) (by decide)) rfl hi hdg kk
theorem ct_stma8 {p : Program} {l : Launch} {e : Env} {R : Room} {s : State} {m : MethodId} {args : Array Value} {below : List Frame} {meth : Method} {c : Code} {H : Heap} {locs : List Loc} {cells slots : Nat} {Q : State → Prop} {cc : ByteArray} {nL : Nat} {g : Gx} {A : Nat → Prop} {w0 ws : va_W} {pc : Nat} {ls : Array Slot} {rest : List Value} {own : String} {st : MS} {i x : Int32} (C0 : ct_Cx own cc nL p s m args meth c g A) (hw : ct_Wd g A s ws H locs) (hR : ms_Rel g w0 ws st) (hi : vp_in i 36) (hdg : decode cc pc = .ok (.iastore, 1)) (kk : ∀ (ws : va_W) (H : Heap) (locs : List Loc), ct_Wd g A s ws H locs → ms_Rel g w0 ws (ms_A' st 8 i.toNatClampNeg x) → W p l e R s m args below meth c H locs cells slots Q (F0 m (pc + 1) ls rest)) : W p l e R s m args below meth c H locs cells slots Q (F0 m pc ls (.int x :: .int i :: .ref (g.2.1 46) :: rest)) :=
  va_iast C0.1 C0.2.1 C0.2.2.2.2.2.1.1 hw.1 hw.2.1 hw.2.2 46 0 (hR.1 46 (by decide) (by decide)) rfl hi hdg (fun H locs hP hD hS => kk _ H locs ⟨hP, hD, hS⟩ (hR.put (by decide) (by decide) rfl (fun j h9 h8 hne => ms_cell_ext (fun _ => ⟨rfl, rfl⟩) (fun a b => va_up_ne _ _ (by omega)) (fun _ _ => rfl) (fun e => rfl) (fun a => absurd (show j = 46 by omega) hne) h9)))
theorem ct_ldml0 {p : Program} {l : Launch} {e : Env} {R : Room} {s : State} {m : MethodId} {args : Array Value} {below : List Frame} {meth : Method} {c : Code} {H : Heap} {locs : List Loc} {cells slots : Nat} {Q : State → Prop} {cc : ByteArray} {nL : Nat} {g : Gx} {A : Nat → Prop} {w0 ws : va_W} {pc : Nat} {ls : Array Slot} {rest : List Value} {own : String} {st : MS} {i : Int32} (C0 : ct_Cx own cc nL p s m args meth c g A) (hw : ct_Wd g A s ws H locs) (hR : ms_Rel g w0 ws st) (hi : vp_in i 3) (hdg : decode cc pc = .ok (.laload, 1)) (kk : W p l e R s m args below meth c H locs cells slots Q (F0 m (pc + 1) ls (.long (ms_B st 0 i.toNatClampNeg) :: rest))) : W p l e R s m args below meth c H locs cells slots Q (F0 m pc ls (.int i :: .ref (g.2.1 43) :: rest)) :=
  va_lald C0.1 C0.2.1 C0.2.2.2.2.2.1.1 hw.1 43 2 (hR.1 43 (by decide) (by decide)) rfl hi hdg kk
theorem ct_stml0 {p : Program} {l : Launch} {e : Env} {R : Room} {s : State} {m : MethodId} {args : Array Value} {below : List Frame} {meth : Method} {c : Code} {H : Heap} {locs : List Loc} {cells slots : Nat} {Q : State → Prop} {cc : ByteArray} {nL : Nat} {g : Gx} {A : Nat → Prop} {w0 ws : va_W} {pc : Nat} {ls : Array Slot} {rest : List Value} {own : String} {st : MS} {i : Int32} {x : Int64} (C0 : ct_Cx own cc nL p s m args meth c g A) (hw : ct_Wd g A s ws H locs) (hR : ms_Rel g w0 ws st) (hi : vp_in i 3) (hdg : decode cc pc = .ok (.lastore, 1)) (kk : ∀ (ws : va_W) (H : Heap) (locs : List Loc), ct_Wd g A s ws H locs → ms_Rel g w0 ws (ms_B' st 0 i.toNatClampNeg x) → W p l e R s m args below meth c H locs cells slots Q (F0 m (pc + 1) ls rest)) : W p l e R s m args below meth c H locs cells slots Q (F0 m pc ls (.long x :: .int i :: .ref (g.2.1 43) :: rest)) :=
  va_last C0.1 C0.2.1 C0.2.2.2.2.2.1.1 hw.1 hw.2.1 hw.2.2 43 2 (hR.1 43 (by decide) (by decide)) rfl hi hdg (fun H locs hP hD hS => kk _ H locs ⟨hP, hD, hS⟩ (hR.put (by decide) (by decide) rfl (fun j h9 h8 hne => ms_cell_ext (fun _ => ⟨rfl, rfl⟩) (fun _ _ => rfl) (fun a b => va_up_ne _ _ (by omega)) (fun _ => rfl) (fun _ => rfl) h9)))
theorem ct_ldml1 {p : Program} {l : Launch} {e : Env} {R : Room} {s : State} {m : MethodId} {args : Array Value} {below : List Frame} {meth : Method} {c : Code} {H : Heap} {locs : List Loc} {cells slots : Nat} {Q : State → Prop} {cc : ByteArray} {nL : Nat} {g : Gx} {A : Nat → Prop} {w0 ws : va_W} {pc : Nat} {ls : Array Slot} {rest : List Value} {own : String} {st : MS} {i : Int32} (C0 : ct_Cx own cc nL p s m args meth c g A) (hw : ct_Wd g A s ws H locs) (hR : ms_Rel g w0 ws st) (hi : vp_in i 3) (hdg : decode cc pc = .ok (.laload, 1)) (kk : W p l e R s m args below meth c H locs cells slots Q (F0 m (pc + 1) ls (.long (ms_B st 1 i.toNatClampNeg) :: rest))) : W p l e R s m args below meth c H locs cells slots Q (F0 m pc ls (.int i :: .ref (g.2.1 44) :: rest)) :=
  va_lald C0.1 C0.2.1 C0.2.2.2.2.2.1.1 hw.1 44 2 (hR.1 44 (by decide) (by decide)) rfl hi hdg kk
theorem ct_stml1 {p : Program} {l : Launch} {e : Env} {R : Room} {s : State} {m : MethodId} {args : Array Value} {below : List Frame} {meth : Method} {c : Code} {H : Heap} {locs : List Loc} {cells slots : Nat} {Q : State → Prop} {cc : ByteArray} {nL : Nat} {g : Gx} {A : Nat → Prop} {w0 ws : va_W} {pc : Nat} {ls : Array Slot} {rest : List Value} {own : String} {st : MS} {i : Int32} {x : Int64} (C0 : ct_Cx own cc nL p s m args meth c g A) (hw : ct_Wd g A s ws H locs) (hR : ms_Rel g w0 ws st) (hi : vp_in i 3) (hdg : decode cc pc = .ok (.lastore, 1)) (kk : ∀ (ws : va_W) (H : Heap) (locs : List Loc), ct_Wd g A s ws H locs → ms_Rel g w0 ws (ms_B' st 1 i.toNatClampNeg x) → W p l e R s m args below meth c H locs cells slots Q (F0 m (pc + 1) ls rest)) : W p l e R s m args below meth c H locs cells slots Q (F0 m pc ls (.long x :: .int i :: .ref (g.2.1 44) :: rest)) :=
  va_last C0.1 C0.2.1 C0.2.2.2.2.2.1.1 hw.1 hw.2.1 hw.2.2 44 2 (hR.1 44 (by decide) (by decide)) rfl hi hdg (fun H locs hP hD hS => kk _ H locs ⟨hP, hD, hS⟩ (hR.put (by decide) (by decide) rfl (fun j h9 h8 hne => ms_cell_ext (fun _ => ⟨rfl, rfl⟩) (fun _ _ => rfl) (fun a b => va_up_ne _ _ (by omega)) (fun _ => rfl) (fun _ => rfl) h9)))
end
section
theorem d_CT_within_0 : decode c_CT_within 0 = .ok (.iload_n 0, 1) := by decide +kernel
theorem d_CT_within_1 : decode c_CT_within 1 = .ok (.iload_n 1, 1) := by decide +kernel
theorem d_CT_within_2 : decode c_CT_within 2 = .ok (.if_icmp .lt 12, 3) := by decide +kernel
theorem d_CT_within_5 : decode c_CT_within 5 = .ok (.iload_n 0, 1) := by decide +kernel
theorem d_CT_within_6 : decode c_CT_within 6 = .ok (.iload_n 2, 1) := by decide +kernel
theorem d_CT_within_7 : decode c_CT_within 7 = .ok (.if_icmp .gt 7, 3) := by decide +kernel
theorem d_CT_within_10 : decode c_CT_within 10 = .ok (.iconst 1, 1) := by decide +kernel
theorem d_CT_within_11 : decode c_CT_within 11 = .ok (.goto 4, 3) := by decide +kernel
theorem d_CT_within_14 : decode c_CT_within 14 = .ok (.iconst 0, 1) := by decide +kernel
theorem d_CT_within_15 : decode c_CT_within 15 = .ok (.ireturn, 1) := by decide +kernel
set_option maxHeartbeats 4000000 in
set_option maxRecDepth 100000 in
theorem s_CT_within (l : Launch) (g : Gx) (ws0 : va_W) (sz : Nat) {a1 : Int32} {a2 : Int32} {a3 : Int32} {res : Int32} (h : fn_CT_within a1 a2 a3 = some res) : ct_MI l y_CT_within c_CT_within 3 (some .boolean) rm_CT_within g ws0 sz [.int a1, .int a2, .int a3] res (fun u => u = ws0) := by
  refine ct_startz (by decide +kernel) (Nat.le_of_ble_eq_true rfl) (fun p e sv m args below meth c ls Q A H locs C0 hret hl hw => ?_)
  have hx := C0.1
  have hb := C0.2.1
  have hown := C0.2.2.2.1
  have hts := C0.2.2.2.2.1
  have hl : lv_has ls 3 [(0, .int a1), (1, .int a2), (2, .int a3)] := hl
  unfold fn_CT_within at h
  refine lv_iload_n hx hb d_CT_within_0 rfl (lv_at hl 0 rfl) ?_
  refine lv_iload_n hx hb d_CT_within_1 rfl (lv_at hl 1 rfl) ?_
  refine lv_icmp_lt hx hb (tgt := 14) d_CT_within_2 (by decide) (fun hc9 => ?_) (fun hc9 => ?_)
  · rw [if_pos hc9] at h
    refine lv_iconst (v := 0) hx hb d_CT_within_14 (by decide) ?_
    have hz : ct_isB 0 = true := by decide
    obtain rfl := Option.some.inj h
    exact hret hz hw rfl d_CT_within_15
  · rw [if_neg hc9] at h
    refine lv_iload_n hx hb d_CT_within_5 rfl (lv_at hl 0 rfl) ?_
    refine lv_iload_n hx hb d_CT_within_6 rfl (lv_at hl 2 rfl) ?_
    refine lv_icmp_gt hx hb (tgt := 14) d_CT_within_7 (by decide) (fun hc9 => ?_) (fun hc9 => ?_)
    · rw [if_pos hc9] at h
      refine lv_iconst (v := 0) hx hb d_CT_within_14 (by decide) ?_
      have hz : ct_isB 0 = true := by decide
      obtain rfl := Option.some.inj h
      exact hret hz hw rfl d_CT_within_15
    · rw [if_neg hc9] at h
      refine lv_iconst (v := 1) hx hb d_CT_within_10 (by decide) ?_
      refine lv_goto hx hb (tgt := 15) d_CT_within_11 (by decide) ?_
      have hz : ct_isB 1 = true := by decide
      obtain rfl := Option.some.inj h
      exact hret hz hw rfl d_CT_within_15

theorem d_CT_check_0 : decode c_CT_check 0 = .ok (.iload_n 0, 1) := by decide +kernel
theorem d_CT_check_1 : decode c_CT_check 1 = .ok (.ifCond .ne 13, 3) := by decide +kernel
theorem d_CT_check_4 : decode c_CT_check 4 = .ok (.new 189, 3) := by decide +kernel
theorem d_CT_check_7 : decode c_CT_check 7 = .ok (.dup, 1) := by decide +kernel
theorem d_CT_check_8 : decode c_CT_check 8 = .ok (.ldc 226, 2) := by decide +kernel
theorem d_CT_check_10 : decode c_CT_check 10 = .ok (.invokespecial 193, 3) := by decide +kernel
theorem d_CT_check_13 : decode c_CT_check 13 = .ok (.athrow, 1) := by decide +kernel
theorem d_CT_check_14 : decode c_CT_check 14 = .ok (.return_, 1) := by decide +kernel
set_option maxHeartbeats 4000000 in
set_option maxRecDepth 100000 in
theorem s_CT_check (l : Launch) (g : Gx) (ws0 : va_W) (sz : Nat) {s : CS} {a1 : Int32} {res : ((Nat × CS) ⊕ CS)} (hR : cs_Rel g ws0 ws0 s) (hl0 : l.stackTraces = false) (h : fn_CT_check s a1 = some res) : ct_XV l y_CT_check c_CT_check 1 none rm_CT_check g ws0 sz [.int a1] res 1 6 := by
  refine ct_startXv hl0 (by decide +kernel) rfl (Nat.le_of_ble_eq_true rfl) (fun p e sv m args below meth c ls Q A H locs C0 hret hout hthr hl hw => ?_)
  have hx := C0.1
  have hb := C0.2.1
  have hown := C0.2.2.2.1
  have hts := C0.2.2.2.2.1
  have hl : lv_has ls 1 [(0, .int a1)] := hl
  unfold fn_CT_check at h
  obtain ⟨ws, hwe⟩ : ∃ z : va_W, z = ws0 := ⟨_, rfl⟩
  rw [← hwe] at hw
  have hR : cs_Rel g ws0 ws s := by rw [hwe]; exact hR
  clear hwe
  refine lv_iload_n hx hb d_CT_check_0 rfl (lv_at hl 0 rfl) ?_
  refine lv_if_ne hx hb (tgt := 14) d_CT_check_1 (by decide) (fun hc9 => ?_) (fun hc9 => ?_)
  · rw [if_pos hc9] at h
    obtain rfl := Option.some.inj h
    exact hret hw ⟨_, rfl, hR⟩ (by decide) (by decide) d_CT_check_14
  · rw [if_neg hc9] at h
    obtain rfl := Option.some.inj h
    exact hthr (X := "java/lang/IllegalArgumentException") (k := 1) hl.1 hw hR rfl rfl (by decide +kernel) wd_212 wd_11 (by decide +kernel : (226, _) ∈ ct_str) ok_thr_193.1 ok_thr_193.2 (ok_thr_193_g _) d_CT_check_4 d_CT_check_7 d_CT_check_8 d_CT_check_10 d_CT_check_13 (by decide) (Nat.le_of_ble_eq_true rfl) (by decide) (by decide) (by decide) (by decide)

theorem d_CT_isLine_0 : decode c_CT_isLine 0 = .ok (.iload_n 0, 1) := by decide +kernel
theorem d_CT_isLine_1 : decode c_CT_isLine 1 = .ok (.iconst 0, 1) := by decide +kernel
theorem d_CT_isLine_2 : decode c_CT_isLine 2 = .ok (.iconst 1, 1) := by decide +kernel
theorem d_CT_isLine_3 : decode c_CT_isLine 3 = .ok (.invokestatic 33, 3) := by decide +kernel
theorem d_CT_isLine_6 : decode c_CT_isLine 6 = .ok (.ireturn, 1) := by decide +kernel
set_option maxHeartbeats 4000000 in
set_option maxRecDepth 100000 in
theorem s_CT_isLine (l : Launch) (g : Gx) (ws0 : va_W) (sz : Nat) {a1 : Int32} {res : Int32} (h : fn_CT_isLine a1 = some res) : ct_MI l y_CT_isLine c_CT_isLine 1 (some .boolean) rm_CT_isLine g ws0 sz [.int a1] res (fun u => u = ws0) := by
  refine ct_startz (by decide +kernel) (Nat.le_of_ble_eq_true rfl) (fun p e sv m args below meth c ls Q A H locs C0 hret hl hw => ?_)
  have hx := C0.1
  have hb := C0.2.1
  have hown := C0.2.2.2.1
  have hts := C0.2.2.2.2.1
  have hl : lv_has ls 1 [(0, .int a1)] := hl
  unfold fn_CT_isLine at h
  refine lv_iload_n hx hb d_CT_isLine_0 rfl (lv_at hl 0 rfl) ?_
  refine lv_iconst (v := 0) hx hb d_CT_isLine_1 (by decide) ?_
  refine lv_iconst (v := 1) hx hb d_CT_isLine_2 (by decide) ?_
  obtain ⟨x1, ho, h⟩ := ct_ob_some h
  refine ct_callSi C0 hw hl.1 (ct_giS wd_206 wd_207 wd_1 wd_208) (fun sz => s_CT_within l g ws0 sz ho) (by decide +kernel) ⟨rfl, rfl⟩ (by decide) (by decide) (As := [.int a1, .int 0, .int 1]) (rest := []) rfl (Nat.le_of_ble_eq_true rfl) d_CT_isLine_3 (fun ws1 H locs hw hp => ?_)
  rw [hp] at hw
  clear hp
  obtain ⟨hz, h⟩ := ct_gd_some h
  obtain rfl := Option.some.inj h
  exact hret hz hw rfl d_CT_isLine_6

theorem d_CT_checkMonths_0 : decode c_CT_checkMonths 0 = .ok (.iload_n 0, 1) := by decide +kernel
theorem d_CT_checkMonths_1 : decode c_CT_checkMonths 1 = .ok (.iconst 0, 1) := by decide +kernel
theorem d_CT_checkMonths_2 : decode c_CT_checkMonths 2 = .ok (.bipush 71, 2) := by decide +kernel
theorem d_CT_checkMonths_4 : decode c_CT_checkMonths 4 = .ok (.invokestatic 33, 3) := by decide +kernel
theorem d_CT_checkMonths_7 : decode c_CT_checkMonths 7 = .ok (.ifCond .eq 17, 3) := by decide +kernel
theorem d_CT_checkMonths_10 : decode c_CT_checkMonths 10 = .ok (.iload_n 1, 1) := by decide +kernel
theorem d_CT_checkMonths_11 : decode c_CT_checkMonths 11 = .ok (.iload_n 0, 1) := by decide +kernel
theorem d_CT_checkMonths_12 : decode c_CT_checkMonths 12 = .ok (.bipush 71, 2) := by decide +kernel
theorem d_CT_checkMonths_14 : decode c_CT_checkMonths 14 = .ok (.invokestatic 33, 3) := by decide +kernel
theorem d_CT_checkMonths_17 : decode c_CT_checkMonths 17 = .ok (.ifCond .eq 7, 3) := by decide +kernel
theorem d_CT_checkMonths_20 : decode c_CT_checkMonths 20 = .ok (.iconst 1, 1) := by decide +kernel
theorem d_CT_checkMonths_21 : decode c_CT_checkMonths 21 = .ok (.goto 4, 3) := by decide +kernel
theorem d_CT_checkMonths_24 : decode c_CT_checkMonths 24 = .ok (.iconst 0, 1) := by decide +kernel
theorem d_CT_checkMonths_25 : decode c_CT_checkMonths 25 = .ok (.invokestatic 37, 3) := by decide +kernel
theorem d_CT_checkMonths_28 : decode c_CT_checkMonths 28 = .ok (.return_, 1) := by decide +kernel
set_option maxHeartbeats 4000000 in
set_option maxRecDepth 100000 in
theorem s_CT_checkMonths (l : Launch) (g : Gx) (ws0 : va_W) (sz : Nat) {s : CS} {a1 : Int32} {a2 : Int32} {res : ((Nat × CS) ⊕ CS)} (hR : cs_Rel g ws0 ws0 s) (hl0 : l.stackTraces = false) (h : fn_CT_checkMonths s a1 a2 = some res) : ct_XV l y_CT_checkMonths c_CT_checkMonths 2 none rm_CT_checkMonths g ws0 sz [.int a1, .int a2] res 1 6 := by
  refine ct_startXv hl0 (by decide +kernel) rfl (Nat.le_of_ble_eq_true rfl) (fun p e sv m args below meth c ls Q A H locs C0 hret hout hthr hl hw => ?_)
  have hx := C0.1
  have hb := C0.2.1
  have hown := C0.2.2.2.1
  have hts := C0.2.2.2.2.1
  have hl : lv_has ls 2 [(0, .int a1), (1, .int a2)] := hl
  have J25 : ∀ (ws : va_W) (H : Heap) (locs : List Loc) (ls : Array Slot) (s : CS) (t0 : Int32), ct_Wd g A sv ws H locs → cs_Rel g ws0 ws s → lv_has ls 2 [] → bk_CT_checkMonths_25 a1 a2 s t0 = some res → W p l e rm_CT_checkMonths sv m args below meth c H locs 0 0 Q (F0 m 25 ls [.int t0]) := by
    intro ws H locs ls s t0 hw hR hl h
    unfold bk_CT_checkMonths_25 at h
    obtain ⟨o1, ho, h⟩ := ct_xb_some h
    refine ct_callSXv C0 hw hl.1 (ct_giS wd_209 wd_210 wd_1 wd_211) (fun sz => s_CT_check l g ws sz hR.rf hl0 ho) (by decide +kernel) ⟨rfl, rfl⟩ (by decide) (by decide) (As := [.int t0]) (rest := []) rfl (Nat.le_of_ble_eq_true rfl) d_CT_checkMonths_25 (fun E ce q9 ws1 H locs k9 s9 hw ho9 hE hp h1 h2 h3 => ?_) (fun ws1 H locs s9 hw ho9 hp => ?_)
    · subst ho9; obtain rfl := Option.some.inj h; exact hout hw rfl hE (hR.trans hp) h1 h2 h3 (by decide) (by decide)
    subst ho9
    have hR := hR.trans hp
    clear hp
    generalize ws1 = ws at hw hR
    generalize s9 = s2 at hR h
    obtain rfl := Option.some.inj h
    exact hret hw ⟨_, rfl, hR⟩ (by decide) (by decide) d_CT_checkMonths_28
  unfold fn_CT_checkMonths at h
  obtain ⟨ws, hwe⟩ : ∃ z : va_W, z = ws0 := ⟨_, rfl⟩
  rw [← hwe] at hw
  have hR : cs_Rel g ws0 ws s := by rw [hwe]; exact hR
  clear hwe
  refine lv_iload_n hx hb d_CT_checkMonths_0 rfl (lv_at hl 0 rfl) ?_
  refine lv_iconst (v := 0) hx hb d_CT_checkMonths_1 (by decide) ?_
  refine lv_bipush (v := 71) hx hb d_CT_checkMonths_2 (by decide) ?_
  obtain ⟨x3, ho, h⟩ := ct_ob_some h
  refine ct_callSi C0 hw hl.1 (ct_giS wd_206 wd_207 wd_1 wd_208) (fun sz => s_CT_within l g ws sz ho) (by decide +kernel) ⟨rfl, rfl⟩ (by decide) (by decide) (As := [.int a1, .int 0, .int 71]) (rest := []) rfl (Nat.le_of_ble_eq_true rfl) d_CT_checkMonths_4 (fun ws1 H locs hw hp => ?_)
  rw [hp] at hw
  clear hp
  refine lv_if_eq hx hb (tgt := 24) d_CT_checkMonths_7 (by decide) (fun hc9 => ?_) (fun hc9 => ?_)
  · rw [if_pos hc9] at h
    refine lv_iconst (v := 0) hx hb d_CT_checkMonths_24 (by decide) ?_
    exact J25 ws H locs ls s 0 hw hR (lv_sub hl [] rfl) h
  · rw [if_neg hc9] at h
    refine lv_iload_n hx hb d_CT_checkMonths_10 rfl (lv_at hl 1 rfl) ?_
    refine lv_iload_n hx hb d_CT_checkMonths_11 rfl (lv_at hl 0 rfl) ?_
    refine lv_bipush (v := 71) hx hb d_CT_checkMonths_12 (by decide) ?_
    obtain ⟨x4, ho, h⟩ := ct_ob_some h
    refine ct_callSi C0 hw hl.1 (ct_giS wd_206 wd_207 wd_1 wd_208) (fun sz => s_CT_within l g ws sz ho) (by decide +kernel) ⟨rfl, rfl⟩ (by decide) (by decide) (As := [.int a2, .int a1, .int 71]) (rest := []) rfl (Nat.le_of_ble_eq_true rfl) d_CT_checkMonths_14 (fun ws1 H locs hw hp => ?_)
    rw [hp] at hw
    clear hp
    refine lv_if_eq hx hb (tgt := 24) d_CT_checkMonths_17 (by decide) (fun hc9 => ?_) (fun hc9 => ?_)
    · rw [if_pos hc9] at h
      refine lv_iconst (v := 0) hx hb d_CT_checkMonths_24 (by decide) ?_
      exact J25 ws H locs ls s 0 hw hR (lv_sub hl [] rfl) h
    · rw [if_neg hc9] at h
      refine lv_iconst (v := 1) hx hb d_CT_checkMonths_20 (by decide) ?_
      refine lv_goto hx hb (tgt := 25) d_CT_checkMonths_21 (by decide) ?_
      exact J25 ws H locs ls s 1 hw hR (lv_sub hl [] rfl) h

theorem d_Le_append_0 : decode c_Le_append 0 = .ok (.aload_n 0, 1) := by decide +kernel
theorem d_Le_append_1 : decode c_Le_append 1 = .ok (.getfield 31, 3) := by decide +kernel
theorem d_Le_append_4 : decode c_Le_append 4 = .ok (.istore 6, 2) := by decide +kernel
theorem d_Le_append_6 : decode c_Le_append 6 = .ok (.aload_n 0, 1) := by decide +kernel
theorem d_Le_append_7 : decode c_Le_append 7 = .ok (.getfield 9, 3) := by decide +kernel
theorem d_Le_append_10 : decode c_Le_append 10 = .ok (.iload 6, 2) := by decide +kernel
theorem d_Le_append_12 : decode c_Le_append 12 = .ok (.iload_n 1, 1) := by decide +kernel
theorem d_Le_append_13 : decode c_Le_append 13 = .ok (.iastore, 1) := by decide +kernel
theorem d_Le_append_14 : decode c_Le_append 14 = .ok (.aload_n 0, 1) := by decide +kernel
theorem d_Le_append_15 : decode c_Le_append 15 = .ok (.getfield 15, 3) := by decide +kernel
theorem d_Le_append_18 : decode c_Le_append 18 = .ok (.iload 6, 2) := by decide +kernel
theorem d_Le_append_20 : decode c_Le_append 20 = .ok (.iload_n 2, 1) := by decide +kernel
theorem d_Le_append_21 : decode c_Le_append 21 = .ok (.iastore, 1) := by decide +kernel
theorem d_Le_append_22 : decode c_Le_append 22 = .ok (.aload_n 0, 1) := by decide +kernel
theorem d_Le_append_23 : decode c_Le_append 23 = .ok (.getfield 18, 3) := by decide +kernel
theorem d_Le_append_26 : decode c_Le_append 26 = .ok (.iload 6, 2) := by decide +kernel
theorem d_Le_append_28 : decode c_Le_append 28 = .ok (.iload_n 3, 1) := by decide +kernel
theorem d_Le_append_29 : decode c_Le_append 29 = .ok (.iastore, 1) := by decide +kernel
theorem d_Le_append_30 : decode c_Le_append 30 = .ok (.aload_n 0, 1) := by decide +kernel
theorem d_Le_append_31 : decode c_Le_append 31 = .ok (.getfield 21, 3) := by decide +kernel
theorem d_Le_append_34 : decode c_Le_append 34 = .ok (.iload 6, 2) := by decide +kernel
theorem d_Le_append_36 : decode c_Le_append 36 = .ok (.iload 4, 2) := by decide +kernel
theorem d_Le_append_38 : decode c_Le_append 38 = .ok (.iastore, 1) := by decide +kernel
theorem d_Le_append_39 : decode c_Le_append 39 = .ok (.aload_n 0, 1) := by decide +kernel
theorem d_Le_append_40 : decode c_Le_append 40 = .ok (.getfield 24, 3) := by decide +kernel
theorem d_Le_append_43 : decode c_Le_append 43 = .ok (.iload 6, 2) := by decide +kernel
theorem d_Le_append_45 : decode c_Le_append 45 = .ok (.iload 5, 2) := by decide +kernel
theorem d_Le_append_47 : decode c_Le_append 47 = .ok (.bastore, 1) := by decide +kernel
theorem d_Le_append_48 : decode c_Le_append 48 = .ok (.aload_n 0, 1) := by decide +kernel
theorem d_Le_append_49 : decode c_Le_append 49 = .ok (.getfield 28, 3) := by decide +kernel
theorem d_Le_append_52 : decode c_Le_append 52 = .ok (.iload 6, 2) := by decide +kernel
theorem d_Le_append_54 : decode c_Le_append 54 = .ok (.iconst 1, 1) := by decide +kernel
theorem d_Le_append_55 : decode c_Le_append 55 = .ok (.bastore, 1) := by decide +kernel
theorem d_Le_append_56 : decode c_Le_append 56 = .ok (.aload_n 0, 1) := by decide +kernel
theorem d_Le_append_57 : decode c_Le_append 57 = .ok (.dup, 1) := by decide +kernel
theorem d_Le_append_58 : decode c_Le_append 58 = .ok (.getfield 31, 3) := by decide +kernel
theorem d_Le_append_61 : decode c_Le_append 61 = .ok (.iconst 1, 1) := by decide +kernel
theorem d_Le_append_62 : decode c_Le_append 62 = .ok (.iadd, 1) := by decide +kernel
theorem d_Le_append_63 : decode c_Le_append 63 = .ok (.putfield 31, 3) := by decide +kernel
theorem d_Le_append_66 : decode c_Le_append 66 = .ok (.iload 6, 2) := by decide +kernel
theorem d_Le_append_68 : decode c_Le_append 68 = .ok (.ireturn, 1) := by decide +kernel
set_option maxHeartbeats 4000000 in
set_option maxRecDepth 100000 in
theorem s_Le_append (l : Launch) (g : Gx) (ws0 : va_W) (sz : Nat) {s : CS} {a1 : Int32} {a2 : Int32} {a3 : Int32} {a4 : Int32} {a5 : Int32} {res : (Int32 × CS)} (hR : cs_Rel g ws0 ws0 s) (h : fn_Le_append s a1 a2 a3 a4 a5 = some res) : ct_MI l y_Le_append c_Le_append 7 (some .int) rm_Le_append g ws0 sz [.ref (g.2.1 1), .int a1, .int a2, .int a3, .int a4, .int a5] res.1 (fun u => cs_Rel g ws0 u res.2) := by
  refine ct_starti (by decide +kernel) (Nat.le_of_ble_eq_true rfl) (fun p e sv m args below meth c ls Q A H locs C0 hret hl hw => ?_)
  have hx := C0.1
  have hb := C0.2.1
  have hown := C0.2.2.2.1
  have hts := C0.2.2.2.2.1
  have hl : lv_has ls 7 [(0, .ref (g.2.1 1)), (1, .int a1), (2, .int a2), (3, .int a3), (4, .int a4), (5, .int a5)] := hl
  unfold fn_Le_append at h
  obtain ⟨ws, hwe⟩ : ∃ z : va_W, z = ws0 := ⟨_, rfl⟩
  rw [← hwe] at hw
  have hR : cs_Rel g ws0 ws s := by rw [hwe]; exact hR
  clear hwe
  refine lv_aload_n hx hb d_Le_append_0 rfl (lv_at hl 0 rfl) ?_
  refine gf_Le_31 C0 hw hR d_Le_append_1 ?_
  refine lv_topi (fun x1 e9 => ?_)
  have h := ct_nm_at h e9
  clear e9
  refine lv_istore (lv' := [(6, .int x1), (0, .ref (g.2.1 1)), (1, .int a1), (2, .int a2), (3, .int a3), (4, .int a4), (5, .int a5)]) hx hb d_Le_append_4 hl (by decide) rfl (fun ls hl => ?_)
  refine lv_aload_n hx hb d_Le_append_6 rfl (lv_at hl 1 rfl) ?_
  refine gf_Le_9 C0 hw hR d_Le_append_7 ?_
  refine lv_iload hx hb d_Le_append_10 (lv_at hl 0 rfl) ?_
  refine lv_iload_n hx hb d_Le_append_12 rfl (lv_at hl 2 rfl) ?_
  obtain ⟨hg13, h⟩ := ct_gd_some h
  refine ct_stA (k := 0) C0 hw hR (by decide) (ct_inR_vp hg13) d_Le_append_13 (fun ws H locs hw hR => ?_)
  obtain ⟨s2, es9, h⟩ := ct_nm_ex h
  rw [← es9] at hR
  clear es9
  refine lv_aload_n hx hb d_Le_append_14 rfl (lv_at hl 1 rfl) ?_
  refine gf_Le_15 C0 hw hR d_Le_append_15 ?_
  refine lv_iload hx hb d_Le_append_18 (lv_at hl 0 rfl) ?_
  refine lv_iload_n hx hb d_Le_append_20 rfl (lv_at hl 3 rfl) ?_
  obtain ⟨hg21, h⟩ := ct_gd_some h
  refine ct_stA (k := 1) C0 hw hR (by decide) (ct_inR_vp hg21) d_Le_append_21 (fun ws H locs hw hR => ?_)
  obtain ⟨s3, es9, h⟩ := ct_nm_ex h
  rw [← es9] at hR
  clear es9
  refine lv_aload_n hx hb d_Le_append_22 rfl (lv_at hl 1 rfl) ?_
  refine gf_Le_18 C0 hw hR d_Le_append_23 ?_
  refine lv_iload hx hb d_Le_append_26 (lv_at hl 0 rfl) ?_
  refine lv_iload_n hx hb d_Le_append_28 rfl (lv_at hl 4 rfl) ?_
  obtain ⟨hg29, h⟩ := ct_gd_some h
  refine ct_stA (k := 2) C0 hw hR (by decide) (ct_inR_vp hg29) d_Le_append_29 (fun ws H locs hw hR => ?_)
  obtain ⟨s4, es9, h⟩ := ct_nm_ex h
  rw [← es9] at hR
  clear es9
  refine lv_aload_n hx hb d_Le_append_30 rfl (lv_at hl 1 rfl) ?_
  refine gf_Le_21 C0 hw hR d_Le_append_31 ?_
  refine lv_iload hx hb d_Le_append_34 (lv_at hl 0 rfl) ?_
  refine lv_iload hx hb d_Le_append_36 (lv_at hl 5 rfl) ?_
  obtain ⟨hg38, h⟩ := ct_gd_some h
  refine ct_stA (k := 3) C0 hw hR (by decide) (ct_inR_vp hg38) d_Le_append_38 (fun ws H locs hw hR => ?_)
  obtain ⟨s5, es9, h⟩ := ct_nm_ex h
  rw [← es9] at hR
  clear es9
  refine lv_aload_n hx hb d_Le_append_39 rfl (lv_at hl 1 rfl) ?_
  refine gf_Le_24 C0 hw hR d_Le_append_40 ?_
  refine lv_iload hx hb d_Le_append_43 (lv_at hl 0 rfl) ?_
  refine lv_iload hx hb d_Le_append_45 (lv_at hl 6 rfl) ?_
  obtain ⟨hg47, h⟩ := ct_gd_some h
  refine ct_stZ (k := 4) C0 hw hR (by decide) (by decide) (ct_inR_vp hg47) d_Le_append_47 (fun ws H locs hw hR => ?_)
  obtain ⟨s6, es9, h⟩ := ct_nm_ex h
  rw [← es9] at hR
  clear es9
  refine lv_aload_n hx hb d_Le_append_48 rfl (lv_at hl 1 rfl) ?_
  refine gf_Le_28 C0 hw hR d_Le_append_49 ?_
  refine lv_iload hx hb d_Le_append_52 (lv_at hl 0 rfl) ?_
  refine lv_iconst (v := 1) hx hb d_Le_append_54 (by decide) ?_
  obtain ⟨hg55, h⟩ := ct_gd_some h
  refine ct_stZ (k := 5) C0 hw hR (by decide) (by decide) (ct_inR_vp hg55) d_Le_append_55 (fun ws H locs hw hR => ?_)
  obtain ⟨s7, es9, h⟩ := ct_nm_ex h
  rw [← es9] at hR
  clear es9
  refine lv_aload_n hx hb d_Le_append_56 rfl (lv_at hl 1 rfl) ?_
  refine lv_dup hx hb d_Le_append_57 rfl ?_
  refine gf_Le_31 C0 hw hR d_Le_append_58 ?_
  refine lv_iconst (v := 1) hx hb d_Le_append_61 (by decide) ?_
  refine lv_iadd hx hb d_Le_append_62 ?_
  refine pf_Le_31 C0 hw hR d_Le_append_63 (fun ws H locs hw hR => ?_)
  obtain ⟨s8, es9, h⟩ := ct_nm_ex h
  rw [← es9] at hR
  clear es9
  refine lv_iload hx hb d_Le_append_66 (lv_at hl 0 rfl) ?_
  obtain rfl := Option.some.inj h
  exact hret hw hR d_Le_append_68

theorem d_Tr_clear_0 : decode c_Tr_clear 0 = .ok (.iconst 0, 1) := by decide +kernel
theorem d_Tr_clear_1 : decode c_Tr_clear 1 = .ok (.istore_n 1, 1) := by decide +kernel
theorem d_Tr_clear_2 : decode c_Tr_clear 2 = .ok (.iload_n 1, 1) := by decide +kernel
theorem d_Tr_clear_3 : decode c_Tr_clear 3 = .ok (.bipush 6, 2) := by decide +kernel
theorem d_Tr_clear_5 : decode c_Tr_clear 5 = .ok (.if_icmp .ge 32, 3) := by decide +kernel
theorem d_Tr_clear_8 : decode c_Tr_clear 8 = .ok (.iconst 0, 1) := by decide +kernel
theorem d_Tr_clear_9 : decode c_Tr_clear 9 = .ok (.istore_n 2, 1) := by decide +kernel
theorem d_Tr_clear_10 : decode c_Tr_clear 10 = .ok (.iload_n 2, 1) := by decide +kernel
theorem d_Tr_clear_11 : decode c_Tr_clear 11 = .ok (.bipush 6, 2) := by decide +kernel
theorem d_Tr_clear_13 : decode c_Tr_clear 13 = .ok (.if_icmp .ge 18, 3) := by decide +kernel
theorem d_Tr_clear_16 : decode c_Tr_clear 16 = .ok (.aload_n 0, 1) := by decide +kernel
theorem d_Tr_clear_17 : decode c_Tr_clear 17 = .ok (.getfield 11, 3) := by decide +kernel
theorem d_Tr_clear_20 : decode c_Tr_clear 20 = .ok (.iload_n 1, 1) := by decide +kernel
theorem d_Tr_clear_21 : decode c_Tr_clear 21 = .ok (.aaload, 1) := by decide +kernel
theorem d_Tr_clear_22 : decode c_Tr_clear 22 = .ok (.iload_n 2, 1) := by decide +kernel
theorem d_Tr_clear_23 : decode c_Tr_clear 23 = .ok (.iconst 0, 1) := by decide +kernel
theorem d_Tr_clear_24 : decode c_Tr_clear 24 = .ok (.iastore, 1) := by decide +kernel
theorem d_Tr_clear_25 : decode c_Tr_clear 25 = .ok (.iinc 2 1, 3) := by decide +kernel
theorem d_Tr_clear_28 : decode c_Tr_clear 28 = .ok (.goto (-18), 3) := by decide +kernel
theorem d_Tr_clear_31 : decode c_Tr_clear 31 = .ok (.iinc 1 1, 3) := by decide +kernel
theorem d_Tr_clear_34 : decode c_Tr_clear 34 = .ok (.goto (-32), 3) := by decide +kernel
theorem d_Tr_clear_37 : decode c_Tr_clear 37 = .ok (.return_, 1) := by decide +kernel
set_option maxHeartbeats 4000000 in
set_option maxRecDepth 100000 in
theorem s_Tr_clear (l : Launch) (g : Gx) (ws0 : va_W) (sz : Nat) {s : CS} {res : CS} (hR : cs_Rel g ws0 ws0 s) (h : fn_Tr_clear s = some res) : ct_MV l y_Tr_clear c_Tr_clear 3 none rm_Tr_clear g ws0 sz [.ref (g.2.1 2)]  (fun u => cs_Rel g ws0 u res) := by
  refine ct_startv (by decide +kernel) (Nat.le_of_ble_eq_true rfl) (fun p e sv m args below meth c ls Q A H locs C0 hret hl hw => ?_)
  have hx := C0.1
  have hb := C0.2.1
  have hown := C0.2.2.2.1
  have hts := C0.2.2.2.2.1
  have hl : lv_has ls 3 [(0, .ref (g.2.1 2))] := hl
  have L2 : ∀ (n2 : Nat) (ws : va_W) (H : Heap) (locs : List Loc) (ls : Array Slot) (s : CS) (v1 : Int32), ct_Wd g A sv ws H locs → cs_Rel g ws0 ws s → lv_has ls 3 [(0, .ref (g.2.1 2)), (1, .int v1)] → bk_Tr_clear_2 n2 s v1 = some res → W p l e rm_Tr_clear sv m args below meth c H locs 0 0 Q (F0 m 2 ls []) := by
    intro n2
    induction n2 with
    | zero =>
      intro ws H locs ls s v1 hw hR hl h
      exact absurd h (by simp [bk_Tr_clear_2])
    | succ n2 ih2 =>
      have L10 : ∀ (n10 : Nat) (ws : va_W) (H : Heap) (locs : List Loc) (ls : Array Slot) (s : CS) (v1 : Int32) (v2 : Int32), ct_Wd g A sv ws H locs → cs_Rel g ws0 ws s → lv_has ls 3 [(0, .ref (g.2.1 2)), (1, .int v1), (2, .int v2)] → bk_Tr_clear_10 (bk_Tr_clear_2 n2) n10 s v1 v2 = some res → W p l e rm_Tr_clear sv m args below meth c H locs 0 0 Q (F0 m 10 ls []) := by
        intro n10
        induction n10 with
        | zero =>
          intro ws H locs ls s v1 v2 hw hR hl h
          exact absurd h (by simp [bk_Tr_clear_10])
        | succ n10 ih10 =>
          intro ws H locs ls s v1 v2 hw hR hl h
          have h : bk_Tr_clear_10_o (bk_Tr_clear_2 n2) (bk_Tr_clear_10 (bk_Tr_clear_2 n2) n10) s v1 v2 = some res := h
          unfold bk_Tr_clear_10_o at h
          refine lv_iload_n hx hb d_Tr_clear_10 rfl (lv_at hl 2 rfl) ?_
          refine lv_bipush (v := 6) hx hb d_Tr_clear_11 (by decide) ?_
          refine lv_icmp_ge hx hb (tgt := 31) d_Tr_clear_13 (by decide) (fun hc9 => ?_) (fun hc9 => ?_)
          · rw [if_pos hc9] at h
            refine lv_iinc (v := v1 + 1) (k := 1) (lv' := [(1, .int (v1 + 1)), (0, .ref (g.2.1 2)), (2, .int v2)]) hx hb d_Tr_clear_31 hl rfl rfl (by decide) rfl (fun ls hl => ?_)
            refine lv_goto hx hb (tgt := 2) d_Tr_clear_34 (by decide) ?_
            exact ih2 ws H locs ls s (v1 + 1) hw hR (lv_sub hl [1, 0] rfl) h
          · rw [if_neg hc9] at h
            refine lv_aload_n hx hb d_Tr_clear_16 rfl (lv_at hl 0 rfl) ?_
            refine gf_Tr_11 C0 hw hR d_Tr_clear_17 ?_
            refine lv_iload_n hx hb d_Tr_clear_20 rfl (lv_at hl 1 rfl) ?_
            obtain ⟨hg21, h⟩ := ct_gd_some h
            refine ct_ldoc C0 hw hR (ct_inR_vp hg21) d_Tr_clear_21 ?_
            refine lv_iload_n hx hb d_Tr_clear_22 rfl (lv_at hl 2 rfl) ?_
            refine lv_iconst (v := 0) hx hb d_Tr_clear_23 (by decide) ?_
            obtain ⟨hg24, h⟩ := ct_gd_some h
            refine ct_strw C0 hw hR (ct_inR_lt hg21) (ct_inR_vp hg24) d_Tr_clear_24 (fun ws H locs hw hR => ?_)
            obtain ⟨s1, es9, h⟩ := ct_nm_ex h
            rw [← es9] at hR
            clear es9
            refine lv_iinc (v := v2 + 1) (k := 2) (lv' := [(2, .int (v2 + 1)), (0, .ref (g.2.1 2)), (1, .int v1)]) hx hb d_Tr_clear_25 hl rfl rfl (by decide) rfl (fun ls hl => ?_)
            refine lv_goto hx hb (tgt := 10) d_Tr_clear_28 (by decide) ?_
            exact ih10 ws H locs ls s1 v1 (v2 + 1) hw hR (lv_sub hl [1, 2, 0] rfl) h
      intro ws H locs ls s v1 hw hR hl h
      have h : bk_Tr_clear_2_o (bk_Tr_clear_2 n2) s v1 = some res := h
      unfold bk_Tr_clear_2_o at h
      refine lv_iload_n hx hb d_Tr_clear_2 rfl (lv_at hl 1 rfl) ?_
      refine lv_bipush (v := 6) hx hb d_Tr_clear_3 (by decide) ?_
      refine lv_icmp_ge hx hb (tgt := 37) d_Tr_clear_5 (by decide) (fun hc9 => ?_) (fun hc9 => ?_)
      · rw [if_pos hc9] at h
        obtain rfl := Option.some.inj h
        exact hret hw hR d_Tr_clear_37
      · rw [if_neg hc9] at h
        refine lv_iconst (v := 0) hx hb d_Tr_clear_8 (by decide) ?_
        refine lv_istore_n (lv' := [(2, .int 0), (0, .ref (g.2.1 2)), (1, .int v1)]) hx hb d_Tr_clear_9 rfl hl (by decide) rfl (fun ls hl => ?_)
        exact L10 200 ws H locs ls s v1 0 hw hR (lv_sub hl [1, 2, 0] rfl) h
  unfold fn_Tr_clear at h
  obtain ⟨ws, hwe⟩ : ∃ z : va_W, z = ws0 := ⟨_, rfl⟩
  rw [← hwe] at hw
  have hR : cs_Rel g ws0 ws s := by rw [hwe]; exact hR
  clear hwe
  refine lv_iconst (v := 0) hx hb d_Tr_clear_0 (by decide) ?_
  refine lv_istore_n (lv' := [(1, .int 0), (0, .ref (g.2.1 2))]) hx hb d_Tr_clear_1 rfl hl (by decide) rfl (fun ls hl => ?_)
  exact L2 200 ws H locs ls s 0 hw hR (lv_sub hl [1, 0] rfl) h

theorem d_Le_livesIn_0 : decode c_Le_livesIn 0 = .ok (.aload_n 0, 1) := by decide +kernel
theorem d_Le_livesIn_1 : decode c_Le_livesIn 1 = .ok (.getfield 28, 3) := by decide +kernel
theorem d_Le_livesIn_4 : decode c_Le_livesIn 4 = .ok (.iload_n 1, 1) := by decide +kernel
theorem d_Le_livesIn_5 : decode c_Le_livesIn 5 = .ok (.baload, 1) := by decide +kernel
theorem d_Le_livesIn_6 : decode c_Le_livesIn 6 = .ok (.ifCond .eq 17, 3) := by decide +kernel
theorem d_Le_livesIn_9 : decode c_Le_livesIn 9 = .ok (.aload_n 0, 1) := by decide +kernel
theorem d_Le_livesIn_10 : decode c_Le_livesIn 10 = .ok (.getfield 9, 3) := by decide +kernel
theorem d_Le_livesIn_13 : decode c_Le_livesIn 13 = .ok (.iload_n 1, 1) := by decide +kernel
theorem d_Le_livesIn_14 : decode c_Le_livesIn 14 = .ok (.iaload, 1) := by decide +kernel
theorem d_Le_livesIn_15 : decode c_Le_livesIn 15 = .ok (.iload_n 2, 1) := by decide +kernel
theorem d_Le_livesIn_16 : decode c_Le_livesIn 16 = .ok (.if_icmp .ne 7, 3) := by decide +kernel
theorem d_Le_livesIn_19 : decode c_Le_livesIn 19 = .ok (.iconst 1, 1) := by decide +kernel
theorem d_Le_livesIn_20 : decode c_Le_livesIn 20 = .ok (.goto 4, 3) := by decide +kernel
theorem d_Le_livesIn_23 : decode c_Le_livesIn 23 = .ok (.iconst 0, 1) := by decide +kernel
theorem d_Le_livesIn_24 : decode c_Le_livesIn 24 = .ok (.ireturn, 1) := by decide +kernel
set_option maxHeartbeats 4000000 in
set_option maxRecDepth 100000 in
theorem s_Le_livesIn (l : Launch) (g : Gx) (ws0 : va_W) (sz : Nat) {s : CS} {a1 : Int32} {a2 : Int32} {res : Int32} (hR : cs_Rel g ws0 ws0 s) (h : fn_Le_livesIn s a1 a2 = some res) : ct_MI l y_Le_livesIn c_Le_livesIn 3 (some .boolean) rm_Le_livesIn g ws0 sz [.ref (g.2.1 1), .int a1, .int a2] res (fun u => u = ws0) := by
  refine ct_startz (by decide +kernel) (Nat.le_of_ble_eq_true rfl) (fun p e sv m args below meth c ls Q A H locs C0 hret hl hw => ?_)
  have hx := C0.1
  have hb := C0.2.1
  have hown := C0.2.2.2.1
  have hts := C0.2.2.2.2.1
  have hl : lv_has ls 3 [(0, .ref (g.2.1 1)), (1, .int a1), (2, .int a2)] := hl
  unfold fn_Le_livesIn at h
  refine lv_aload_n hx hb d_Le_livesIn_0 rfl (lv_at hl 0 rfl) ?_
  refine gf_Le_28 C0 hw hR d_Le_livesIn_1 ?_
  refine lv_iload_n hx hb d_Le_livesIn_4 rfl (lv_at hl 1 rfl) ?_
  obtain ⟨hg5, h⟩ := ct_gd_some h
  refine ct_ldZ (k := 5) C0 hw hR (by decide) (by decide) (ct_inR_vp hg5) d_Le_livesIn_5 ?_
  refine lv_if_eq hx hb (tgt := 23) d_Le_livesIn_6 (by decide) (fun hc9 => ?_) (fun hc9 => ?_)
  · rw [if_pos hc9] at h
    refine lv_iconst (v := 0) hx hb d_Le_livesIn_23 (by decide) ?_
    have hz : ct_isB 0 = true := by decide
    obtain rfl := Option.some.inj h
    exact hret hz hw rfl d_Le_livesIn_24
  · rw [if_neg hc9] at h
    refine lv_aload_n hx hb d_Le_livesIn_9 rfl (lv_at hl 0 rfl) ?_
    refine gf_Le_9 C0 hw hR d_Le_livesIn_10 ?_
    refine lv_iload_n hx hb d_Le_livesIn_13 rfl (lv_at hl 1 rfl) ?_
    obtain ⟨hg14, h⟩ := ct_gd_some h
    refine ct_ldA (k := 0) C0 hw hR (by decide) (ct_inR_vp hg14) d_Le_livesIn_14 ?_
    refine lv_iload_n hx hb d_Le_livesIn_15 rfl (lv_at hl 2 rfl) ?_
    refine lv_icmp_ne hx hb (tgt := 23) d_Le_livesIn_16 (by decide) (fun hc9 => ?_) (fun hc9 => ?_)
    · rw [if_pos hc9] at h
      refine lv_iconst (v := 0) hx hb d_Le_livesIn_23 (by decide) ?_
      have hz : ct_isB 0 = true := by decide
      obtain rfl := Option.some.inj h
      exact hret hz hw rfl d_Le_livesIn_24
    · rw [if_neg hc9] at h
      refine lv_iconst (v := 1) hx hb d_Le_livesIn_19 (by decide) ?_
      refine lv_goto hx hb (tgt := 24) d_Le_livesIn_20 (by decide) ?_
      have hz : ct_isB 1 = true := by decide
      obtain rfl := Option.some.inj h
      exact hret hz hw rfl d_Le_livesIn_24

theorem d_Tr_add_0 : decode c_Tr_add 0 = .ok (.iload_n 1, 1) := by decide +kernel
theorem d_Tr_add_1 : decode c_Tr_add 1 = .ok (.aload_n 0, 1) := by decide +kernel
theorem d_Tr_add_2 : decode c_Tr_add 2 = .ok (.getfield 24, 3) := by decide +kernel
theorem d_Tr_add_5 : decode c_Tr_add 5 = .ok (.idiv, 1) := by decide +kernel
theorem d_Tr_add_6 : decode c_Tr_add 6 = .ok (.istore 4, 2) := by decide +kernel
theorem d_Tr_add_8 : decode c_Tr_add 8 = .ok (.iload_n 2, 1) := by decide +kernel
theorem d_Tr_add_9 : decode c_Tr_add 9 = .ok (.aload_n 0, 1) := by decide +kernel
theorem d_Tr_add_10 : decode c_Tr_add 10 = .ok (.getfield 24, 3) := by decide +kernel
theorem d_Tr_add_13 : decode c_Tr_add 13 = .ok (.idiv, 1) := by decide +kernel
theorem d_Tr_add_14 : decode c_Tr_add 14 = .ok (.istore 5, 2) := by decide +kernel
theorem d_Tr_add_16 : decode c_Tr_add 16 = .ok (.iload 5, 2) := by decide +kernel
theorem d_Tr_add_18 : decode c_Tr_add 18 = .ok (.aload_n 0, 1) := by decide +kernel
theorem d_Tr_add_19 : decode c_Tr_add 19 = .ok (.getfield 31, 3) := by decide +kernel
theorem d_Tr_add_22 : decode c_Tr_add 22 = .ok (.if_icmp .ge 20, 3) := by decide +kernel
theorem d_Tr_add_25 : decode c_Tr_add 25 = .ok (.aload_n 0, 1) := by decide +kernel
theorem d_Tr_add_26 : decode c_Tr_add 26 = .ok (.getfield 11, 3) := by decide +kernel
theorem d_Tr_add_29 : decode c_Tr_add 29 = .ok (.iload 4, 2) := by decide +kernel
theorem d_Tr_add_31 : decode c_Tr_add 31 = .ok (.aaload, 1) := by decide +kernel
theorem d_Tr_add_32 : decode c_Tr_add 32 = .ok (.iload 5, 2) := by decide +kernel
theorem d_Tr_add_34 : decode c_Tr_add 34 = .ok (.iload 4, 2) := by decide +kernel
theorem d_Tr_add_36 : decode c_Tr_add 36 = .ok (.isub, 1) := by decide +kernel
theorem d_Tr_add_37 : decode c_Tr_add 37 = .ok (.dup2, 1) := by decide +kernel
theorem d_Tr_add_38 : decode c_Tr_add 38 = .ok (.iaload, 1) := by decide +kernel
theorem d_Tr_add_39 : decode c_Tr_add 39 = .ok (.iload_n 3, 1) := by decide +kernel
theorem d_Tr_add_40 : decode c_Tr_add 40 = .ok (.iadd, 1) := by decide +kernel
theorem d_Tr_add_41 : decode c_Tr_add 41 = .ok (.iastore, 1) := by decide +kernel
theorem d_Tr_add_42 : decode c_Tr_add 42 = .ok (.return_, 1) := by decide +kernel
set_option maxHeartbeats 4000000 in
set_option maxRecDepth 100000 in
theorem s_Tr_add (l : Launch) (g : Gx) (ws0 : va_W) (sz : Nat) {s : CS} {a1 : Int32} {a2 : Int32} {a3 : Int32} {res : CS} (hR : cs_Rel g ws0 ws0 s) (h : fn_Tr_add s a1 a2 a3 = some res) : ct_MV l y_Tr_add c_Tr_add 6 none rm_Tr_add g ws0 sz [.ref (g.2.1 2), .int a1, .int a2, .int a3]  (fun u => cs_Rel g ws0 u res) := by
  refine ct_startv (by decide +kernel) (Nat.le_of_ble_eq_true rfl) (fun p e sv m args below meth c ls Q A H locs C0 hret hl hw => ?_)
  have hx := C0.1
  have hb := C0.2.1
  have hown := C0.2.2.2.1
  have hts := C0.2.2.2.2.1
  have hl : lv_has ls 6 [(0, .ref (g.2.1 2)), (1, .int a1), (2, .int a2), (3, .int a3)] := hl
  unfold fn_Tr_add at h
  obtain ⟨ws, hwe⟩ : ∃ z : va_W, z = ws0 := ⟨_, rfl⟩
  rw [← hwe] at hw
  have hR : cs_Rel g ws0 ws s := by rw [hwe]; exact hR
  clear hwe
  refine lv_iload_n hx hb d_Tr_add_0 rfl (lv_at hl 1 rfl) ?_
  refine lv_aload_n hx hb d_Tr_add_1 rfl (lv_at hl 0 rfl) ?_
  refine gf_Tr_24 C0 hw hR d_Tr_add_2 ?_
  obtain ⟨hg, h⟩ := ct_gd_some h
  refine lv_idiv hx hb d_Tr_add_5 (ct_gzI_ne hg) ?_
  refine lv_topi (fun x1 e9 => ?_)
  have h := ct_nm_at h e9
  clear e9
  refine lv_istore (lv' := [(4, .int x1), (0, .ref (g.2.1 2)), (1, .int a1), (2, .int a2), (3, .int a3)]) hx hb d_Tr_add_6 hl (by decide) rfl (fun ls hl => ?_)
  refine lv_iload_n hx hb d_Tr_add_8 rfl (lv_at hl 3 rfl) ?_
  refine lv_aload_n hx hb d_Tr_add_9 rfl (lv_at hl 1 rfl) ?_
  refine gf_Tr_24 C0 hw hR d_Tr_add_10 ?_
  obtain ⟨hg, h⟩ := ct_gd_some h
  refine lv_idiv hx hb d_Tr_add_13 (ct_gzI_ne hg) ?_
  refine lv_topi (fun x2 e9 => ?_)
  have h := ct_nm_at h e9
  clear e9
  refine lv_istore (lv' := [(5, .int x2), (4, .int x1), (0, .ref (g.2.1 2)), (1, .int a1), (2, .int a2), (3, .int a3)]) hx hb d_Tr_add_14 hl (by decide) rfl (fun ls hl => ?_)
  refine lv_iload hx hb d_Tr_add_16 (lv_at hl 0 rfl) ?_
  refine lv_aload_n hx hb d_Tr_add_18 rfl (lv_at hl 2 rfl) ?_
  refine gf_Tr_31 C0 hw hR d_Tr_add_19 ?_
  refine lv_icmp_ge hx hb (tgt := 42) d_Tr_add_22 (by decide) (fun hc9 => ?_) (fun hc9 => ?_)
  · rw [if_pos hc9] at h
    obtain rfl := Option.some.inj h
    exact hret hw hR d_Tr_add_42
  · rw [if_neg hc9] at h
    refine lv_aload_n hx hb d_Tr_add_25 rfl (lv_at hl 2 rfl) ?_
    refine gf_Tr_11 C0 hw hR d_Tr_add_26 ?_
    refine lv_iload hx hb d_Tr_add_29 (lv_at hl 1 rfl) ?_
    obtain ⟨hg31, h⟩ := ct_gd_some h
    refine ct_ldoc C0 hw hR (ct_inR_vp hg31) d_Tr_add_31 ?_
    refine lv_iload hx hb d_Tr_add_32 (lv_at hl 0 rfl) ?_
    refine lv_iload hx hb d_Tr_add_34 (lv_at hl 1 rfl) ?_
    refine lv_isub hx hb d_Tr_add_36 ?_
    refine lv_dup2_11 hx hb d_Tr_add_37 rfl rfl ?_
    obtain ⟨hg38, h⟩ := ct_gd_some h
    refine ct_ldrw C0 hw hR (ct_inR_lt hg31) (ct_inR_vp hg38) d_Tr_add_38 ?_
    refine lv_iload_n hx hb d_Tr_add_39 rfl (lv_at hl 5 rfl) ?_
    refine lv_iadd hx hb d_Tr_add_40 ?_
    obtain ⟨hg41, h⟩ := ct_gd_some h
    refine ct_strw C0 hw hR (ct_inR_lt hg31) (ct_inR_vp hg41) d_Tr_add_41 (fun ws H locs hw hR => ?_)
    obtain ⟨s3, es9, h⟩ := ct_nm_ex h
    rw [← es9] at hR
    clear es9
    obtain rfl := Option.some.inj h
    exact hret hw hR d_Tr_add_42

theorem d_Le_replaces_0 : decode c_Le_replaces 0 = .ok (.aload_n 0, 1) := by decide +kernel
theorem d_Le_replaces_1 : decode c_Le_replaces 1 = .ok (.getfield 24, 3) := by decide +kernel
theorem d_Le_replaces_4 : decode c_Le_replaces 4 = .ok (.iload_n 1, 1) := by decide +kernel
theorem d_Le_replaces_5 : decode c_Le_replaces 5 = .ok (.baload, 1) := by decide +kernel
theorem d_Le_replaces_6 : decode c_Le_replaces 6 = .ok (.ifCond .eq 17, 3) := by decide +kernel
theorem d_Le_replaces_9 : decode c_Le_replaces 9 = .ok (.aload_n 0, 1) := by decide +kernel
theorem d_Le_replaces_10 : decode c_Le_replaces 10 = .ok (.iload_n 1, 1) := by decide +kernel
theorem d_Le_replaces_11 : decode c_Le_replaces 11 = .ok (.aload_n 0, 1) := by decide +kernel
theorem d_Le_replaces_12 : decode c_Le_replaces 12 = .ok (.getfield 9, 3) := by decide +kernel
theorem d_Le_replaces_15 : decode c_Le_replaces 15 = .ok (.iload_n 2, 1) := by decide +kernel
theorem d_Le_replaces_16 : decode c_Le_replaces 16 = .ok (.iaload, 1) := by decide +kernel
theorem d_Le_replaces_17 : decode c_Le_replaces 17 = .ok (.invokevirtual 35, 3) := by decide +kernel
theorem d_Le_replaces_20 : decode c_Le_replaces 20 = .ok (.ifCond .ne 5, 3) := by decide +kernel
theorem d_Le_replaces_23 : decode c_Le_replaces 23 = .ok (.iconst 0, 1) := by decide +kernel
theorem d_Le_replaces_24 : decode c_Le_replaces 24 = .ok (.ireturn, 1) := by decide +kernel
theorem d_Le_replaces_25 : decode c_Le_replaces 25 = .ok (.aload_n 0, 1) := by decide +kernel
theorem d_Le_replaces_26 : decode c_Le_replaces 26 = .ok (.getfield 15, 3) := by decide +kernel
theorem d_Le_replaces_29 : decode c_Le_replaces 29 = .ok (.iload_n 1, 1) := by decide +kernel
theorem d_Le_replaces_30 : decode c_Le_replaces 30 = .ok (.iaload, 1) := by decide +kernel
theorem d_Le_replaces_31 : decode c_Le_replaces 31 = .ok (.aload_n 0, 1) := by decide +kernel
theorem d_Le_replaces_32 : decode c_Le_replaces 32 = .ok (.getfield 15, 3) := by decide +kernel
theorem d_Le_replaces_35 : decode c_Le_replaces 35 = .ok (.iload_n 2, 1) := by decide +kernel
theorem d_Le_replaces_36 : decode c_Le_replaces 36 = .ok (.iaload, 1) := by decide +kernel
theorem d_Le_replaces_37 : decode c_Le_replaces 37 = .ok (.if_icmp .eq 5, 3) := by decide +kernel
theorem d_Le_replaces_40 : decode c_Le_replaces 40 = .ok (.iconst 0, 1) := by decide +kernel
theorem d_Le_replaces_41 : decode c_Le_replaces 41 = .ok (.ireturn, 1) := by decide +kernel
theorem d_Le_replaces_42 : decode c_Le_replaces 42 = .ok (.aload_n 0, 1) := by decide +kernel
theorem d_Le_replaces_43 : decode c_Le_replaces 43 = .ok (.getfield 18, 3) := by decide +kernel
theorem d_Le_replaces_46 : decode c_Le_replaces 46 = .ok (.iload_n 1, 1) := by decide +kernel
theorem d_Le_replaces_47 : decode c_Le_replaces 47 = .ok (.iaload, 1) := by decide +kernel
theorem d_Le_replaces_48 : decode c_Le_replaces 48 = .ok (.aload_n 0, 1) := by decide +kernel
theorem d_Le_replaces_49 : decode c_Le_replaces 49 = .ok (.getfield 18, 3) := by decide +kernel
theorem d_Le_replaces_52 : decode c_Le_replaces 52 = .ok (.iload_n 2, 1) := by decide +kernel
theorem d_Le_replaces_53 : decode c_Le_replaces 53 = .ok (.iaload, 1) := by decide +kernel
theorem d_Le_replaces_54 : decode c_Le_replaces 54 = .ok (.if_icmp .gt 23, 3) := by decide +kernel
theorem d_Le_replaces_57 : decode c_Le_replaces 57 = .ok (.aload_n 0, 1) := by decide +kernel
theorem d_Le_replaces_58 : decode c_Le_replaces 58 = .ok (.getfield 18, 3) := by decide +kernel
theorem d_Le_replaces_61 : decode c_Le_replaces 61 = .ok (.iload_n 1, 1) := by decide +kernel
theorem d_Le_replaces_62 : decode c_Le_replaces 62 = .ok (.iaload, 1) := by decide +kernel
theorem d_Le_replaces_63 : decode c_Le_replaces 63 = .ok (.aload_n 0, 1) := by decide +kernel
theorem d_Le_replaces_64 : decode c_Le_replaces 64 = .ok (.getfield 18, 3) := by decide +kernel
theorem d_Le_replaces_67 : decode c_Le_replaces 67 = .ok (.iload_n 2, 1) := by decide +kernel
theorem d_Le_replaces_68 : decode c_Le_replaces 68 = .ok (.iaload, 1) := by decide +kernel
theorem d_Le_replaces_69 : decode c_Le_replaces 69 = .ok (.if_icmp .ne 12, 3) := by decide +kernel
theorem d_Le_replaces_72 : decode c_Le_replaces 72 = .ok (.iload_n 1, 1) := by decide +kernel
theorem d_Le_replaces_73 : decode c_Le_replaces 73 = .ok (.iload_n 2, 1) := by decide +kernel
theorem d_Le_replaces_74 : decode c_Le_replaces 74 = .ok (.if_icmp .le 7, 3) := by decide +kernel
theorem d_Le_replaces_77 : decode c_Le_replaces 77 = .ok (.iconst 1, 1) := by decide +kernel
theorem d_Le_replaces_78 : decode c_Le_replaces 78 = .ok (.goto 4, 3) := by decide +kernel
theorem d_Le_replaces_81 : decode c_Le_replaces 81 = .ok (.iconst 0, 1) := by decide +kernel
theorem d_Le_replaces_82 : decode c_Le_replaces 82 = .ok (.ireturn, 1) := by decide +kernel
set_option maxHeartbeats 4000000 in
set_option maxRecDepth 100000 in
theorem s_Le_replaces (l : Launch) (g : Gx) (ws0 : va_W) (sz : Nat) {s : CS} {a1 : Int32} {a2 : Int32} {res : Int32} (hR : cs_Rel g ws0 ws0 s) (h : fn_Le_replaces s a1 a2 = some res) : ct_MI l y_Le_replaces c_Le_replaces 3 (some .boolean) rm_Le_replaces g ws0 sz [.ref (g.2.1 1), .int a1, .int a2] res (fun u => u = ws0) := by
  refine ct_startz (by decide +kernel) (Nat.le_of_ble_eq_true rfl) (fun p e sv m args below meth c ls Q A H locs C0 hret hl hw => ?_)
  have hx := C0.1
  have hb := C0.2.1
  have hown := C0.2.2.2.1
  have hts := C0.2.2.2.2.1
  have hl : lv_has ls 3 [(0, .ref (g.2.1 1)), (1, .int a1), (2, .int a2)] := hl
  unfold fn_Le_replaces at h
  refine lv_aload_n hx hb d_Le_replaces_0 rfl (lv_at hl 0 rfl) ?_
  refine gf_Le_24 C0 hw hR d_Le_replaces_1 ?_
  refine lv_iload_n hx hb d_Le_replaces_4 rfl (lv_at hl 1 rfl) ?_
  obtain ⟨hg5, h⟩ := ct_gd_some h
  refine ct_ldZ (k := 4) C0 hw hR (by decide) (by decide) (ct_inR_vp hg5) d_Le_replaces_5 ?_
  refine lv_if_eq hx hb (tgt := 23) d_Le_replaces_6 (by decide) (fun hc9 => ?_) (fun hc9 => ?_)
  · rw [if_pos hc9] at h
    refine lv_iconst (v := 0) hx hb d_Le_replaces_23 (by decide) ?_
    have hz : ct_isB 0 = true := by decide
    obtain rfl := Option.some.inj h
    exact hret hz hw rfl d_Le_replaces_24
  · rw [if_neg hc9] at h
    refine lv_aload_n hx hb d_Le_replaces_9 rfl (lv_at hl 0 rfl) ?_
    refine lv_iload_n hx hb d_Le_replaces_10 rfl (lv_at hl 1 rfl) ?_
    refine lv_aload_n hx hb d_Le_replaces_11 rfl (lv_at hl 0 rfl) ?_
    refine gf_Le_9 C0 hw hR d_Le_replaces_12 ?_
    refine lv_iload_n hx hb d_Le_replaces_15 rfl (lv_at hl 2 rfl) ?_
    obtain ⟨hg16, h⟩ := ct_gd_some h
    refine ct_ldA (k := 0) C0 hw hR (by decide) (ct_inR_vp hg16) d_Le_replaces_16 ?_
    obtain ⟨x1, ho, h⟩ := ct_ob_some h
    refine ct_callVi C0 hw hl.1 (q0 := 1) (hR.1 1 (by decide)) rfl (ct_giV wd_339 wd_320 wd_321 wd_2 wd_322) (fun sz => s_Le_livesIn l g ws0 sz hR.rf ho) (by decide +kernel) ⟨rfl, rfl⟩ (by decide) (by decide) (As := [.int a1, .int (cs_A s 0 a2.toNatClampNeg)]) (rest := []) rfl (Nat.le_of_ble_eq_true rfl) d_Le_replaces_17 (fun ws1 H locs hw hp => ?_)
    rw [hp] at hw
    clear hp
    refine lv_if_ne hx hb (tgt := 25) d_Le_replaces_20 (by decide) (fun hc9 => ?_) (fun hc9 => ?_)
    · rw [if_pos hc9] at h
      refine lv_aload_n hx hb d_Le_replaces_25 rfl (lv_at hl 0 rfl) ?_
      refine gf_Le_15 C0 hw hR d_Le_replaces_26 ?_
      refine lv_iload_n hx hb d_Le_replaces_29 rfl (lv_at hl 1 rfl) ?_
      obtain ⟨hg30, h⟩ := ct_gd_some h
      refine ct_ldA (k := 1) C0 hw hR (by decide) (ct_inR_vp hg30) d_Le_replaces_30 ?_
      refine lv_aload_n hx hb d_Le_replaces_31 rfl (lv_at hl 0 rfl) ?_
      refine gf_Le_15 C0 hw hR d_Le_replaces_32 ?_
      refine lv_iload_n hx hb d_Le_replaces_35 rfl (lv_at hl 2 rfl) ?_
      obtain ⟨hg36, h⟩ := ct_gd_some h
      refine ct_ldA (k := 1) C0 hw hR (by decide) (ct_inR_vp hg36) d_Le_replaces_36 ?_
      refine lv_icmp_eq hx hb (tgt := 42) d_Le_replaces_37 (by decide) (fun hc9 => ?_) (fun hc9 => ?_)
      · rw [if_pos hc9] at h
        refine lv_aload_n hx hb d_Le_replaces_42 rfl (lv_at hl 0 rfl) ?_
        refine gf_Le_18 C0 hw hR d_Le_replaces_43 ?_
        refine lv_iload_n hx hb d_Le_replaces_46 rfl (lv_at hl 1 rfl) ?_
        obtain ⟨hg47, h⟩ := ct_gd_some h
        refine ct_ldA (k := 2) C0 hw hR (by decide) (ct_inR_vp hg47) d_Le_replaces_47 ?_
        refine lv_aload_n hx hb d_Le_replaces_48 rfl (lv_at hl 0 rfl) ?_
        refine gf_Le_18 C0 hw hR d_Le_replaces_49 ?_
        refine lv_iload_n hx hb d_Le_replaces_52 rfl (lv_at hl 2 rfl) ?_
        obtain ⟨hg53, h⟩ := ct_gd_some h
        refine ct_ldA (k := 2) C0 hw hR (by decide) (ct_inR_vp hg53) d_Le_replaces_53 ?_
        refine lv_icmp_gt hx hb (tgt := 77) d_Le_replaces_54 (by decide) (fun hc9 => ?_) (fun hc9 => ?_)
        · rw [if_pos hc9] at h
          refine lv_iconst (v := 1) hx hb d_Le_replaces_77 (by decide) ?_
          refine lv_goto hx hb (tgt := 82) d_Le_replaces_78 (by decide) ?_
          have hz : ct_isB 1 = true := by decide
          obtain rfl := Option.some.inj h
          exact hret hz hw rfl d_Le_replaces_82
        · rw [if_neg hc9] at h
          refine lv_aload_n hx hb d_Le_replaces_57 rfl (lv_at hl 0 rfl) ?_
          refine gf_Le_18 C0 hw hR d_Le_replaces_58 ?_
          refine lv_iload_n hx hb d_Le_replaces_61 rfl (lv_at hl 1 rfl) ?_
          obtain ⟨hg62, h⟩ := ct_gd_some h
          refine ct_ldA (k := 2) C0 hw hR (by decide) (ct_inR_vp hg62) d_Le_replaces_62 ?_
          refine lv_aload_n hx hb d_Le_replaces_63 rfl (lv_at hl 0 rfl) ?_
          refine gf_Le_18 C0 hw hR d_Le_replaces_64 ?_
          refine lv_iload_n hx hb d_Le_replaces_67 rfl (lv_at hl 2 rfl) ?_
          obtain ⟨hg68, h⟩ := ct_gd_some h
          refine ct_ldA (k := 2) C0 hw hR (by decide) (ct_inR_vp hg68) d_Le_replaces_68 ?_
          refine lv_icmp_ne hx hb (tgt := 81) d_Le_replaces_69 (by decide) (fun hc9 => ?_) (fun hc9 => ?_)
          · rw [if_pos hc9] at h
            refine lv_iconst (v := 0) hx hb d_Le_replaces_81 (by decide) ?_
            have hz : ct_isB 0 = true := by decide
            obtain rfl := Option.some.inj h
            exact hret hz hw rfl d_Le_replaces_82
          · rw [if_neg hc9] at h
            refine lv_iload_n hx hb d_Le_replaces_72 rfl (lv_at hl 1 rfl) ?_
            refine lv_iload_n hx hb d_Le_replaces_73 rfl (lv_at hl 2 rfl) ?_
            refine lv_icmp_le hx hb (tgt := 81) d_Le_replaces_74 (by decide) (fun hc9 => ?_) (fun hc9 => ?_)
            · rw [if_pos hc9] at h
              refine lv_iconst (v := 0) hx hb d_Le_replaces_81 (by decide) ?_
              have hz : ct_isB 0 = true := by decide
              obtain rfl := Option.some.inj h
              exact hret hz hw rfl d_Le_replaces_82
            · rw [if_neg hc9] at h
              refine lv_iconst (v := 1) hx hb d_Le_replaces_77 (by decide) ?_
              refine lv_goto hx hb (tgt := 82) d_Le_replaces_78 (by decide) ?_
              have hz : ct_isB 1 = true := by decide
              obtain rfl := Option.some.inj h
              exact hret hz hw rfl d_Le_replaces_82
      · rw [if_neg hc9] at h
        refine lv_iconst (v := 0) hx hb d_Le_replaces_40 (by decide) ?_
        have hz : ct_isB 0 = true := by decide
        obtain rfl := Option.some.inj h
        exact hret hz hw rfl d_Le_replaces_41
    · rw [if_neg hc9] at h
      refine lv_iconst (v := 0) hx hb d_Le_replaces_23 (by decide) ?_
      have hz : ct_isB 0 = true := by decide
      obtain rfl := Option.some.inj h
      exact hret hz hw rfl d_Le_replaces_24

theorem d_Le_replacedIn_0 : decode c_Le_replacedIn 0 = .ok (.bipush 72, 2) := by decide +kernel
theorem d_Le_replacedIn_2 : decode c_Le_replacedIn 2 = .ok (.istore_n 2, 1) := by decide +kernel
theorem d_Le_replacedIn_3 : decode c_Le_replacedIn 3 = .ok (.iconst 0, 1) := by decide +kernel
theorem d_Le_replacedIn_4 : decode c_Le_replacedIn 4 = .ok (.istore_n 3, 1) := by decide +kernel
theorem d_Le_replacedIn_5 : decode c_Le_replacedIn 5 = .ok (.iload_n 3, 1) := by decide +kernel
theorem d_Le_replacedIn_6 : decode c_Le_replacedIn 6 = .ok (.aload_n 0, 1) := by decide +kernel
theorem d_Le_replacedIn_7 : decode c_Le_replacedIn 7 = .ok (.getfield 31, 3) := by decide +kernel
theorem d_Le_replacedIn_10 : decode c_Le_replacedIn 10 = .ok (.if_icmp .ge 35, 3) := by decide +kernel
theorem d_Le_replacedIn_13 : decode c_Le_replacedIn 13 = .ok (.aload_n 0, 1) := by decide +kernel
theorem d_Le_replacedIn_14 : decode c_Le_replacedIn 14 = .ok (.iload_n 3, 1) := by decide +kernel
theorem d_Le_replacedIn_15 : decode c_Le_replacedIn 15 = .ok (.iload_n 1, 1) := by decide +kernel
theorem d_Le_replacedIn_16 : decode c_Le_replacedIn 16 = .ok (.invokevirtual 39, 3) := by decide +kernel
theorem d_Le_replacedIn_19 : decode c_Le_replacedIn 19 = .ok (.ifCond .eq 20, 3) := by decide +kernel
theorem d_Le_replacedIn_22 : decode c_Le_replacedIn 22 = .ok (.aload_n 0, 1) := by decide +kernel
theorem d_Le_replacedIn_23 : decode c_Le_replacedIn 23 = .ok (.getfield 18, 3) := by decide +kernel
theorem d_Le_replacedIn_26 : decode c_Le_replacedIn 26 = .ok (.iload_n 3, 1) := by decide +kernel
theorem d_Le_replacedIn_27 : decode c_Le_replacedIn 27 = .ok (.iaload, 1) := by decide +kernel
theorem d_Le_replacedIn_28 : decode c_Le_replacedIn 28 = .ok (.iload_n 2, 1) := by decide +kernel
theorem d_Le_replacedIn_29 : decode c_Le_replacedIn 29 = .ok (.if_icmp .ge 10, 3) := by decide +kernel
theorem d_Le_replacedIn_32 : decode c_Le_replacedIn 32 = .ok (.aload_n 0, 1) := by decide +kernel
theorem d_Le_replacedIn_33 : decode c_Le_replacedIn 33 = .ok (.getfield 18, 3) := by decide +kernel
theorem d_Le_replacedIn_36 : decode c_Le_replacedIn 36 = .ok (.iload_n 3, 1) := by decide +kernel
theorem d_Le_replacedIn_37 : decode c_Le_replacedIn 37 = .ok (.iaload, 1) := by decide +kernel
theorem d_Le_replacedIn_38 : decode c_Le_replacedIn 38 = .ok (.istore_n 2, 1) := by decide +kernel
theorem d_Le_replacedIn_39 : decode c_Le_replacedIn 39 = .ok (.iinc 3 1, 3) := by decide +kernel
theorem d_Le_replacedIn_42 : decode c_Le_replacedIn 42 = .ok (.goto (-37), 3) := by decide +kernel
theorem d_Le_replacedIn_45 : decode c_Le_replacedIn 45 = .ok (.iload_n 2, 1) := by decide +kernel
theorem d_Le_replacedIn_46 : decode c_Le_replacedIn 46 = .ok (.ireturn, 1) := by decide +kernel
set_option maxHeartbeats 4000000 in
set_option maxRecDepth 100000 in
theorem s_Le_replacedIn (l : Launch) (g : Gx) (ws0 : va_W) (sz : Nat) {s : CS} {a1 : Int32} {res : Int32} (hR : cs_Rel g ws0 ws0 s) (h : fn_Le_replacedIn s a1 = some res) : ct_MI l y_Le_replacedIn c_Le_replacedIn 4 (some .int) rm_Le_replacedIn g ws0 sz [.ref (g.2.1 1), .int a1] res (fun u => u = ws0) := by
  refine ct_starti (by decide +kernel) (Nat.le_of_ble_eq_true rfl) (fun p e sv m args below meth c ls Q A H locs C0 hret hl hw => ?_)
  have hx := C0.1
  have hb := C0.2.1
  have hown := C0.2.2.2.1
  have hts := C0.2.2.2.2.1
  have hl : lv_has ls 4 [(0, .ref (g.2.1 1)), (1, .int a1)] := hl
  have L5 : ∀ (n5 : Nat) (H : Heap) (locs : List Loc) (ls : Array Slot) (s : CS) (v2 : Int32) (v3 : Int32), ct_Wd g A sv ws0 H locs → cs_Rel g ws0 ws0 s → lv_has ls 4 [(0, .ref (g.2.1 1)), (1, .int a1), (2, .int v2), (3, .int v3)] → bk_Le_replacedIn_5 a1 n5 s v2 v3 = some res → W p l e rm_Le_replacedIn sv m args below meth c H locs 0 0 Q (F0 m 5 ls []) := by
    intro n5
    induction n5 with
    | zero =>
      intro H locs ls s v2 v3 hw hR hl h
      exact absurd h (by simp [bk_Le_replacedIn_5])
    | succ n5 ih5 =>
      have J39 : ∀ (H : Heap) (locs : List Loc) (ls : Array Slot) (s : CS) (v2 : Int32) (v3 : Int32), ct_Wd g A sv ws0 H locs → cs_Rel g ws0 ws0 s → lv_has ls 4 [(0, .ref (g.2.1 1)), (1, .int a1), (2, .int v2), (3, .int v3)] → bk_Le_replacedIn_39 a1 (bk_Le_replacedIn_5 a1 n5) s v2 v3 = some res → W p l e rm_Le_replacedIn sv m args below meth c H locs 0 0 Q (F0 m 39 ls []) := by
        intro H locs ls s v2 v3 hw hR hl h
        unfold bk_Le_replacedIn_39 at h
        refine lv_iinc (v := v3 + 1) (k := 3) (lv' := [(3, .int (v3 + 1)), (0, .ref (g.2.1 1)), (1, .int a1), (2, .int v2)]) hx hb d_Le_replacedIn_39 hl rfl rfl (by decide) rfl (fun ls hl => ?_)
        refine lv_goto hx hb (tgt := 5) d_Le_replacedIn_42 (by decide) ?_
        exact ih5 H locs ls s v2 (v3 + 1) hw hR (lv_sub hl [1, 2, 3, 0] rfl) h
      intro H locs ls s v2 v3 hw hR hl h
      have h : bk_Le_replacedIn_5_o a1 (bk_Le_replacedIn_5 a1 n5) s v2 v3 = some res := h
      unfold bk_Le_replacedIn_5_o at h
      refine lv_iload_n hx hb d_Le_replacedIn_5 rfl (lv_at hl 3 rfl) ?_
      refine lv_aload_n hx hb d_Le_replacedIn_6 rfl (lv_at hl 0 rfl) ?_
      refine gf_Le_31 C0 hw hR d_Le_replacedIn_7 ?_
      refine lv_icmp_ge hx hb (tgt := 45) d_Le_replacedIn_10 (by decide) (fun hc9 => ?_) (fun hc9 => ?_)
      · rw [if_pos hc9] at h
        refine lv_iload_n hx hb d_Le_replacedIn_45 rfl (lv_at hl 2 rfl) ?_
        obtain rfl := Option.some.inj h
        exact hret hw rfl d_Le_replacedIn_46
      · rw [if_neg hc9] at h
        refine lv_aload_n hx hb d_Le_replacedIn_13 rfl (lv_at hl 0 rfl) ?_
        refine lv_iload_n hx hb d_Le_replacedIn_14 rfl (lv_at hl 3 rfl) ?_
        refine lv_iload_n hx hb d_Le_replacedIn_15 rfl (lv_at hl 1 rfl) ?_
        obtain ⟨x1, ho, h⟩ := ct_ob_some h
        refine ct_callVi C0 hw hl.1 (q0 := 1) (hR.1 1 (by decide)) rfl (ct_giV wd_335 wd_337 sel_Le_replaces wd_2 wd_338) (fun sz => s_Le_replaces l g ws0 sz hR.rf ho) (by decide +kernel) ⟨rfl, rfl⟩ (by decide) (by decide) (As := [.int v3, .int a1]) (rest := []) rfl (Nat.le_of_ble_eq_true rfl) d_Le_replacedIn_16 (fun ws1 H locs hw hp => ?_)
        rw [hp] at hw
        clear hp
        refine lv_if_eq hx hb (tgt := 39) d_Le_replacedIn_19 (by decide) (fun hc9 => ?_) (fun hc9 => ?_)
        · rw [if_pos hc9] at h
          exact J39 H locs ls s v2 v3 hw hR (lv_sub hl [0, 1, 2, 3] rfl) h
        · rw [if_neg hc9] at h
          refine lv_aload_n hx hb d_Le_replacedIn_22 rfl (lv_at hl 0 rfl) ?_
          refine gf_Le_18 C0 hw hR d_Le_replacedIn_23 ?_
          refine lv_iload_n hx hb d_Le_replacedIn_26 rfl (lv_at hl 3 rfl) ?_
          obtain ⟨hg27, h⟩ := ct_gd_some h
          refine ct_ldA (k := 2) C0 hw hR (by decide) (ct_inR_vp hg27) d_Le_replacedIn_27 ?_
          refine lv_iload_n hx hb d_Le_replacedIn_28 rfl (lv_at hl 2 rfl) ?_
          refine lv_icmp_ge hx hb (tgt := 39) d_Le_replacedIn_29 (by decide) (fun hc9 => ?_) (fun hc9 => ?_)
          · rw [if_pos hc9] at h
            exact J39 H locs ls s v2 v3 hw hR (lv_sub hl [0, 1, 2, 3] rfl) h
          · rw [if_neg hc9] at h
            refine lv_aload_n hx hb d_Le_replacedIn_32 rfl (lv_at hl 0 rfl) ?_
            refine gf_Le_18 C0 hw hR d_Le_replacedIn_33 ?_
            refine lv_iload_n hx hb d_Le_replacedIn_36 rfl (lv_at hl 3 rfl) ?_
            obtain ⟨hg37, h⟩ := ct_gd_some h
            refine ct_ldA (k := 2) C0 hw hR (by decide) (ct_inR_vp hg37) d_Le_replacedIn_37 ?_
            refine lv_topi (fun x2 e9 => ?_)
            have h := ct_nm_at h e9
            clear e9
            refine lv_istore_n (lv' := [(2, .int x2), (0, .ref (g.2.1 1)), (1, .int a1), (3, .int v3)]) hx hb d_Le_replacedIn_38 rfl hl (by decide) rfl (fun ls hl => ?_)
            exact J39 H locs ls s x2 v3 hw hR (lv_sub hl [1, 2, 0, 3] rfl) h
  unfold fn_Le_replacedIn at h
  refine lv_bipush (v := 72) hx hb d_Le_replacedIn_0 (by decide) ?_
  refine lv_istore_n (lv' := [(2, .int 72), (0, .ref (g.2.1 1)), (1, .int a1)]) hx hb d_Le_replacedIn_2 rfl hl (by decide) rfl (fun ls hl => ?_)
  refine lv_iconst (v := 0) hx hb d_Le_replacedIn_3 (by decide) ?_
  refine lv_istore_n (lv' := [(3, .int 0), (2, .int 72), (0, .ref (g.2.1 1)), (1, .int a1)]) hx hb d_Le_replacedIn_4 rfl hl (by decide) rfl (fun ls hl => ?_)
  exact L5 200 H locs ls s 72 0 hw hR (lv_sub hl [2, 3, 1, 0] rfl) h

theorem d_Tr_addEstimate_0 : decode c_Tr_addEstimate 0 = .ok (.aload_n 1, 1) := by decide +kernel
theorem d_Tr_addEstimate_1 : decode c_Tr_addEstimate 1 = .ok (.getfield 54, 3) := by decide +kernel
theorem d_Tr_addEstimate_4 : decode c_Tr_addEstimate 4 = .ok (.iload_n 2, 1) := by decide +kernel
theorem d_Tr_addEstimate_5 : decode c_Tr_addEstimate 5 = .ok (.iaload, 1) := by decide +kernel
theorem d_Tr_addEstimate_6 : decode c_Tr_addEstimate 6 = .ok (.istore_n 3, 1) := by decide +kernel
theorem d_Tr_addEstimate_7 : decode c_Tr_addEstimate 7 = .ok (.aload_n 1, 1) := by decide +kernel
theorem d_Tr_addEstimate_8 : decode c_Tr_addEstimate 8 = .ok (.getfield 61, 3) := by decide +kernel
theorem d_Tr_addEstimate_11 : decode c_Tr_addEstimate 11 = .ok (.iload_n 2, 1) := by decide +kernel
theorem d_Tr_addEstimate_12 : decode c_Tr_addEstimate 12 = .ok (.iaload, 1) := by decide +kernel
theorem d_Tr_addEstimate_13 : decode c_Tr_addEstimate 13 = .ok (.istore 4, 2) := by decide +kernel
theorem d_Tr_addEstimate_15 : decode c_Tr_addEstimate 15 = .ok (.aload_n 0, 1) := by decide +kernel
theorem d_Tr_addEstimate_16 : decode c_Tr_addEstimate 16 = .ok (.iload_n 3, 1) := by decide +kernel
theorem d_Tr_addEstimate_17 : decode c_Tr_addEstimate 17 = .ok (.aload_n 1, 1) := by decide +kernel
theorem d_Tr_addEstimate_18 : decode c_Tr_addEstimate 18 = .ok (.getfield 58, 3) := by decide +kernel
theorem d_Tr_addEstimate_21 : decode c_Tr_addEstimate 21 = .ok (.iload_n 2, 1) := by decide +kernel
theorem d_Tr_addEstimate_22 : decode c_Tr_addEstimate 22 = .ok (.iaload, 1) := by decide +kernel
theorem d_Tr_addEstimate_23 : decode c_Tr_addEstimate 23 = .ok (.iload 4, 2) := by decide +kernel
theorem d_Tr_addEstimate_25 : decode c_Tr_addEstimate 25 = .ok (.invokevirtual 64, 3) := by decide +kernel
theorem d_Tr_addEstimate_28 : decode c_Tr_addEstimate 28 = .ok (.aload_n 0, 1) := by decide +kernel
theorem d_Tr_addEstimate_29 : decode c_Tr_addEstimate 29 = .ok (.iload_n 3, 1) := by decide +kernel
theorem d_Tr_addEstimate_30 : decode c_Tr_addEstimate 30 = .ok (.aload_n 1, 1) := by decide +kernel
theorem d_Tr_addEstimate_31 : decode c_Tr_addEstimate 31 = .ok (.iload_n 2, 1) := by decide +kernel
theorem d_Tr_addEstimate_32 : decode c_Tr_addEstimate 32 = .ok (.invokevirtual 75, 3) := by decide +kernel
theorem d_Tr_addEstimate_35 : decode c_Tr_addEstimate 35 = .ok (.iload 4, 2) := by decide +kernel
theorem d_Tr_addEstimate_37 : decode c_Tr_addEstimate 37 = .ok (.ineg, 1) := by decide +kernel
theorem d_Tr_addEstimate_38 : decode c_Tr_addEstimate 38 = .ok (.invokevirtual 64, 3) := by decide +kernel
theorem d_Tr_addEstimate_41 : decode c_Tr_addEstimate 41 = .ok (.return_, 1) := by decide +kernel
set_option maxHeartbeats 4000000 in
set_option maxRecDepth 100000 in
theorem s_Tr_addEstimate (l : Launch) (g : Gx) (ws0 : va_W) (sz : Nat) {s : CS} {a2 : Int32} {res : CS} (hR : cs_Rel g ws0 ws0 s) (h : fn_Tr_addEstimate s a2 = some res) : ct_MV l y_Tr_addEstimate c_Tr_addEstimate 5 none rm_Tr_addEstimate g ws0 sz [.ref (g.2.1 2), .ref (g.2.1 1), .int a2]  (fun u => cs_Rel g ws0 u res) := by
  refine ct_startv (by decide +kernel) (Nat.le_of_ble_eq_true rfl) (fun p e sv m args below meth c ls Q A H locs C0 hret hl hw => ?_)
  have hx := C0.1
  have hb := C0.2.1
  have hown := C0.2.2.2.1
  have hts := C0.2.2.2.2.1
  have hl : lv_has ls 5 [(0, .ref (g.2.1 2)), (1, .ref (g.2.1 1)), (2, .int a2)] := hl
  unfold fn_Tr_addEstimate at h
  obtain ⟨ws, hwe⟩ : ∃ z : va_W, z = ws0 := ⟨_, rfl⟩
  rw [← hwe] at hw
  have hR : cs_Rel g ws0 ws s := by rw [hwe]; exact hR
  clear hwe
  refine lv_aload_n hx hb d_Tr_addEstimate_0 rfl (lv_at hl 1 rfl) ?_
  refine gf_Tr_54 C0 hw hR d_Tr_addEstimate_1 ?_
  refine lv_iload_n hx hb d_Tr_addEstimate_4 rfl (lv_at hl 2 rfl) ?_
  obtain ⟨hg5, h⟩ := ct_gd_some h
  refine ct_ldA (k := 1) C0 hw hR (by decide) (ct_inR_vp hg5) d_Tr_addEstimate_5 ?_
  refine lv_topi (fun x1 e9 => ?_)
  have h := ct_nm_at h e9
  clear e9
  refine lv_istore_n (lv' := [(3, .int x1), (0, .ref (g.2.1 2)), (1, .ref (g.2.1 1)), (2, .int a2)]) hx hb d_Tr_addEstimate_6 rfl hl (by decide) rfl (fun ls hl => ?_)
  refine lv_aload_n hx hb d_Tr_addEstimate_7 rfl (lv_at hl 2 rfl) ?_
  refine gf_Tr_61 C0 hw hR d_Tr_addEstimate_8 ?_
  refine lv_iload_n hx hb d_Tr_addEstimate_11 rfl (lv_at hl 3 rfl) ?_
  obtain ⟨hg12, h⟩ := ct_gd_some h
  refine ct_ldA (k := 3) C0 hw hR (by decide) (ct_inR_vp hg12) d_Tr_addEstimate_12 ?_
  refine lv_topi (fun x2 e9 => ?_)
  have h := ct_nm_at h e9
  clear e9
  refine lv_istore (lv' := [(4, .int x2), (3, .int x1), (0, .ref (g.2.1 2)), (1, .ref (g.2.1 1)), (2, .int a2)]) hx hb d_Tr_addEstimate_13 hl (by decide) rfl (fun ls hl => ?_)
  refine lv_aload_n hx hb d_Tr_addEstimate_15 rfl (lv_at hl 2 rfl) ?_
  refine lv_iload_n hx hb d_Tr_addEstimate_16 rfl (lv_at hl 1 rfl) ?_
  refine lv_aload_n hx hb d_Tr_addEstimate_17 rfl (lv_at hl 3 rfl) ?_
  refine gf_Tr_58 C0 hw hR d_Tr_addEstimate_18 ?_
  refine lv_iload_n hx hb d_Tr_addEstimate_21 rfl (lv_at hl 4 rfl) ?_
  obtain ⟨hg22, h⟩ := ct_gd_some h
  refine ct_ldA (k := 2) C0 hw hR (by decide) (ct_inR_vp hg22) d_Tr_addEstimate_22 ?_
  refine lv_iload hx hb d_Tr_addEstimate_23 (lv_at hl 0 rfl) ?_
  obtain ⟨s3, ho, h⟩ := ct_ob_some h
  refine ct_callVv C0 hw hl.1 (q0 := 2) (hR.1 2 (by decide)) rfl (ct_giV wd_323 wd_325 sel_Tr_add wd_4 wd_326) (fun sz => s_Tr_add l g ws sz hR.rf ho) (by decide +kernel) ⟨rfl, rfl⟩ (by decide) (by decide) (As := [.int x1, .int (cs_A s 2 a2.toNatClampNeg), .int x2]) (rest := []) rfl (Nat.le_of_ble_eq_true rfl) d_Tr_addEstimate_25 (fun ws1 H locs hw hp => ?_)
  have hR := hR.trans hp
  clear hp
  generalize ws1 = ws at hw hR
  refine lv_aload_n hx hb d_Tr_addEstimate_28 rfl (lv_at hl 2 rfl) ?_
  refine lv_iload_n hx hb d_Tr_addEstimate_29 rfl (lv_at hl 1 rfl) ?_
  refine lv_aload_n hx hb d_Tr_addEstimate_30 rfl (lv_at hl 3 rfl) ?_
  refine lv_iload_n hx hb d_Tr_addEstimate_31 rfl (lv_at hl 4 rfl) ?_
  obtain ⟨x4, ho, h⟩ := ct_ob_some h
  refine ct_callVi C0 hw hl.1 (q0 := 1) (hR.1 1 (by decide)) rfl (ct_giV wd_331 wd_332 wd_333 wd_2 wd_334) (fun sz => s_Le_replacedIn l g ws sz hR.rf ho) (by decide +kernel) ⟨rfl, rfl⟩ (by decide) (by decide) (As := [.int a2]) (rest := [.int x1, .ref (g.2.1 2)]) rfl (Nat.le_of_ble_eq_true rfl) d_Tr_addEstimate_32 (fun ws1 H locs hw hp => ?_)
  rw [hp] at hw
  clear hp
  refine lv_iload hx hb d_Tr_addEstimate_35 (lv_at hl 0 rfl) ?_
  refine lv_ineg hx hb d_Tr_addEstimate_37 ?_
  obtain ⟨s5, ho, h⟩ := ct_ob_some h
  refine ct_callVv C0 hw hl.1 (q0 := 2) (hR.1 2 (by decide)) rfl (ct_giV wd_323 wd_325 sel_Tr_add wd_4 wd_326) (fun sz => s_Tr_add l g ws sz hR.rf ho) (by decide +kernel) ⟨rfl, rfl⟩ (by decide) (by decide) (As := [.int x1, .int x4, .int (-x2)]) (rest := []) rfl (Nat.le_of_ble_eq_true rfl) d_Tr_addEstimate_38 (fun ws1 H locs hw hp => ?_)
  have hR := hR.trans hp
  clear hp
  generalize ws1 = ws at hw hR
  obtain rfl := Option.some.inj h
  exact hret hw hR d_Tr_addEstimate_41

theorem d_Tr_accumulate_0 : decode c_Tr_accumulate 0 = .ok (.iconst 0, 1) := by decide +kernel
theorem d_Tr_accumulate_1 : decode c_Tr_accumulate 1 = .ok (.istore_n 1, 1) := by decide +kernel
theorem d_Tr_accumulate_2 : decode c_Tr_accumulate 2 = .ok (.iload_n 1, 1) := by decide +kernel
theorem d_Tr_accumulate_3 : decode c_Tr_accumulate 3 = .ok (.aload_n 0, 1) := by decide +kernel
theorem d_Tr_accumulate_4 : decode c_Tr_accumulate 4 = .ok (.getfield 31, 3) := by decide +kernel
theorem d_Tr_accumulate_7 : decode c_Tr_accumulate 7 = .ok (.if_icmp .ge 48, 3) := by decide +kernel
theorem d_Tr_accumulate_10 : decode c_Tr_accumulate 10 = .ok (.iconst 1, 1) := by decide +kernel
theorem d_Tr_accumulate_11 : decode c_Tr_accumulate 11 = .ok (.istore_n 2, 1) := by decide +kernel
theorem d_Tr_accumulate_12 : decode c_Tr_accumulate 12 = .ok (.iload_n 2, 1) := by decide +kernel
theorem d_Tr_accumulate_13 : decode c_Tr_accumulate 13 = .ok (.aload_n 0, 1) := by decide +kernel
theorem d_Tr_accumulate_14 : decode c_Tr_accumulate 14 = .ok (.getfield 31, 3) := by decide +kernel
theorem d_Tr_accumulate_17 : decode c_Tr_accumulate 17 = .ok (.iload_n 1, 1) := by decide +kernel
theorem d_Tr_accumulate_18 : decode c_Tr_accumulate 18 = .ok (.isub, 1) := by decide +kernel
theorem d_Tr_accumulate_19 : decode c_Tr_accumulate 19 = .ok (.if_icmp .ge 30, 3) := by decide +kernel
theorem d_Tr_accumulate_22 : decode c_Tr_accumulate 22 = .ok (.aload_n 0, 1) := by decide +kernel
theorem d_Tr_accumulate_23 : decode c_Tr_accumulate 23 = .ok (.getfield 11, 3) := by decide +kernel
theorem d_Tr_accumulate_26 : decode c_Tr_accumulate 26 = .ok (.iload_n 1, 1) := by decide +kernel
theorem d_Tr_accumulate_27 : decode c_Tr_accumulate 27 = .ok (.aaload, 1) := by decide +kernel
theorem d_Tr_accumulate_28 : decode c_Tr_accumulate 28 = .ok (.iload_n 2, 1) := by decide +kernel
theorem d_Tr_accumulate_29 : decode c_Tr_accumulate 29 = .ok (.dup2, 1) := by decide +kernel
theorem d_Tr_accumulate_30 : decode c_Tr_accumulate 30 = .ok (.iaload, 1) := by decide +kernel
theorem d_Tr_accumulate_31 : decode c_Tr_accumulate 31 = .ok (.aload_n 0, 1) := by decide +kernel
theorem d_Tr_accumulate_32 : decode c_Tr_accumulate 32 = .ok (.getfield 11, 3) := by decide +kernel
theorem d_Tr_accumulate_35 : decode c_Tr_accumulate 35 = .ok (.iload_n 1, 1) := by decide +kernel
theorem d_Tr_accumulate_36 : decode c_Tr_accumulate 36 = .ok (.aaload, 1) := by decide +kernel
theorem d_Tr_accumulate_37 : decode c_Tr_accumulate 37 = .ok (.iload_n 2, 1) := by decide +kernel
theorem d_Tr_accumulate_38 : decode c_Tr_accumulate 38 = .ok (.iconst 1, 1) := by decide +kernel
theorem d_Tr_accumulate_39 : decode c_Tr_accumulate 39 = .ok (.isub, 1) := by decide +kernel
theorem d_Tr_accumulate_40 : decode c_Tr_accumulate 40 = .ok (.iaload, 1) := by decide +kernel
theorem d_Tr_accumulate_41 : decode c_Tr_accumulate 41 = .ok (.iadd, 1) := by decide +kernel
theorem d_Tr_accumulate_42 : decode c_Tr_accumulate 42 = .ok (.iastore, 1) := by decide +kernel
theorem d_Tr_accumulate_43 : decode c_Tr_accumulate 43 = .ok (.iinc 2 1, 3) := by decide +kernel
theorem d_Tr_accumulate_46 : decode c_Tr_accumulate 46 = .ok (.goto (-34), 3) := by decide +kernel
theorem d_Tr_accumulate_49 : decode c_Tr_accumulate 49 = .ok (.iinc 1 1, 3) := by decide +kernel
theorem d_Tr_accumulate_52 : decode c_Tr_accumulate 52 = .ok (.goto (-50), 3) := by decide +kernel
theorem d_Tr_accumulate_55 : decode c_Tr_accumulate 55 = .ok (.return_, 1) := by decide +kernel
set_option maxHeartbeats 4000000 in
set_option maxRecDepth 100000 in
theorem s_Tr_accumulate (l : Launch) (g : Gx) (ws0 : va_W) (sz : Nat) {s : CS} {res : CS} (hR : cs_Rel g ws0 ws0 s) (h : fn_Tr_accumulate s = some res) : ct_MV l y_Tr_accumulate c_Tr_accumulate 3 none rm_Tr_accumulate g ws0 sz [.ref (g.2.1 2)]  (fun u => cs_Rel g ws0 u res) := by
  refine ct_startv (by decide +kernel) (Nat.le_of_ble_eq_true rfl) (fun p e sv m args below meth c ls Q A H locs C0 hret hl hw => ?_)
  have hx := C0.1
  have hb := C0.2.1
  have hown := C0.2.2.2.1
  have hts := C0.2.2.2.2.1
  have hl : lv_has ls 3 [(0, .ref (g.2.1 2))] := hl
  have L2 : ∀ (n2 : Nat) (ws : va_W) (H : Heap) (locs : List Loc) (ls : Array Slot) (s : CS) (v1 : Int32), ct_Wd g A sv ws H locs → cs_Rel g ws0 ws s → lv_has ls 3 [(0, .ref (g.2.1 2)), (1, .int v1)] → bk_Tr_accumulate_2 n2 s v1 = some res → W p l e rm_Tr_accumulate sv m args below meth c H locs 0 0 Q (F0 m 2 ls []) := by
    intro n2
    induction n2 with
    | zero =>
      intro ws H locs ls s v1 hw hR hl h
      exact absurd h (by simp [bk_Tr_accumulate_2])
    | succ n2 ih2 =>
      have L12 : ∀ (n12 : Nat) (ws : va_W) (H : Heap) (locs : List Loc) (ls : Array Slot) (s : CS) (v1 : Int32) (v2 : Int32), ct_Wd g A sv ws H locs → cs_Rel g ws0 ws s → lv_has ls 3 [(0, .ref (g.2.1 2)), (1, .int v1), (2, .int v2)] → bk_Tr_accumulate_12 (bk_Tr_accumulate_2 n2) n12 s v1 v2 = some res → W p l e rm_Tr_accumulate sv m args below meth c H locs 0 0 Q (F0 m 12 ls []) := by
        intro n12
        induction n12 with
        | zero =>
          intro ws H locs ls s v1 v2 hw hR hl h
          exact absurd h (by simp [bk_Tr_accumulate_12])
        | succ n12 ih12 =>
          intro ws H locs ls s v1 v2 hw hR hl h
          have h : bk_Tr_accumulate_12_o (bk_Tr_accumulate_2 n2) (bk_Tr_accumulate_12 (bk_Tr_accumulate_2 n2) n12) s v1 v2 = some res := h
          unfold bk_Tr_accumulate_12_o at h
          refine lv_iload_n hx hb d_Tr_accumulate_12 rfl (lv_at hl 2 rfl) ?_
          refine lv_aload_n hx hb d_Tr_accumulate_13 rfl (lv_at hl 0 rfl) ?_
          refine gf_Tr_31 C0 hw hR d_Tr_accumulate_14 ?_
          refine lv_iload_n hx hb d_Tr_accumulate_17 rfl (lv_at hl 1 rfl) ?_
          refine lv_isub hx hb d_Tr_accumulate_18 ?_
          refine lv_icmp_ge hx hb (tgt := 49) d_Tr_accumulate_19 (by decide) (fun hc9 => ?_) (fun hc9 => ?_)
          · rw [if_pos hc9] at h
            refine lv_iinc (v := v1 + 1) (k := 1) (lv' := [(1, .int (v1 + 1)), (0, .ref (g.2.1 2)), (2, .int v2)]) hx hb d_Tr_accumulate_49 hl rfl rfl (by decide) rfl (fun ls hl => ?_)
            refine lv_goto hx hb (tgt := 2) d_Tr_accumulate_52 (by decide) ?_
            exact ih2 ws H locs ls s (v1 + 1) hw hR (lv_sub hl [1, 0] rfl) h
          · rw [if_neg hc9] at h
            refine lv_aload_n hx hb d_Tr_accumulate_22 rfl (lv_at hl 0 rfl) ?_
            refine gf_Tr_11 C0 hw hR d_Tr_accumulate_23 ?_
            refine lv_iload_n hx hb d_Tr_accumulate_26 rfl (lv_at hl 1 rfl) ?_
            obtain ⟨hg27, h⟩ := ct_gd_some h
            refine ct_ldoc C0 hw hR (ct_inR_vp hg27) d_Tr_accumulate_27 ?_
            refine lv_iload_n hx hb d_Tr_accumulate_28 rfl (lv_at hl 2 rfl) ?_
            refine lv_dup2_11 hx hb d_Tr_accumulate_29 rfl rfl ?_
            obtain ⟨hg30, h⟩ := ct_gd_some h
            refine ct_ldrw C0 hw hR (ct_inR_lt hg27) (ct_inR_vp hg30) d_Tr_accumulate_30 ?_
            refine lv_aload_n hx hb d_Tr_accumulate_31 rfl (lv_at hl 0 rfl) ?_
            refine gf_Tr_11 C0 hw hR d_Tr_accumulate_32 ?_
            refine lv_iload_n hx hb d_Tr_accumulate_35 rfl (lv_at hl 1 rfl) ?_
            obtain ⟨hg36, h⟩ := ct_gd_some h
            refine ct_ldoc C0 hw hR (ct_inR_vp hg36) d_Tr_accumulate_36 ?_
            refine lv_iload_n hx hb d_Tr_accumulate_37 rfl (lv_at hl 2 rfl) ?_
            refine lv_iconst (v := 1) hx hb d_Tr_accumulate_38 (by decide) ?_
            refine lv_isub hx hb d_Tr_accumulate_39 ?_
            obtain ⟨hg40, h⟩ := ct_gd_some h
            refine ct_ldrw C0 hw hR (ct_inR_lt hg36) (ct_inR_vp hg40) d_Tr_accumulate_40 ?_
            refine lv_iadd hx hb d_Tr_accumulate_41 ?_
            obtain ⟨hg42, h⟩ := ct_gd_some h
            refine ct_strw C0 hw hR (ct_inR_lt hg27) (ct_inR_vp hg42) d_Tr_accumulate_42 (fun ws H locs hw hR => ?_)
            obtain ⟨s1, es9, h⟩ := ct_nm_ex h
            rw [← es9] at hR
            clear es9
            refine lv_iinc (v := v2 + 1) (k := 2) (lv' := [(2, .int (v2 + 1)), (0, .ref (g.2.1 2)), (1, .int v1)]) hx hb d_Tr_accumulate_43 hl rfl rfl (by decide) rfl (fun ls hl => ?_)
            refine lv_goto hx hb (tgt := 12) d_Tr_accumulate_46 (by decide) ?_
            exact ih12 ws H locs ls s1 v1 (v2 + 1) hw hR (lv_sub hl [1, 2, 0] rfl) h
      intro ws H locs ls s v1 hw hR hl h
      have h : bk_Tr_accumulate_2_o (bk_Tr_accumulate_2 n2) s v1 = some res := h
      unfold bk_Tr_accumulate_2_o at h
      refine lv_iload_n hx hb d_Tr_accumulate_2 rfl (lv_at hl 1 rfl) ?_
      refine lv_aload_n hx hb d_Tr_accumulate_3 rfl (lv_at hl 0 rfl) ?_
      refine gf_Tr_31 C0 hw hR d_Tr_accumulate_4 ?_
      refine lv_icmp_ge hx hb (tgt := 55) d_Tr_accumulate_7 (by decide) (fun hc9 => ?_) (fun hc9 => ?_)
      · rw [if_pos hc9] at h
        obtain rfl := Option.some.inj h
        exact hret hw hR d_Tr_accumulate_55
      · rw [if_neg hc9] at h
        refine lv_iconst (v := 1) hx hb d_Tr_accumulate_10 (by decide) ?_
        refine lv_istore_n (lv' := [(2, .int 1), (0, .ref (g.2.1 2)), (1, .int v1)]) hx hb d_Tr_accumulate_11 rfl hl (by decide) rfl (fun ls hl => ?_)
        exact L12 200 ws H locs ls s v1 1 hw hR (lv_sub hl [1, 2, 0] rfl) h
  unfold fn_Tr_accumulate at h
  obtain ⟨ws, hwe⟩ : ∃ z : va_W, z = ws0 := ⟨_, rfl⟩
  rw [← hwe] at hw
  have hR : cs_Rel g ws0 ws s := by rw [hwe]; exact hR
  clear hwe
  refine lv_iconst (v := 0) hx hb d_Tr_accumulate_0 (by decide) ?_
  refine lv_istore_n (lv' := [(1, .int 0), (0, .ref (g.2.1 2))]) hx hb d_Tr_accumulate_1 rfl hl (by decide) rfl (fun ls hl => ?_)
  exact L2 200 ws H locs ls s 0 hw hR (lv_sub hl [1, 0] rfl) h

theorem d_Tr_fill_0 : decode c_Tr_fill 0 = .ok (.aload_n 0, 1) := by decide +kernel
theorem d_Tr_fill_1 : decode c_Tr_fill 1 = .ok (.invokevirtual 41, 3) := by decide +kernel
theorem d_Tr_fill_4 : decode c_Tr_fill 4 = .ok (.iconst 0, 1) := by decide +kernel
theorem d_Tr_fill_5 : decode c_Tr_fill 5 = .ok (.istore_n 2, 1) := by decide +kernel
theorem d_Tr_fill_6 : decode c_Tr_fill 6 = .ok (.iload_n 2, 1) := by decide +kernel
theorem d_Tr_fill_7 : decode c_Tr_fill 7 = .ok (.aload_n 1, 1) := by decide +kernel
theorem d_Tr_fill_8 : decode c_Tr_fill 8 = .ok (.getfield 44, 3) := by decide +kernel
theorem d_Tr_fill_11 : decode c_Tr_fill 11 = .ok (.if_icmp .ge 71, 3) := by decide +kernel
theorem d_Tr_fill_14 : decode c_Tr_fill 14 = .ok (.aload_n 1, 1) := by decide +kernel
theorem d_Tr_fill_15 : decode c_Tr_fill 15 = .ok (.iload_n 2, 1) := by decide +kernel
theorem d_Tr_fill_16 : decode c_Tr_fill 16 = .ok (.aload_n 0, 1) := by decide +kernel
theorem d_Tr_fill_17 : decode c_Tr_fill 17 = .ok (.getfield 20, 3) := by decide +kernel
theorem d_Tr_fill_20 : decode c_Tr_fill 20 = .ok (.invokevirtual 47, 3) := by decide +kernel
theorem d_Tr_fill_23 : decode c_Tr_fill 23 = .ok (.ifCond .ne 6, 3) := by decide +kernel
theorem d_Tr_fill_26 : decode c_Tr_fill 26 = .ok (.goto 50, 3) := by decide +kernel
theorem d_Tr_fill_29 : decode c_Tr_fill 29 = .ok (.aload_n 1, 1) := by decide +kernel
theorem d_Tr_fill_30 : decode c_Tr_fill 30 = .ok (.getfield 51, 3) := by decide +kernel
theorem d_Tr_fill_33 : decode c_Tr_fill 33 = .ok (.iload_n 2, 1) := by decide +kernel
theorem d_Tr_fill_34 : decode c_Tr_fill 34 = .ok (.baload, 1) := by decide +kernel
theorem d_Tr_fill_35 : decode c_Tr_fill 35 = .ok (.ifCond .ne 28, 3) := by decide +kernel
theorem d_Tr_fill_38 : decode c_Tr_fill 38 = .ok (.aload_n 0, 1) := by decide +kernel
theorem d_Tr_fill_39 : decode c_Tr_fill 39 = .ok (.aload_n 1, 1) := by decide +kernel
theorem d_Tr_fill_40 : decode c_Tr_fill 40 = .ok (.getfield 54, 3) := by decide +kernel
theorem d_Tr_fill_43 : decode c_Tr_fill 43 = .ok (.iload_n 2, 1) := by decide +kernel
theorem d_Tr_fill_44 : decode c_Tr_fill 44 = .ok (.iaload, 1) := by decide +kernel
theorem d_Tr_fill_45 : decode c_Tr_fill 45 = .ok (.aload_n 1, 1) := by decide +kernel
theorem d_Tr_fill_46 : decode c_Tr_fill 46 = .ok (.getfield 58, 3) := by decide +kernel
theorem d_Tr_fill_49 : decode c_Tr_fill 49 = .ok (.iload_n 2, 1) := by decide +kernel
theorem d_Tr_fill_50 : decode c_Tr_fill 50 = .ok (.iaload, 1) := by decide +kernel
theorem d_Tr_fill_51 : decode c_Tr_fill 51 = .ok (.aload_n 1, 1) := by decide +kernel
theorem d_Tr_fill_52 : decode c_Tr_fill 52 = .ok (.getfield 61, 3) := by decide +kernel
theorem d_Tr_fill_55 : decode c_Tr_fill 55 = .ok (.iload_n 2, 1) := by decide +kernel
theorem d_Tr_fill_56 : decode c_Tr_fill 56 = .ok (.iaload, 1) := by decide +kernel
theorem d_Tr_fill_57 : decode c_Tr_fill 57 = .ok (.invokevirtual 64, 3) := by decide +kernel
theorem d_Tr_fill_60 : decode c_Tr_fill 60 = .ok (.goto 16, 3) := by decide +kernel
theorem d_Tr_fill_63 : decode c_Tr_fill 63 = .ok (.aload_n 0, 1) := by decide +kernel
theorem d_Tr_fill_64 : decode c_Tr_fill 64 = .ok (.getfield 27, 3) := by decide +kernel
theorem d_Tr_fill_67 : decode c_Tr_fill 67 = .ok (.ifCond .eq 9, 3) := by decide +kernel
theorem d_Tr_fill_70 : decode c_Tr_fill 70 = .ok (.aload_n 0, 1) := by decide +kernel
theorem d_Tr_fill_71 : decode c_Tr_fill 71 = .ok (.aload_n 1, 1) := by decide +kernel
theorem d_Tr_fill_72 : decode c_Tr_fill 72 = .ok (.iload_n 2, 1) := by decide +kernel
theorem d_Tr_fill_73 : decode c_Tr_fill 73 = .ok (.invokevirtual 68, 3) := by decide +kernel
theorem d_Tr_fill_76 : decode c_Tr_fill 76 = .ok (.iinc 2 1, 3) := by decide +kernel
theorem d_Tr_fill_79 : decode c_Tr_fill 79 = .ok (.goto (-73), 3) := by decide +kernel
theorem d_Tr_fill_82 : decode c_Tr_fill 82 = .ok (.aload_n 0, 1) := by decide +kernel
theorem d_Tr_fill_83 : decode c_Tr_fill 83 = .ok (.invokevirtual 72, 3) := by decide +kernel
theorem d_Tr_fill_86 : decode c_Tr_fill 86 = .ok (.return_, 1) := by decide +kernel
set_option maxHeartbeats 4000000 in
set_option maxRecDepth 100000 in
theorem s_Tr_fill (l : Launch) (g : Gx) (ws0 : va_W) (sz : Nat) {s : CS} {res : CS} (hR : cs_Rel g ws0 ws0 s) (h : fn_Tr_fill s = some res) : ct_MV l y_Tr_fill c_Tr_fill 3 none rm_Tr_fill g ws0 sz [.ref (g.2.1 2), .ref (g.2.1 1)]  (fun u => cs_Rel g ws0 u res) := by
  refine ct_startv (by decide +kernel) (Nat.le_of_ble_eq_true rfl) (fun p e sv m args below meth c ls Q A H locs C0 hret hl hw => ?_)
  have hx := C0.1
  have hb := C0.2.1
  have hown := C0.2.2.2.1
  have hts := C0.2.2.2.2.1
  have hl : lv_has ls 3 [(0, .ref (g.2.1 2)), (1, .ref (g.2.1 1))] := hl
  have L6 : ∀ (n6 : Nat) (ws : va_W) (H : Heap) (locs : List Loc) (ls : Array Slot) (s : CS) (v2 : Int32), ct_Wd g A sv ws H locs → cs_Rel g ws0 ws s → lv_has ls 3 [(0, .ref (g.2.1 2)), (1, .ref (g.2.1 1)), (2, .int v2)] → bk_Tr_fill_6 n6 s v2 = some res → W p l e rm_Tr_fill sv m args below meth c H locs 0 0 Q (F0 m 6 ls []) := by
    intro n6
    induction n6 with
    | zero =>
      intro ws H locs ls s v2 hw hR hl h
      exact absurd h (by simp [bk_Tr_fill_6])
    | succ n6 ih6 =>
      have J76 : ∀ (ws : va_W) (H : Heap) (locs : List Loc) (ls : Array Slot) (s : CS) (v2 : Int32), ct_Wd g A sv ws H locs → cs_Rel g ws0 ws s → lv_has ls 3 [(0, .ref (g.2.1 2)), (1, .ref (g.2.1 1)), (2, .int v2)] → bk_Tr_fill_76 (bk_Tr_fill_6 n6) s v2 = some res → W p l e rm_Tr_fill sv m args below meth c H locs 0 0 Q (F0 m 76 ls []) := by
        intro ws H locs ls s v2 hw hR hl h
        unfold bk_Tr_fill_76 at h
        refine lv_iinc (v := v2 + 1) (k := 2) (lv' := [(2, .int (v2 + 1)), (0, .ref (g.2.1 2)), (1, .ref (g.2.1 1))]) hx hb d_Tr_fill_76 hl rfl rfl (by decide) rfl (fun ls hl => ?_)
        refine lv_goto hx hb (tgt := 6) d_Tr_fill_79 (by decide) ?_
        exact ih6 ws H locs ls s (v2 + 1) hw hR (lv_sub hl [1, 2, 0] rfl) h
      intro ws H locs ls s v2 hw hR hl h
      have h : bk_Tr_fill_6_o (bk_Tr_fill_6 n6) s v2 = some res := h
      unfold bk_Tr_fill_6_o at h
      refine lv_iload_n hx hb d_Tr_fill_6 rfl (lv_at hl 2 rfl) ?_
      refine lv_aload_n hx hb d_Tr_fill_7 rfl (lv_at hl 1 rfl) ?_
      refine gf_Tr_44 C0 hw hR d_Tr_fill_8 ?_
      refine lv_icmp_ge hx hb (tgt := 82) d_Tr_fill_11 (by decide) (fun hc9 => ?_) (fun hc9 => ?_)
      · rw [if_pos hc9] at h
        refine lv_aload_n hx hb d_Tr_fill_82 rfl (lv_at hl 0 rfl) ?_
        obtain ⟨s1, ho, h⟩ := ct_ob_some h
        refine ct_callVv C0 hw hl.1 (q0 := 2) (hR.1 2 (by decide)) rfl (ct_giV wd_340 wd_342 sel_Tr_accumulate wd_4 wd_343) (fun sz => s_Tr_accumulate l g ws sz hR.rf ho) (by decide +kernel) ⟨rfl, rfl⟩ (by decide) (by decide) (As := []) (rest := []) rfl (Nat.le_of_ble_eq_true rfl) d_Tr_fill_83 (fun ws1 H locs hw hp => ?_)
        have hR := hR.trans hp
        clear hp
        generalize ws1 = ws at hw hR
        obtain rfl := Option.some.inj h
        exact hret hw hR d_Tr_fill_86
      · rw [if_neg hc9] at h
        refine lv_aload_n hx hb d_Tr_fill_14 rfl (lv_at hl 1 rfl) ?_
        refine lv_iload_n hx hb d_Tr_fill_15 rfl (lv_at hl 2 rfl) ?_
        refine lv_aload_n hx hb d_Tr_fill_16 rfl (lv_at hl 0 rfl) ?_
        refine gf_Tr_20 C0 hw hR d_Tr_fill_17 ?_
        obtain ⟨x2, ho, h⟩ := ct_ob_some h
        refine ct_callVi C0 hw hl.1 (q0 := 1) (hR.1 1 (by decide)) rfl (ct_giV wd_319 wd_320 wd_321 wd_2 wd_322) (fun sz => s_Le_livesIn l g ws sz hR.rf ho) (by decide +kernel) ⟨rfl, rfl⟩ (by decide) (by decide) (As := [.int v2, .int (cs_I s 1)]) (rest := []) rfl (Nat.le_of_ble_eq_true rfl) d_Tr_fill_20 (fun ws1 H locs hw hp => ?_)
        rw [hp] at hw
        clear hp
        refine lv_if_ne hx hb (tgt := 29) d_Tr_fill_23 (by decide) (fun hc9 => ?_) (fun hc9 => ?_)
        · rw [if_pos hc9] at h
          refine lv_aload_n hx hb d_Tr_fill_29 rfl (lv_at hl 1 rfl) ?_
          refine gf_Tr_51 C0 hw hR d_Tr_fill_30 ?_
          refine lv_iload_n hx hb d_Tr_fill_33 rfl (lv_at hl 2 rfl) ?_
          obtain ⟨hg34, h⟩ := ct_gd_some h
          refine ct_ldZ (k := 4) C0 hw hR (by decide) (by decide) (ct_inR_vp hg34) d_Tr_fill_34 ?_
          refine lv_if_ne hx hb (tgt := 63) d_Tr_fill_35 (by decide) (fun hc9 => ?_) (fun hc9 => ?_)
          · rw [if_pos hc9] at h
            refine lv_aload_n hx hb d_Tr_fill_63 rfl (lv_at hl 0 rfl) ?_
            refine gf_Tr_27 C0 hw hR d_Tr_fill_64 ?_
            refine lv_if_eq hx hb (tgt := 76) d_Tr_fill_67 (by decide) (fun hc9 => ?_) (fun hc9 => ?_)
            · rw [if_pos hc9] at h
              exact J76 ws H locs ls s v2 hw hR (lv_sub hl [0, 1, 2] rfl) h
            · rw [if_neg hc9] at h
              refine lv_aload_n hx hb d_Tr_fill_70 rfl (lv_at hl 0 rfl) ?_
              refine lv_aload_n hx hb d_Tr_fill_71 rfl (lv_at hl 1 rfl) ?_
              refine lv_iload_n hx hb d_Tr_fill_72 rfl (lv_at hl 2 rfl) ?_
              obtain ⟨s3, ho, h⟩ := ct_ob_some h
              refine ct_callVv C0 hw hl.1 (q0 := 2) (hR.1 2 (by decide)) rfl (ct_giV wd_327 wd_329 sel_Tr_addEstimate wd_4 wd_330) (fun sz => s_Tr_addEstimate l g ws sz hR.rf ho) (by decide +kernel) ⟨rfl, rfl⟩ (by decide) (by decide) (As := [.ref (g.2.1 1), .int v2]) (rest := []) rfl (Nat.le_of_ble_eq_true rfl) d_Tr_fill_73 (fun ws1 H locs hw hp => ?_)
              have hR := hR.trans hp
              clear hp
              generalize ws1 = ws at hw hR
              exact J76 ws H locs ls s3 v2 hw hR (lv_sub hl [0, 1, 2] rfl) h
          · rw [if_neg hc9] at h
            refine lv_aload_n hx hb d_Tr_fill_38 rfl (lv_at hl 0 rfl) ?_
            refine lv_aload_n hx hb d_Tr_fill_39 rfl (lv_at hl 1 rfl) ?_
            refine gf_Tr_54 C0 hw hR d_Tr_fill_40 ?_
            refine lv_iload_n hx hb d_Tr_fill_43 rfl (lv_at hl 2 rfl) ?_
            obtain ⟨hg44, h⟩ := ct_gd_some h
            refine ct_ldA (k := 1) C0 hw hR (by decide) (ct_inR_vp hg44) d_Tr_fill_44 ?_
            refine lv_aload_n hx hb d_Tr_fill_45 rfl (lv_at hl 1 rfl) ?_
            refine gf_Tr_58 C0 hw hR d_Tr_fill_46 ?_
            refine lv_iload_n hx hb d_Tr_fill_49 rfl (lv_at hl 2 rfl) ?_
            obtain ⟨hg50, h⟩ := ct_gd_some h
            refine ct_ldA (k := 2) C0 hw hR (by decide) (ct_inR_vp hg50) d_Tr_fill_50 ?_
            refine lv_aload_n hx hb d_Tr_fill_51 rfl (lv_at hl 1 rfl) ?_
            refine gf_Tr_61 C0 hw hR d_Tr_fill_52 ?_
            refine lv_iload_n hx hb d_Tr_fill_55 rfl (lv_at hl 2 rfl) ?_
            obtain ⟨hg56, h⟩ := ct_gd_some h
            refine ct_ldA (k := 3) C0 hw hR (by decide) (ct_inR_vp hg56) d_Tr_fill_56 ?_
            obtain ⟨s4, ho, h⟩ := ct_ob_some h
            refine ct_callVv C0 hw hl.1 (q0 := 2) (hR.1 2 (by decide)) rfl (ct_giV wd_323 wd_325 sel_Tr_add wd_4 wd_326) (fun sz => s_Tr_add l g ws sz hR.rf ho) (by decide +kernel) ⟨rfl, rfl⟩ (by decide) (by decide) (As := [.int (cs_A s 1 v2.toNatClampNeg), .int (cs_A s 2 v2.toNatClampNeg), .int (cs_A s 3 v2.toNatClampNeg)]) (rest := []) rfl (Nat.le_of_ble_eq_true rfl) d_Tr_fill_57 (fun ws1 H locs hw hp => ?_)
            have hR := hR.trans hp
            clear hp
            generalize ws1 = ws at hw hR
            refine lv_goto hx hb (tgt := 76) d_Tr_fill_60 (by decide) ?_
            exact J76 ws H locs ls s4 v2 hw hR (lv_sub hl [0, 1, 2] rfl) h
        · rw [if_neg hc9] at h
          refine lv_goto hx hb (tgt := 76) d_Tr_fill_26 (by decide) ?_
          exact J76 ws H locs ls s v2 hw hR (lv_sub hl [0, 1, 2] rfl) h
  unfold fn_Tr_fill at h
  obtain ⟨ws, hwe⟩ : ∃ z : va_W, z = ws0 := ⟨_, rfl⟩
  rw [← hwe] at hw
  have hR : cs_Rel g ws0 ws s := by rw [hwe]; exact hR
  clear hwe
  refine lv_aload_n hx hb d_Tr_fill_0 rfl (lv_at hl 0 rfl) ?_
  obtain ⟨s5, ho, h⟩ := ct_ob_some h
  refine ct_callVv C0 hw hl.1 (q0 := 2) (hR.1 2 (by decide)) rfl (ct_giV wd_315 wd_317 sel_Tr_clear wd_4 wd_318) (fun sz => s_Tr_clear l g ws sz hR.rf ho) (by decide +kernel) ⟨rfl, rfl⟩ (by decide) (by decide) (As := []) (rest := []) rfl (Nat.le_of_ble_eq_true rfl) d_Tr_fill_1 (fun ws1 H locs hw hp => ?_)
  have hR := hR.trans hp
  clear hp
  generalize ws1 = ws at hw hR
  refine lv_iconst (v := 0) hx hb d_Tr_fill_4 (by decide) ?_
  refine lv_istore_n (lv' := [(2, .int 0), (0, .ref (g.2.1 2)), (1, .ref (g.2.1 1))]) hx hb d_Tr_fill_5 rfl hl (by decide) rfl (fun ls hl => ?_)
  exact L6 200 ws H locs ls s5 0 hw hR (lv_sub hl [1, 2, 0] rfl) h

theorem d_CT_enter_0 : decode c_CT_enter 0 = .ok (.iload_n 1, 1) := by decide +kernel
theorem d_CT_enter_1 : decode c_CT_enter 1 = .ok (.invokestatic 76, 3) := by decide +kernel
theorem d_CT_enter_4 : decode c_CT_enter 4 = .ok (.invokestatic 37, 3) := by decide +kernel
theorem d_CT_enter_7 : decode c_CT_enter 7 = .ok (.iload_n 2, 1) := by decide +kernel
theorem d_CT_enter_8 : decode c_CT_enter 8 = .ok (.iload_n 3, 1) := by decide +kernel
theorem d_CT_enter_9 : decode c_CT_enter 9 = .ok (.invokestatic 66, 3) := by decide +kernel
theorem d_CT_enter_12 : decode c_CT_enter 12 = .ok (.aload_n 0, 1) := by decide +kernel
theorem d_CT_enter_13 : decode c_CT_enter 13 = .ok (.getfield 10, 3) := by decide +kernel
theorem d_CT_enter_16 : decode c_CT_enter 16 = .ok (.getfield 179, 3) := by decide +kernel
theorem d_CT_enter_19 : decode c_CT_enter 19 = .ok (.bipush 60, 2) := by decide +kernel
theorem d_CT_enter_21 : decode c_CT_enter 21 = .ok (.if_icmp .lt 13, 3) := by decide +kernel
theorem d_CT_enter_24 : decode c_CT_enter 24 = .ok (.new 196, 3) := by decide +kernel
theorem d_CT_enter_27 : decode c_CT_enter 27 = .ok (.dup, 1) := by decide +kernel
theorem d_CT_enter_28 : decode c_CT_enter 28 = .ok (.ldc 198, 2) := by decide +kernel
theorem d_CT_enter_30 : decode c_CT_enter 30 = .ok (.invokespecial 200, 3) := by decide +kernel
theorem d_CT_enter_33 : decode c_CT_enter 33 = .ok (.athrow, 1) := by decide +kernel
theorem d_CT_enter_34 : decode c_CT_enter 34 = .ok (.aload_n 0, 1) := by decide +kernel
theorem d_CT_enter_35 : decode c_CT_enter 35 = .ok (.getfield 10, 3) := by decide +kernel
theorem d_CT_enter_38 : decode c_CT_enter 38 = .ok (.iload_n 1, 1) := by decide +kernel
theorem d_CT_enter_39 : decode c_CT_enter 39 = .ok (.iload_n 2, 1) := by decide +kernel
theorem d_CT_enter_40 : decode c_CT_enter 40 = .ok (.iload_n 3, 1) := by decide +kernel
theorem d_CT_enter_41 : decode c_CT_enter 41 = .ok (.iload 4, 2) := by decide +kernel
theorem d_CT_enter_43 : decode c_CT_enter 43 = .ok (.iload 5, 2) := by decide +kernel
theorem d_CT_enter_45 : decode c_CT_enter 45 = .ok (.invokevirtual 201, 3) := by decide +kernel
theorem d_CT_enter_48 : decode c_CT_enter 48 = .ok (.istore 6, 2) := by decide +kernel
theorem d_CT_enter_50 : decode c_CT_enter 50 = .ok (.aload_n 0, 1) := by decide +kernel
theorem d_CT_enter_51 : decode c_CT_enter 51 = .ok (.getfield 27, 3) := by decide +kernel
theorem d_CT_enter_54 : decode c_CT_enter 54 = .ok (.aload_n 0, 1) := by decide +kernel
theorem d_CT_enter_55 : decode c_CT_enter 55 = .ok (.getfield 10, 3) := by decide +kernel
theorem d_CT_enter_58 : decode c_CT_enter 58 = .ok (.invokevirtual 56, 3) := by decide +kernel
theorem d_CT_enter_61 : decode c_CT_enter 61 = .ok (.iload 6, 2) := by decide +kernel
theorem d_CT_enter_63 : decode c_CT_enter 63 = .ok (.ireturn, 1) := by decide +kernel
set_option maxHeartbeats 4000000 in
set_option maxRecDepth 100000 in
theorem s_CT_enter (l : Launch) (g : Gx) (ws0 : va_W) (sz : Nat) {s : CS} {a1 : Int32} {a2 : Int32} {a3 : Int32} {a4 : Int32} {a5 : Int32} {res : ((Nat × CS) ⊕ (Int32 × CS))} (hR : cs_Rel g ws0 ws0 s) (hl0 : l.stackTraces = false) (h : fn_CT_enter s a1 a2 a3 a4 a5 = some res) : ct_XI l y_CT_enter c_CT_enter 7 (some .int) rm_CT_enter g ws0 sz [.ref (g.2.1 0), .int a1, .int a2, .int a3, .int a4, .int a5] res 3 18 := by
  refine ct_startXi hl0 (by decide +kernel) rfl (Nat.le_of_ble_eq_true rfl) (fun p e sv m args below meth c ls Q A H locs C0 hret hout hthr hl hw => ?_)
  have hx := C0.1
  have hb := C0.2.1
  have hown := C0.2.2.2.1
  have hts := C0.2.2.2.2.1
  have hl : lv_has ls 7 [(0, .ref (g.2.1 0)), (1, .int a1), (2, .int a2), (3, .int a3), (4, .int a4), (5, .int a5)] := hl
  unfold fn_CT_enter at h
  obtain ⟨ws, hwe⟩ : ∃ z : va_W, z = ws0 := ⟨_, rfl⟩
  rw [← hwe] at hw
  have hR : cs_Rel g ws0 ws s := by rw [hwe]; exact hR
  clear hwe
  refine lv_iload_n hx hb d_CT_enter_0 rfl (lv_at hl 1 rfl) ?_
  obtain ⟨x1, ho, h⟩ := ct_ob_some h
  refine ct_callSi C0 hw hl.1 (ct_giS wd_285 wd_286 wd_1 wd_287) (fun sz => s_CT_isLine l g ws sz ho) (by decide +kernel) ⟨rfl, rfl⟩ (by decide) (by decide) (As := [.int a1]) (rest := []) rfl (Nat.le_of_ble_eq_true rfl) d_CT_enter_1 (fun ws1 H locs hw hp => ?_)
  rw [hp] at hw
  clear hp
  obtain ⟨o2, ho, h⟩ := ct_xb_some h
  refine ct_callSXv C0 hw hl.1 (ct_giS wd_209 wd_210 wd_1 wd_211) (fun sz => s_CT_check l g ws sz hR.rf hl0 ho) (by decide +kernel) ⟨rfl, rfl⟩ (by decide) (by decide) (As := [.int x1]) (rest := []) rfl (Nat.le_of_ble_eq_true rfl) d_CT_enter_4 (fun E ce q9 ws1 H locs k9 s9 hw ho9 hE hp h1 h2 h3 => ?_) (fun ws1 H locs s9 hw ho9 hp => ?_)
  · subst ho9; obtain rfl := Option.some.inj h; exact hout hw rfl hE (hR.trans hp) h1 h2 h3 (by decide) (by decide)
  subst ho9
  have hR := hR.trans hp
  clear hp
  generalize ws1 = ws at hw hR
  generalize s9 = s3 at hR h
  refine lv_iload_n hx hb d_CT_enter_7 rfl (lv_at hl 2 rfl) ?_
  refine lv_iload_n hx hb d_CT_enter_8 rfl (lv_at hl 3 rfl) ?_
  obtain ⟨o4, ho, h⟩ := ct_xb_some h
  refine ct_callSXv C0 hw hl.1 (ct_giS wd_288 wd_289 wd_1 wd_290) (fun sz => s_CT_checkMonths l g ws sz hR.rf hl0 ho) (by decide +kernel) ⟨rfl, rfl⟩ (by decide) (by decide) (As := [.int a2, .int a3]) (rest := []) rfl (Nat.le_of_ble_eq_true rfl) d_CT_enter_9 (fun E ce q9 ws1 H locs k9 s9 hw ho9 hE hp h1 h2 h3 => ?_) (fun ws1 H locs s9 hw ho9 hp => ?_)
  · subst ho9; obtain rfl := Option.some.inj h; exact hout hw rfl hE (hR.trans hp) h1 h2 h3 (by decide) (by decide)
  subst ho9
  have hR := hR.trans hp
  clear hp
  generalize ws1 = ws at hw hR
  generalize s9 = s5 at hR h
  refine lv_aload_n hx hb d_CT_enter_12 rfl (lv_at hl 0 rfl) ?_
  refine gf_CT_10 C0 hw hR d_CT_enter_13 ?_
  refine gf_CT_179 C0 hw hR d_CT_enter_16 ?_
  refine lv_bipush (v := 60) hx hb d_CT_enter_19 (by decide) ?_
  refine lv_icmp_lt hx hb (tgt := 34) d_CT_enter_21 (by decide) (fun hc9 => ?_) (fun hc9 => ?_)
  · rw [if_pos hc9] at h
    refine lv_aload_n hx hb d_CT_enter_34 rfl (lv_at hl 0 rfl) ?_
    refine gf_CT_10 C0 hw hR d_CT_enter_35 ?_
    refine lv_iload_n hx hb d_CT_enter_38 rfl (lv_at hl 1 rfl) ?_
    refine lv_iload_n hx hb d_CT_enter_39 rfl (lv_at hl 2 rfl) ?_
    refine lv_iload_n hx hb d_CT_enter_40 rfl (lv_at hl 3 rfl) ?_
    refine lv_iload hx hb d_CT_enter_41 (lv_at hl 4 rfl) ?_
    refine lv_iload hx hb d_CT_enter_43 (lv_at hl 5 rfl) ?_
    obtain ⟨x6, s7, ho, h⟩ := ct_ob2_some h
    refine ct_callVi C0 hw hl.1 (q0 := 1) (hR.1 1 (by decide)) rfl (ct_giV wd_307 wd_308 wd_309 wd_2 wd_310) (fun sz => s_Le_append l g ws sz hR.rf ho) (by decide +kernel) ⟨rfl, rfl⟩ (by decide) (by decide) (As := [.int a1, .int a2, .int a3, .int a4, .int a5]) (rest := []) rfl (Nat.le_of_ble_eq_true rfl) d_CT_enter_45 (fun ws1 H locs hw hp => ?_)
    have hR := hR.trans hp
    clear hp
    generalize ws1 = ws at hw hR
    refine lv_istore (lv' := [(6, .int x6), (0, .ref (g.2.1 0)), (1, .int a1), (2, .int a2), (3, .int a3), (4, .int a4), (5, .int a5)]) hx hb d_CT_enter_48 hl (by decide) rfl (fun ls hl => ?_)
    refine lv_aload_n hx hb d_CT_enter_50 rfl (lv_at hl 1 rfl) ?_
    refine gf_CT_27 C0 hw hR d_CT_enter_51 ?_
    refine lv_aload_n hx hb d_CT_enter_54 rfl (lv_at hl 1 rfl) ?_
    refine gf_CT_10 C0 hw hR d_CT_enter_55 ?_
    obtain ⟨s8, ho, h⟩ := ct_ob_some h
    refine ct_callVv C0 hw hl.1 (q0 := 2) (hR.1 2 (by decide)) rfl (ct_giV wd_311 wd_312 wd_313 wd_4 wd_314) (fun sz => s_Tr_fill l g ws sz hR.rf ho) (by decide +kernel) ⟨rfl, rfl⟩ (by decide) (by decide) (As := [.ref (g.2.1 1)]) (rest := []) rfl (Nat.le_of_ble_eq_true rfl) d_CT_enter_58 (fun ws1 H locs hw hp => ?_)
    have hR := hR.trans hp
    clear hp
    generalize ws1 = ws at hw hR
    refine lv_iload hx hb d_CT_enter_61 (lv_at hl 0 rfl) ?_
    obtain rfl := Option.some.inj h
    exact hret hw ⟨_, rfl, hR⟩ (by decide) (by decide) d_CT_enter_63
  · rw [if_neg hc9] at h
    obtain rfl := Option.some.inj h
    exact hthr (X := "java/lang/IllegalStateException") (k := 2) hl.1 hw hR rfl rfl (by decide +kernel) wd_291 wd_12 (by decide +kernel : (198, _) ∈ ct_str) ok_thr_200.1 ok_thr_200.2 (ok_thr_200_g _) d_CT_enter_24 d_CT_enter_27 d_CT_enter_28 d_CT_enter_30 d_CT_enter_33 (by decide) (Nat.le_of_ble_eq_true rfl) (by decide) (by decide) (by decide) (by decide)
end
