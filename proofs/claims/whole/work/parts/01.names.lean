-- ===== PART A: goes FIRST, ahead of the names: the tables' words, and 'selects' of the private methods out of them =====
/-- a private method of a class that the tables say can be made, by its rows of tables_1 -/
def lw_okq (q : MethodName × Nat) : Prop := (q.1.cls ≠ "java/lang/invoke/MethodHandle" ∧ q.1.cls ≠ "java/lang/invoke/VarHandle") ∧ Cond.instantiable q.1.cls q.2 ∈ tables_1 ∧ Cond.privateMethod q.1 ∈ tables_1 ∧ Cond.instanceMethod q.1 ∈ tables_1
theorem lw_p0 : lw_okq (⟨"ThickerBook$Reading", "clauses", "()Z"⟩, 5) := ⟨⟨by decide +kernel, by decide +kernel⟩, List.mem_of_getElem? (i := 256) (by decide +kernel), List.mem_of_getElem? (i := 279) (by decide +kernel), List.mem_of_getElem? (i := 280) (by decide +kernel)⟩
theorem lw_p1 : lw_okq (⟨"ThickerBook$Reading", "clause", "()Z"⟩, 5) := ⟨⟨by decide +kernel, by decide +kernel⟩, List.mem_of_getElem? (i := 256) (by decide +kernel), List.mem_of_getElem? (i := 283) (by decide +kernel), List.mem_of_getElem? (i := 284) (by decide +kernel)⟩
theorem lw_p2 : lw_okq (⟨"ThickerBook$Reading", "sign", "()I"⟩, 5) := ⟨⟨by decide +kernel, by decide +kernel⟩, List.mem_of_getElem? (i := 256) (by decide +kernel), List.mem_of_getElem? (i := 287) (by decide +kernel), List.mem_of_getElem? (i := 288) (by decide +kernel)⟩
theorem lw_p3 : lw_okq (⟨"ThickerBook$Reading", "word", "(Ljava/lang/String;)Z"⟩, 5) := ⟨⟨by decide +kernel, by decide +kernel⟩, List.mem_of_getElem? (i := 256) (by decide +kernel), List.mem_of_getElem? (i := 293) (by decide +kernel), List.mem_of_getElem? (i := 294) (by decide +kernel)⟩
theorem lw_p4 : lw_okq (⟨"ThickerBook$Reading", "takes", "(I)Z"⟩, 5) := ⟨⟨by decide +kernel, by decide +kernel⟩, List.mem_of_getElem? (i := 256) (by decide +kernel), List.mem_of_getElem? (i := 345) (by decide +kernel), List.mem_of_getElem? (i := 346) (by decide +kernel)⟩
theorem lw_p5 : lw_okq (⟨"ThickerBook$Reading", "number", "()Z"⟩, 5) := ⟨⟨by decide +kernel, by decide +kernel⟩, List.mem_of_getElem? (i := 256) (by decide +kernel), List.mem_of_getElem? (i := 349) (by decide +kernel), List.mem_of_getElem? (i := 350) (by decide +kernel)⟩
theorem lw_p6 : lw_okq (⟨"ThickerBook$Reading", "testing", "()Z"⟩, 5) := ⟨⟨by decide +kernel, by decide +kernel⟩, List.mem_of_getElem? (i := 256) (by decide +kernel), List.mem_of_getElem? (i := 359) (by decide +kernel), List.mem_of_getElem? (i := 360) (by decide +kernel)⟩
theorem lw_p7 : lw_okq (⟨"ThickerBook$Town", "write", "(I)V"⟩, 7) := ⟨⟨by decide +kernel, by decide +kernel⟩, List.mem_of_getElem? (i := 31) (by decide +kernel), List.mem_of_getElem? (i := 372) (by decide +kernel), List.mem_of_getElem? (i := 373) (by decide +kernel)⟩
theorem lw_p8 : lw_okq (⟨"ThickerBook$Town", "endFeeling", "(I)V"⟩, 7) := ⟨⟨by decide +kernel, by decide +kernel⟩, List.mem_of_getElem? (i := 31) (by decide +kernel), List.mem_of_getElem? (i := 377) (by decide +kernel), List.mem_of_getElem? (i := 378) (by decide +kernel)⟩
theorem lw_p9 : lw_okq (⟨"ThickerBook$World", "enter", "(II)V"⟩, 13) := ⟨⟨by decide +kernel, by decide +kernel⟩, List.mem_of_getElem? (i := 25) (by decide +kernel), List.mem_of_getElem? (i := 395) (by decide +kernel), List.mem_of_getElem? (i := 396) (by decide +kernel)⟩
theorem lw_p10 : lw_okq (⟨"ThickerBook$World", "isReader", "(I)Z"⟩, 13) := ⟨⟨by decide +kernel, by decide +kernel⟩, List.mem_of_getElem? (i := 25) (by decide +kernel), List.mem_of_getElem? (i := 404) (by decide +kernel), List.mem_of_getElem? (i := 405) (by decide +kernel)⟩
theorem lw_p11 : lw_okq (⟨"ThickerBook", "fresh", "()V"⟩, 8) := ⟨⟨by decide +kernel, by decide +kernel⟩, List.mem_of_getElem? (i := 17) (by decide +kernel), List.mem_of_getElem? (i := 411) (by decide +kernel), List.mem_of_getElem? (i := 412) (by decide +kernel)⟩
theorem lw_p12 : lw_okq (⟨"ThickerBook$World", "copy", "(LThickerBook$World;)V"⟩, 13) := ⟨⟨by decide +kernel, by decide +kernel⟩, List.mem_of_getElem? (i := 25) (by decide +kernel), List.mem_of_getElem? (i := 415) (by decide +kernel), List.mem_of_getElem? (i := 416) (by decide +kernel)⟩
theorem lw_p13 : lw_okq (⟨"ThickerBook$World", "learn", "()V"⟩, 13) := ⟨⟨by decide +kernel, by decide +kernel⟩, List.mem_of_getElem? (i := 25) (by decide +kernel), List.mem_of_getElem? (i := 422) (by decide +kernel), List.mem_of_getElem? (i := 423) (by decide +kernel)⟩
theorem lw_p14 : lw_okq (⟨"ThickerBook$Town", "plainOf", "([I)I"⟩, 7) := ⟨⟨by decide +kernel, by decide +kernel⟩, List.mem_of_getElem? (i := 31) (by decide +kernel), List.mem_of_getElem? (i := 427) (by decide +kernel), List.mem_of_getElem? (i := 428) (by decide +kernel)⟩
theorem lw_p15 : lw_okq (⟨"ThickerBook$Town", "holds", "(II[I)Z"⟩, 7) := ⟨⟨by decide +kernel, by decide +kernel⟩, List.mem_of_getElem? (i := 31) (by decide +kernel), List.mem_of_getElem? (i := 432) (by decide +kernel), List.mem_of_getElem? (i := 433) (by decide +kernel)⟩
def lw_privs_1 : List (MethodName × Nat) := [(⟨"ThickerBook$Reading", "clauses", "()Z"⟩, 5), (⟨"ThickerBook$Reading", "clause", "()Z"⟩, 5), (⟨"ThickerBook$Reading", "sign", "()I"⟩, 5), (⟨"ThickerBook$Reading", "word", "(Ljava/lang/String;)Z"⟩, 5), (⟨"ThickerBook$Reading", "takes", "(I)Z"⟩, 5), (⟨"ThickerBook$Reading", "number", "()Z"⟩, 5), (⟨"ThickerBook$Reading", "testing", "()Z"⟩, 5), (⟨"ThickerBook$Town", "write", "(I)V"⟩, 7), (⟨"ThickerBook$Town", "endFeeling", "(I)V"⟩, 7), (⟨"ThickerBook$World", "enter", "(II)V"⟩, 13), (⟨"ThickerBook$World", "isReader", "(I)Z"⟩, 13), (⟨"ThickerBook", "fresh", "()V"⟩, 8), (⟨"ThickerBook$World", "copy", "(LThickerBook$World;)V"⟩, 13), (⟨"ThickerBook$World", "learn", "()V"⟩, 13), (⟨"ThickerBook$Town", "plainOf", "([I)I"⟩, 7), (⟨"ThickerBook$Town", "holds", "(II[I)Z"⟩, 7)]
theorem lw_r1 : ∀ q ∈ lw_privs_1, lw_okq q := List.forall_mem_cons.mpr ⟨lw_p0, List.forall_mem_cons.mpr ⟨lw_p1, List.forall_mem_cons.mpr ⟨lw_p2, List.forall_mem_cons.mpr ⟨lw_p3, List.forall_mem_cons.mpr ⟨lw_p4, List.forall_mem_cons.mpr ⟨lw_p5, List.forall_mem_cons.mpr ⟨lw_p6, List.forall_mem_cons.mpr ⟨lw_p7, List.forall_mem_cons.mpr ⟨lw_p8, List.forall_mem_cons.mpr ⟨lw_p9, List.forall_mem_cons.mpr ⟨lw_p10, List.forall_mem_cons.mpr ⟨lw_p11, List.forall_mem_cons.mpr ⟨lw_p12, List.forall_mem_cons.mpr ⟨lw_p13, List.forall_mem_cons.mpr ⟨lw_p14, List.forall_mem_cons.mpr ⟨lw_p15, fun _ h => absurd h List.not_mem_nil⟩⟩⟩⟩⟩⟩⟩⟩⟩⟩⟩⟩⟩⟩⟩⟩
theorem lw_p16 : lw_okq (⟨"ThickerBook$World", "choice", "(I)I"⟩, 13) := ⟨⟨by decide +kernel, by decide +kernel⟩, List.mem_of_getElem? (i := 25) (by decide +kernel), List.mem_of_getElem? (i := 439) (by decide +kernel), List.mem_of_getElem? (i := 440) (by decide +kernel)⟩
theorem lw_p17 : lw_okq (⟨"ThickerBook$World", "liking", "(II)I"⟩, 13) := ⟨⟨by decide +kernel, by decide +kernel⟩, List.mem_of_getElem? (i := 25) (by decide +kernel), List.mem_of_getElem? (i := 443) (by decide +kernel), List.mem_of_getElem? (i := 444) (by decide +kernel)⟩
theorem lw_p18 : lw_okq (⟨"ThickerBook$World", "may", "(II)Z"⟩, 13) := ⟨⟨by decide +kernel, by decide +kernel⟩, List.mem_of_getElem? (i := 25) (by decide +kernel), List.mem_of_getElem? (i := 447) (by decide +kernel), List.mem_of_getElem? (i := 448) (by decide +kernel)⟩
theorem lw_p19 : lw_okq (⟨"ThickerBook$World", "holder", "(I)I"⟩, 13) := ⟨⟨by decide +kernel, by decide +kernel⟩, List.mem_of_getElem? (i := 25) (by decide +kernel), List.mem_of_getElem? (i := 451) (by decide +kernel), List.mem_of_getElem? (i := 452) (by decide +kernel)⟩
theorem lw_p20 : lw_okq (⟨"ThickerBook$World", "isThicker", "(II)Z"⟩, 13) := ⟨⟨by decide +kernel, by decide +kernel⟩, List.mem_of_getElem? (i := 25) (by decide +kernel), List.mem_of_getElem? (i := 455) (by decide +kernel), List.mem_of_getElem? (i := 456) (by decide +kernel)⟩
theorem lw_p21 : lw_okq (⟨"ThickerBook$World", "takeable", "(I)I"⟩, 13) := ⟨⟨by decide +kernel, by decide +kernel⟩, List.mem_of_getElem? (i := 25) (by decide +kernel), List.mem_of_getElem? (i := 460) (by decide +kernel), List.mem_of_getElem? (i := 461) (by decide +kernel)⟩
theorem lw_p22 : lw_okq (⟨"ThickerBook$World", "isBook", "(I)Z"⟩, 13) := ⟨⟨by decide +kernel, by decide +kernel⟩, List.mem_of_getElem? (i := 25) (by decide +kernel), List.mem_of_getElem? (i := 468) (by decide +kernel), List.mem_of_getElem? (i := 469) (by decide +kernel)⟩
theorem lw_p23 : lw_okq (⟨"ThickerBook$World", "total", "()I"⟩, 13) := ⟨⟨by decide +kernel, by decide +kernel⟩, List.mem_of_getElem? (i := 25) (by decide +kernel), List.mem_of_getElem? (i := 490) (by decide +kernel), List.mem_of_getElem? (i := 491) (by decide +kernel)⟩
theorem lw_p24 : lw_okq (⟨"ThickerBook$World", "shelf", "()I"⟩, 13) := ⟨⟨by decide +kernel, by decide +kernel⟩, List.mem_of_getElem? (i := 25) (by decide +kernel), List.mem_of_getElem? (i := 494) (by decide +kernel), List.mem_of_getElem? (i := 495) (by decide +kernel)⟩
theorem lw_p25 : lw_okq (⟨"ThickerBook$World", "allBooks", "()I"⟩, 13) := ⟨⟨by decide +kernel, by decide +kernel⟩, List.mem_of_getElem? (i := 25) (by decide +kernel), List.mem_of_getElem? (i := 498) (by decide +kernel), List.mem_of_getElem? (i := 499) (by decide +kernel)⟩
theorem lw_p26 : lw_okq (⟨"ThickerBook$World", "learnAnew", "()V"⟩, 13) := ⟨⟨by decide +kernel, by decide +kernel⟩, List.mem_of_getElem? (i := 25) (by decide +kernel), List.mem_of_getElem? (i := 506) (by decide +kernel), List.mem_of_getElem? (i := 507) (by decide +kernel)⟩
theorem lw_p27 : lw_okq (⟨"ThickerBook$World", "comes", "(I)Z"⟩, 13) := ⟨⟨by decide +kernel, by decide +kernel⟩, List.mem_of_getElem? (i := 25) (by decide +kernel), List.mem_of_getElem? (i := 511) (by decide +kernel), List.mem_of_getElem? (i := 512) (by decide +kernel)⟩
theorem lw_p28 : lw_okq (⟨"ThickerBook$World", "bind", "(IZ)V"⟩, 13) := ⟨⟨by decide +kernel, by decide +kernel⟩, List.mem_of_getElem? (i := 25) (by decide +kernel), List.mem_of_getElem? (i := 520) (by decide +kernel), List.mem_of_getElem? (i := 521) (by decide +kernel)⟩
theorem lw_p29 : lw_okq (⟨"ThickerBook$World", "goDay", "()I"⟩, 13) := ⟨⟨by decide +kernel, by decide +kernel⟩, List.mem_of_getElem? (i := 25) (by decide +kernel), List.mem_of_getElem? (i := 534) (by decide +kernel), List.mem_of_getElem? (i := 535) (by decide +kernel)⟩
theorem lw_p30 : lw_okq (⟨"ThickerBook", "goOn", "(I)I"⟩, 8) := ⟨⟨by decide +kernel, by decide +kernel⟩, List.mem_of_getElem? (i := 17) (by decide +kernel), List.mem_of_getElem? (i := 543) (by decide +kernel), List.mem_of_getElem? (i := 544) (by decide +kernel)⟩
theorem lw_p31 : lw_okq (⟨"ThickerBook$World", "rests", "()Z"⟩, 13) := ⟨⟨by decide +kernel, by decide +kernel⟩, List.mem_of_getElem? (i := 25) (by decide +kernel), List.mem_of_getElem? (i := 551) (by decide +kernel), List.mem_of_getElem? (i := 552) (by decide +kernel)⟩
def lw_privs_2 : List (MethodName × Nat) := [(⟨"ThickerBook$World", "choice", "(I)I"⟩, 13), (⟨"ThickerBook$World", "liking", "(II)I"⟩, 13), (⟨"ThickerBook$World", "may", "(II)Z"⟩, 13), (⟨"ThickerBook$World", "holder", "(I)I"⟩, 13), (⟨"ThickerBook$World", "isThicker", "(II)Z"⟩, 13), (⟨"ThickerBook$World", "takeable", "(I)I"⟩, 13), (⟨"ThickerBook$World", "isBook", "(I)Z"⟩, 13), (⟨"ThickerBook$World", "total", "()I"⟩, 13), (⟨"ThickerBook$World", "shelf", "()I"⟩, 13), (⟨"ThickerBook$World", "allBooks", "()I"⟩, 13), (⟨"ThickerBook$World", "learnAnew", "()V"⟩, 13), (⟨"ThickerBook$World", "comes", "(I)Z"⟩, 13), (⟨"ThickerBook$World", "bind", "(IZ)V"⟩, 13), (⟨"ThickerBook$World", "goDay", "()I"⟩, 13), (⟨"ThickerBook", "goOn", "(I)I"⟩, 8), (⟨"ThickerBook$World", "rests", "()Z"⟩, 13)]
theorem lw_r2 : ∀ q ∈ lw_privs_2, lw_okq q := List.forall_mem_cons.mpr ⟨lw_p16, List.forall_mem_cons.mpr ⟨lw_p17, List.forall_mem_cons.mpr ⟨lw_p18, List.forall_mem_cons.mpr ⟨lw_p19, List.forall_mem_cons.mpr ⟨lw_p20, List.forall_mem_cons.mpr ⟨lw_p21, List.forall_mem_cons.mpr ⟨lw_p22, List.forall_mem_cons.mpr ⟨lw_p23, List.forall_mem_cons.mpr ⟨lw_p24, List.forall_mem_cons.mpr ⟨lw_p25, List.forall_mem_cons.mpr ⟨lw_p26, List.forall_mem_cons.mpr ⟨lw_p27, List.forall_mem_cons.mpr ⟨lw_p28, List.forall_mem_cons.mpr ⟨lw_p29, List.forall_mem_cons.mpr ⟨lw_p30, List.forall_mem_cons.mpr ⟨lw_p31, fun _ h => absurd h List.not_mem_nil⟩⟩⟩⟩⟩⟩⟩⟩⟩⟩⟩⟩⟩⟩⟩⟩
theorem lw_p32 : lw_okq (⟨"ThickerBook$World", "isStuck", "()Z"⟩, 13) := ⟨⟨by decide +kernel, by decide +kernel⟩, List.mem_of_getElem? (i := 25) (by decide +kernel), List.mem_of_getElem? (i := 555) (by decide +kernel), List.mem_of_getElem? (i := 556) (by decide +kernel)⟩
theorem lw_p33 : lw_okq (⟨"ThickerBook$Goes", "search", "(LThickerBook$World;)V"⟩, 4) := ⟨⟨by decide +kernel, by decide +kernel⟩, List.mem_of_getElem? (i := 174) (by decide +kernel), List.mem_of_getElem? (i := 564) (by decide +kernel), List.mem_of_getElem? (i := 565) (by decide +kernel)⟩
theorem lw_p34 : lw_okq (⟨"ThickerBook$Goes", "meet", "(LThickerBook$World;I)V"⟩, 4) := ⟨⟨by decide +kernel, by decide +kernel⟩, List.mem_of_getElem? (i := 174) (by decide +kernel), List.mem_of_getElem? (i := 571) (by decide +kernel), List.mem_of_getElem? (i := 572) (by decide +kernel)⟩
theorem lw_p35 : lw_okq (⟨"ThickerBook$World", "holding", "()I"⟩, 13) := ⟨⟨by decide +kernel, by decide +kernel⟩, List.mem_of_getElem? (i := 25) (by decide +kernel), List.mem_of_getElem? (i := 575) (by decide +kernel), List.mem_of_getElem? (i := 576) (by decide +kernel)⟩
theorem lw_p36 : lw_okq (⟨"ThickerBook$Goes", "spread", "(LThickerBook$World;II)V"⟩, 4) := ⟨⟨by decide +kernel, by decide +kernel⟩, List.mem_of_getElem? (i := 174) (by decide +kernel), List.mem_of_getElem? (i := 581) (by decide +kernel), List.mem_of_getElem? (i := 582) (by decide +kernel)⟩
theorem lw_p37 : lw_okq (⟨"ThickerBook$World", "hold", "(I)V"⟩, 13) := ⟨⟨by decide +kernel, by decide +kernel⟩, List.mem_of_getElem? (i := 25) (by decide +kernel), List.mem_of_getElem? (i := 585) (by decide +kernel), List.mem_of_getElem? (i := 586) (by decide +kernel)⟩
theorem lw_p38 : lw_okq (⟨"ThickerBook$Goes", "step", "(LThickerBook$World;IIII)V"⟩, 4) := ⟨⟨by decide +kernel, by decide +kernel⟩, List.mem_of_getElem? (i := 174) (by decide +kernel), List.mem_of_getElem? (i := 593) (by decide +kernel), List.mem_of_getElem? (i := 594) (by decide +kernel)⟩
theorem lw_p39 : lw_okq (⟨"ThickerBook$World", "trade", "(II)V"⟩, 13) := ⟨⟨by decide +kernel, by decide +kernel⟩, List.mem_of_getElem? (i := 25) (by decide +kernel), List.mem_of_getElem? (i := 597) (by decide +kernel), List.mem_of_getElem? (i := 598) (by decide +kernel)⟩
theorem lw_p40 : lw_okq (⟨"ThickerBook$World", "wouldChange", "(II)Z"⟩, 13) := ⟨⟨by decide +kernel, by decide +kernel⟩, List.mem_of_getElem? (i := 25) (by decide +kernel), List.mem_of_getElem? (i := 601) (by decide +kernel), List.mem_of_getElem? (i := 602) (by decide +kernel)⟩
theorem lw_p41 : lw_okq (⟨"ThickerBook$Goes", "fewest", "(II)I"⟩, 4) := ⟨⟨by decide +kernel, by decide +kernel⟩, List.mem_of_getElem? (i := 174) (by decide +kernel), List.mem_of_getElem? (i := 605) (by decide +kernel), List.mem_of_getElem? (i := 606) (by decide +kernel)⟩
theorem lw_p42 : lw_okq (⟨"ThickerBook$Goes", "reached", "(I)I"⟩, 4) := ⟨⟨by decide +kernel, by decide +kernel⟩, List.mem_of_getElem? (i := 174) (by decide +kernel), List.mem_of_getElem? (i := 614) (by decide +kernel), List.mem_of_getElem? (i := 615) (by decide +kernel)⟩
theorem lw_p43 : lw_okq (⟨"ThickerBook$Goes", "best", "(LThickerBook$World;)I"⟩, 4) := ⟨⟨by decide +kernel, by decide +kernel⟩, List.mem_of_getElem? (i := 174) (by decide +kernel), List.mem_of_getElem? (i := 627) (by decide +kernel), List.mem_of_getElem? (i := 628) (by decide +kernel)⟩
theorem lw_p44 : lw_okq (⟨"ThickerBook", "bestOrder", "()I"⟩, 8) := ⟨⟨by decide +kernel, by decide +kernel⟩, List.mem_of_getElem? (i := 17) (by decide +kernel), List.mem_of_getElem? (i := 637) (by decide +kernel), List.mem_of_getElem? (i := 638) (by decide +kernel)⟩
theorem lw_p45 : lw_okq (⟨"ThickerBook", "isOrder", "(I)Z"⟩, 8) := ⟨⟨by decide +kernel, by decide +kernel⟩, List.mem_of_getElem? (i := 17) (by decide +kernel), List.mem_of_getElem? (i := 641) (by decide +kernel), List.mem_of_getElem? (i := 642) (by decide +kernel)⟩
theorem lw_p46 : lw_okq (⟨"ThickerBook", "comer", "(II)I"⟩, 8) := ⟨⟨by decide +kernel, by decide +kernel⟩, List.mem_of_getElem? (i := 17) (by decide +kernel), List.mem_of_getElem? (i := 645) (by decide +kernel), List.mem_of_getElem? (i := 646) (by decide +kernel)⟩
theorem lw_p47 : lw_okq (⟨"ThickerBook", "totalBy", "(I)I"⟩, 8) := ⟨⟨by decide +kernel, by decide +kernel⟩, List.mem_of_getElem? (i := 17) (by decide +kernel), List.mem_of_getElem? (i := 649) (by decide +kernel), List.mem_of_getElem? (i := 650) (by decide +kernel)⟩
def lw_privs_3 : List (MethodName × Nat) := [(⟨"ThickerBook$World", "isStuck", "()Z"⟩, 13), (⟨"ThickerBook$Goes", "search", "(LThickerBook$World;)V"⟩, 4), (⟨"ThickerBook$Goes", "meet", "(LThickerBook$World;I)V"⟩, 4), (⟨"ThickerBook$World", "holding", "()I"⟩, 13), (⟨"ThickerBook$Goes", "spread", "(LThickerBook$World;II)V"⟩, 4), (⟨"ThickerBook$World", "hold", "(I)V"⟩, 13), (⟨"ThickerBook$Goes", "step", "(LThickerBook$World;IIII)V"⟩, 4), (⟨"ThickerBook$World", "trade", "(II)V"⟩, 13), (⟨"ThickerBook$World", "wouldChange", "(II)Z"⟩, 13), (⟨"ThickerBook$Goes", "fewest", "(II)I"⟩, 4), (⟨"ThickerBook$Goes", "reached", "(I)I"⟩, 4), (⟨"ThickerBook$Goes", "best", "(LThickerBook$World;)I"⟩, 4), (⟨"ThickerBook", "bestOrder", "()I"⟩, 8), (⟨"ThickerBook", "isOrder", "(I)Z"⟩, 8), (⟨"ThickerBook", "comer", "(II)I"⟩, 8), (⟨"ThickerBook", "totalBy", "(I)I"⟩, 8)]
theorem lw_r3 : ∀ q ∈ lw_privs_3, lw_okq q := List.forall_mem_cons.mpr ⟨lw_p32, List.forall_mem_cons.mpr ⟨lw_p33, List.forall_mem_cons.mpr ⟨lw_p34, List.forall_mem_cons.mpr ⟨lw_p35, List.forall_mem_cons.mpr ⟨lw_p36, List.forall_mem_cons.mpr ⟨lw_p37, List.forall_mem_cons.mpr ⟨lw_p38, List.forall_mem_cons.mpr ⟨lw_p39, List.forall_mem_cons.mpr ⟨lw_p40, List.forall_mem_cons.mpr ⟨lw_p41, List.forall_mem_cons.mpr ⟨lw_p42, List.forall_mem_cons.mpr ⟨lw_p43, List.forall_mem_cons.mpr ⟨lw_p44, List.forall_mem_cons.mpr ⟨lw_p45, List.forall_mem_cons.mpr ⟨lw_p46, List.forall_mem_cons.mpr ⟨lw_p47, fun _ h => absurd h List.not_mem_nil⟩⟩⟩⟩⟩⟩⟩⟩⟩⟩⟩⟩⟩⟩⟩⟩
theorem lw_p48 : lw_okq (⟨"ThickerBook$World", "goBack", "(LThickerBook$World;)V"⟩, 13) := ⟨⟨by decide +kernel, by decide +kernel⟩, List.mem_of_getElem? (i := 25) (by decide +kernel), List.mem_of_getElem? (i := 653) (by decide +kernel), List.mem_of_getElem? (i := 654) (by decide +kernel)⟩
theorem lw_p49 : lw_okq (⟨"ThickerBook$World", "likesMost", "(II)Z"⟩, 13) := ⟨⟨by decide +kernel, by decide +kernel⟩, List.mem_of_getElem? (i := 25) (by decide +kernel), List.mem_of_getElem? (i := 672) (by decide +kernel), List.mem_of_getElem? (i := 673) (by decide +kernel)⟩
theorem lw_p50 : lw_okq (⟨"ThickerBook$World", "shelfThick", "()I"⟩, 13) := ⟨⟨by decide +kernel, by decide +kernel⟩, List.mem_of_getElem? (i := 25) (by decide +kernel), List.mem_of_getElem? (i := 680) (by decide +kernel), List.mem_of_getElem? (i := 681) (by decide +kernel)⟩
theorem lw_p51 : lw_okq (⟨"ThickerBook", "isAllSeen", "()Z"⟩, 8) := ⟨⟨by decide +kernel, by decide +kernel⟩, List.mem_of_getElem? (i := 17) (by decide +kernel), List.mem_of_getElem? (i := 693) (by decide +kernel), List.mem_of_getElem? (i := 694) (by decide +kernel)⟩
theorem lw_p52 : lw_okq (⟨"ThickerBook", "isSeenBehind", "(I)Z"⟩, 8) := ⟨⟨by decide +kernel, by decide +kernel⟩, List.mem_of_getElem? (i := 17) (by decide +kernel), List.mem_of_getElem? (i := 697) (by decide +kernel), List.mem_of_getElem? (i := 698) (by decide +kernel)⟩
theorem lw_p53 : lw_okq (⟨"ThickerBook", "follow", "(II)V"⟩, 8) := ⟨⟨by decide +kernel, by decide +kernel⟩, List.mem_of_getElem? (i := 17) (by decide +kernel), List.mem_of_getElem? (i := 731) (by decide +kernel), List.mem_of_getElem? (i := 732) (by decide +kernel)⟩
theorem lw_p54 : lw_okq (⟨"ThickerBook$Acts", "doneBy", "(IIIII)I"⟩, 5) := ⟨⟨by decide +kernel, by decide +kernel⟩, List.mem_of_getElem? (i := 194) (by decide +kernel), List.mem_of_getElem? (i := 747) (by decide +kernel), List.mem_of_getElem? (i := 748) (by decide +kernel)⟩
theorem lw_p55 : lw_okq (⟨"ThickerBook$Papers", "copy", "(LThickerBook$Papers;)V"⟩, 12) := ⟨⟨by decide +kernel, by decide +kernel⟩, List.mem_of_getElem? (i := 119) (by decide +kernel), List.mem_of_getElem? (i := 779) (by decide +kernel), List.mem_of_getElem? (i := 780) (by decide +kernel)⟩
theorem lw_p56 : lw_okq (⟨"ThickerBookModel", "clauseHere", "()V"⟩, 25) := ⟨⟨by decide +kernel, by decide +kernel⟩, List.mem_of_getElem? (i := 792) (by decide +kernel), List.mem_of_getElem? (i := 885) (by decide +kernel), List.mem_of_getElem? (i := 886) (by decide +kernel)⟩
theorem lw_p57 : lw_okq (⟨"ThickerBookModel", "here", "()I"⟩, 25) := ⟨⟨by decide +kernel, by decide +kernel⟩, List.mem_of_getElem? (i := 792) (by decide +kernel), List.mem_of_getElem? (i := 889) (by decide +kernel), List.mem_of_getElem? (i := 890) (by decide +kernel)⟩
theorem lw_p58 : lw_okq (⟨"ThickerBookModel", "tellsHere", "(ILjava/lang/String;)V"⟩, 25) := ⟨⟨by decide +kernel, by decide +kernel⟩, List.mem_of_getElem? (i := 792) (by decide +kernel), List.mem_of_getElem? (i := 894) (by decide +kernel), List.mem_of_getElem? (i := 895) (by decide +kernel)⟩
theorem lw_p59 : lw_okq (⟨"ThickerBookModel", "spells", "(Ljava/lang/String;)V"⟩, 25) := ⟨⟨by decide +kernel, by decide +kernel⟩, List.mem_of_getElem? (i := 792) (by decide +kernel), List.mem_of_getElem? (i := 898) (by decide +kernel), List.mem_of_getElem? (i := 899) (by decide +kernel)⟩
theorem lw_p60 : lw_okq (⟨"ThickerBookModel", "must", "(I)V"⟩, 25) := ⟨⟨by decide +kernel, by decide +kernel⟩, List.mem_of_getElem? (i := 792) (by decide +kernel), List.mem_of_getElem? (i := 904) (by decide +kernel), List.mem_of_getElem? (i := 905) (by decide +kernel)⟩
theorem lw_p61 : lw_okq (⟨"ThickerBookModel", "figures", "()I"⟩, 25) := ⟨⟨by decide +kernel, by decide +kernel⟩, List.mem_of_getElem? (i := 792) (by decide +kernel), List.mem_of_getElem? (i := 908) (by decide +kernel), List.mem_of_getElem? (i := 909) (by decide +kernel)⟩
theorem lw_p62 : lw_okq (⟨"ThickerBookModel", "much", "(ILjava/lang/String;)V"⟩, 25) := ⟨⟨by decide +kernel, by decide +kernel⟩, List.mem_of_getElem? (i := 792) (by decide +kernel), List.mem_of_getElem? (i := 914) (by decide +kernel), List.mem_of_getElem? (i := 915) (by decide +kernel)⟩
theorem lw_p63 : lw_okq (⟨"ThickerBookModel", "some", "()V"⟩, 25) := ⟨⟨by decide +kernel, by decide +kernel⟩, List.mem_of_getElem? (i := 792) (by decide +kernel), List.mem_of_getElem? (i := 918) (by decide +kernel), List.mem_of_getElem? (i := 919) (by decide +kernel)⟩
def lw_privs_4 : List (MethodName × Nat) := [(⟨"ThickerBook$World", "goBack", "(LThickerBook$World;)V"⟩, 13), (⟨"ThickerBook$World", "likesMost", "(II)Z"⟩, 13), (⟨"ThickerBook$World", "shelfThick", "()I"⟩, 13), (⟨"ThickerBook", "isAllSeen", "()Z"⟩, 8), (⟨"ThickerBook", "isSeenBehind", "(I)Z"⟩, 8), (⟨"ThickerBook", "follow", "(II)V"⟩, 8), (⟨"ThickerBook$Acts", "doneBy", "(IIIII)I"⟩, 5), (⟨"ThickerBook$Papers", "copy", "(LThickerBook$Papers;)V"⟩, 12), (⟨"ThickerBookModel", "clauseHere", "()V"⟩, 25), (⟨"ThickerBookModel", "here", "()I"⟩, 25), (⟨"ThickerBookModel", "tellsHere", "(ILjava/lang/String;)V"⟩, 25), (⟨"ThickerBookModel", "spells", "(Ljava/lang/String;)V"⟩, 25), (⟨"ThickerBookModel", "must", "(I)V"⟩, 25), (⟨"ThickerBookModel", "figures", "()I"⟩, 25), (⟨"ThickerBookModel", "much", "(ILjava/lang/String;)V"⟩, 25), (⟨"ThickerBookModel", "some", "()V"⟩, 25)]
theorem lw_r4 : ∀ q ∈ lw_privs_4, lw_okq q := List.forall_mem_cons.mpr ⟨lw_p48, List.forall_mem_cons.mpr ⟨lw_p49, List.forall_mem_cons.mpr ⟨lw_p50, List.forall_mem_cons.mpr ⟨lw_p51, List.forall_mem_cons.mpr ⟨lw_p52, List.forall_mem_cons.mpr ⟨lw_p53, List.forall_mem_cons.mpr ⟨lw_p54, List.forall_mem_cons.mpr ⟨lw_p55, List.forall_mem_cons.mpr ⟨lw_p56, List.forall_mem_cons.mpr ⟨lw_p57, List.forall_mem_cons.mpr ⟨lw_p58, List.forall_mem_cons.mpr ⟨lw_p59, List.forall_mem_cons.mpr ⟨lw_p60, List.forall_mem_cons.mpr ⟨lw_p61, List.forall_mem_cons.mpr ⟨lw_p62, List.forall_mem_cons.mpr ⟨lw_p63, fun _ h => absurd h List.not_mem_nil⟩⟩⟩⟩⟩⟩⟩⟩⟩⟩⟩⟩⟩⟩⟩⟩
theorem lw_p64 : lw_okq (⟨"ThickerBookModel", "every", "()V"⟩, 25) := ⟨⟨by decide +kernel, by decide +kernel⟩, List.mem_of_getElem? (i := 792) (by decide +kernel), List.mem_of_getElem? (i := 922) (by decide +kernel), List.mem_of_getElem? (i := 923) (by decide +kernel)⟩
theorem lw_p65 : lw_okq (⟨"ThickerBookModel", "factor", "()V"⟩, 25) := ⟨⟨by decide +kernel, by decide +kernel⟩, List.mem_of_getElem? (i := 792) (by decide +kernel), List.mem_of_getElem? (i := 926) (by decide +kernel), List.mem_of_getElem? (i := 927) (by decide +kernel)⟩
theorem lw_p66 : lw_okq (⟨"ThickerBookModel", "emits", "(I)V"⟩, 25) := ⟨⟨by decide +kernel, by decide +kernel⟩, List.mem_of_getElem? (i := 792) (by decide +kernel), List.mem_of_getElem? (i := 930) (by decide +kernel), List.mem_of_getElem? (i := 931) (by decide +kernel)⟩
theorem lw_p67 : lw_okq (⟨"ThickerBookModel", "among", "(Ljava/lang/String;)I"⟩, 25) := ⟨⟨by decide +kernel, by decide +kernel⟩, List.mem_of_getElem? (i := 792) (by decide +kernel), List.mem_of_getElem? (i := 935) (by decide +kernel), List.mem_of_getElem? (i := 936) (by decide +kernel)⟩
theorem lw_p68 : lw_okq (⟨"ThickerBookModel", "isReader", "(I)Z"⟩, 25) := ⟨⟨by decide +kernel, by decide +kernel⟩, List.mem_of_getElem? (i := 792) (by decide +kernel), List.mem_of_getElem? (i := 953) (by decide +kernel), List.mem_of_getElem? (i := 954) (by decide +kernel)⟩
theorem lw_p69 : lw_okq (⟨"ThickerBookModel", "orNone", "(I)I"⟩, 25) := ⟨⟨by decide +kernel, by decide +kernel⟩, List.mem_of_getElem? (i := 792) (by decide +kernel), List.mem_of_getElem? (i := 957) (by decide +kernel), List.mem_of_getElem? (i := 958) (by decide +kernel)⟩
theorem lw_p70 : lw_okq (⟨"ThickerBookModel", "choiceOf", "(I)I"⟩, 25) := ⟨⟨by decide +kernel, by decide +kernel⟩, List.mem_of_getElem? (i := 792) (by decide +kernel), List.mem_of_getElem? (i := 961) (by decide +kernel), List.mem_of_getElem? (i := 962) (by decide +kernel)⟩
theorem lw_p71 : lw_okq (⟨"ThickerBookModel", "isThin", "(I)Z"⟩, 25) := ⟨⟨by decide +kernel, by decide +kernel⟩, List.mem_of_getElem? (i := 792) (by decide +kernel), List.mem_of_getElem? (i := 966) (by decide +kernel), List.mem_of_getElem? (i := 967) (by decide +kernel)⟩
theorem lw_p72 : lw_okq (⟨"ThickerBookModel", "likingOf", "(II)I"⟩, 25) := ⟨⟨by decide +kernel, by decide +kernel⟩, List.mem_of_getElem? (i := 792) (by decide +kernel), List.mem_of_getElem? (i := 970) (by decide +kernel), List.mem_of_getElem? (i := 971) (by decide +kernel)⟩
theorem lw_p73 : lw_okq (⟨"ThickerBookModel", "looks", "(II)I"⟩, 25) := ⟨⟨by decide +kernel, by decide +kernel⟩, List.mem_of_getElem? (i := 792) (by decide +kernel), List.mem_of_getElem? (i := 974) (by decide +kernel), List.mem_of_getElem? (i := 975) (by decide +kernel)⟩
theorem lw_p74 : lw_okq (⟨"ThickerBookModel", "tellsOf", "(II)I"⟩, 25) := ⟨⟨by decide +kernel, by decide +kernel⟩, List.mem_of_getElem? (i := 792) (by decide +kernel), List.mem_of_getElem? (i := 978) (by decide +kernel), List.mem_of_getElem? (i := 979) (by decide +kernel)⟩
theorem lw_p75 : lw_okq (⟨"ThickerBookModel", "likingBy", "(III)I"⟩, 25) := ⟨⟨by decide +kernel, by decide +kernel⟩, List.mem_of_getElem? (i := 792) (by decide +kernel), List.mem_of_getElem? (i := 982) (by decide +kernel), List.mem_of_getElem? (i := 983) (by decide +kernel)⟩
theorem lw_p76 : lw_okq (⟨"ThickerBookModel", "may", "(II)Z"⟩, 25) := ⟨⟨by decide +kernel, by decide +kernel⟩, List.mem_of_getElem? (i := 792) (by decide +kernel), List.mem_of_getElem? (i := 986) (by decide +kernel), List.mem_of_getElem? (i := 987) (by decide +kernel)⟩
theorem lw_p77 : lw_okq (⟨"ThickerBookModel", "isOn", "(I)Z"⟩, 25) := ⟨⟨by decide +kernel, by decide +kernel⟩, List.mem_of_getElem? (i := 792) (by decide +kernel), List.mem_of_getElem? (i := 990) (by decide +kernel), List.mem_of_getElem? (i := 991) (by decide +kernel)⟩
theorem lw_p78 : lw_okq (⟨"ThickerBookModel", "holderOf", "(I)I"⟩, 25) := ⟨⟨by decide +kernel, by decide +kernel⟩, List.mem_of_getElem? (i := 792) (by decide +kernel), List.mem_of_getElem? (i := 994) (by decide +kernel), List.mem_of_getElem? (i := 995) (by decide +kernel)⟩
theorem lw_p79 : lw_okq (⟨"ThickerBookModel", "gapNow", "()I"⟩, 25) := ⟨⟨by decide +kernel, by decide +kernel⟩, List.mem_of_getElem? (i := 792) (by decide +kernel), List.mem_of_getElem? (i := 998) (by decide +kernel), List.mem_of_getElem? (i := 999) (by decide +kernel)⟩
def lw_privs_5 : List (MethodName × Nat) := [(⟨"ThickerBookModel", "every", "()V"⟩, 25), (⟨"ThickerBookModel", "factor", "()V"⟩, 25), (⟨"ThickerBookModel", "emits", "(I)V"⟩, 25), (⟨"ThickerBookModel", "among", "(Ljava/lang/String;)I"⟩, 25), (⟨"ThickerBookModel", "isReader", "(I)Z"⟩, 25), (⟨"ThickerBookModel", "orNone", "(I)I"⟩, 25), (⟨"ThickerBookModel", "choiceOf", "(I)I"⟩, 25), (⟨"ThickerBookModel", "isThin", "(I)Z"⟩, 25), (⟨"ThickerBookModel", "likingOf", "(II)I"⟩, 25), (⟨"ThickerBookModel", "looks", "(II)I"⟩, 25), (⟨"ThickerBookModel", "tellsOf", "(II)I"⟩, 25), (⟨"ThickerBookModel", "likingBy", "(III)I"⟩, 25), (⟨"ThickerBookModel", "may", "(II)Z"⟩, 25), (⟨"ThickerBookModel", "isOn", "(I)Z"⟩, 25), (⟨"ThickerBookModel", "holderOf", "(I)I"⟩, 25), (⟨"ThickerBookModel", "gapNow", "()I"⟩, 25)]
theorem lw_r5 : ∀ q ∈ lw_privs_5, lw_okq q := List.forall_mem_cons.mpr ⟨lw_p64, List.forall_mem_cons.mpr ⟨lw_p65, List.forall_mem_cons.mpr ⟨lw_p66, List.forall_mem_cons.mpr ⟨lw_p67, List.forall_mem_cons.mpr ⟨lw_p68, List.forall_mem_cons.mpr ⟨lw_p69, List.forall_mem_cons.mpr ⟨lw_p70, List.forall_mem_cons.mpr ⟨lw_p71, List.forall_mem_cons.mpr ⟨lw_p72, List.forall_mem_cons.mpr ⟨lw_p73, List.forall_mem_cons.mpr ⟨lw_p74, List.forall_mem_cons.mpr ⟨lw_p75, List.forall_mem_cons.mpr ⟨lw_p76, List.forall_mem_cons.mpr ⟨lw_p77, List.forall_mem_cons.mpr ⟨lw_p78, List.forall_mem_cons.mpr ⟨lw_p79, fun _ h => absurd h List.not_mem_nil⟩⟩⟩⟩⟩⟩⟩⟩⟩⟩⟩⟩⟩⟩⟩⟩
theorem lw_p80 : lw_okq (⟨"ThickerBookModel", "mayTake", "(I)I"⟩, 25) := ⟨⟨by decide +kernel, by decide +kernel⟩, List.mem_of_getElem? (i := 792) (by decide +kernel), List.mem_of_getElem? (i := 1002) (by decide +kernel), List.mem_of_getElem? (i := 1003) (by decide +kernel)⟩
theorem lw_p81 : lw_okq (⟨"ThickerBookModel", "isBook", "(I)Z"⟩, 25) := ⟨⟨by decide +kernel, by decide +kernel⟩, List.mem_of_getElem? (i := 792) (by decide +kernel), List.mem_of_getElem? (i := 1010) (by decide +kernel), List.mem_of_getElem? (i := 1011) (by decide +kernel)⟩
theorem lw_p82 : lw_okq (⟨"ThickerBookModel", "pasteNow", "()I"⟩, 25) := ⟨⟨by decide +kernel, by decide +kernel⟩, List.mem_of_getElem? (i := 792) (by decide +kernel), List.mem_of_getElem? (i := 1030) (by decide +kernel), List.mem_of_getElem? (i := 1031) (by decide +kernel)⟩
theorem lw_p83 : lw_okq (⟨"ThickerBookModel", "totalNow", "()I"⟩, 25) := ⟨⟨by decide +kernel, by decide +kernel⟩, List.mem_of_getElem? (i := 792) (by decide +kernel), List.mem_of_getElem? (i := 1034) (by decide +kernel), List.mem_of_getElem? (i := 1035) (by decide +kernel)⟩
theorem lw_p84 : lw_okq (⟨"ThickerBookModel", "shelf", "()I"⟩, 25) := ⟨⟨by decide +kernel, by decide +kernel⟩, List.mem_of_getElem? (i := 792) (by decide +kernel), List.mem_of_getElem? (i := 1038) (by decide +kernel), List.mem_of_getElem? (i := 1039) (by decide +kernel)⟩
theorem lw_p85 : lw_okq (⟨"ThickerBookModel", "comes", "(I)Z"⟩, 25) := ⟨⟨by decide +kernel, by decide +kernel⟩, List.mem_of_getElem? (i := 792) (by decide +kernel), List.mem_of_getElem? (i := 1046) (by decide +kernel), List.mem_of_getElem? (i := 1047) (by decide +kernel)⟩
theorem lw_p86 : lw_okq (⟨"ThickerBookModel", "pastes", "(IZ)V"⟩, 25) := ⟨⟨by decide +kernel, by decide +kernel⟩, List.mem_of_getElem? (i := 792) (by decide +kernel), List.mem_of_getElem? (i := 1054) (by decide +kernel), List.mem_of_getElem? (i := 1055) (by decide +kernel)⟩
theorem lw_p87 : lw_okq (⟨"ThickerBookModel", "goes", "()I"⟩, 25) := ⟨⟨by decide +kernel, by decide +kernel⟩, List.mem_of_getElem? (i := 792) (by decide +kernel), List.mem_of_getElem? (i := 1065) (by decide +kernel), List.mem_of_getElem? (i := 1066) (by decide +kernel)⟩
theorem lw_p88 : lw_okq (⟨"ThickerBookModel", "keeps", "()V"⟩, 25) := ⟨⟨by decide +kernel, by decide +kernel⟩, List.mem_of_getElem? (i := 792) (by decide +kernel), List.mem_of_getElem? (i := 1073) (by decide +kernel), List.mem_of_getElem? (i := 1074) (by decide +kernel)⟩
theorem lw_p89 : lw_okq (⟨"ThickerBookModel", "goesBack", "()V"⟩, 25) := ⟨⟨by decide +kernel, by decide +kernel⟩, List.mem_of_getElem? (i := 792) (by decide +kernel), List.mem_of_getElem? (i := 1077) (by decide +kernel), List.mem_of_getElem? (i := 1078) (by decide +kernel)⟩
theorem lw_p90 : lw_okq (⟨"ThickerBookModel", "isOver", "(I)Z"⟩, 25) := ⟨⟨by decide +kernel, by decide +kernel⟩, List.mem_of_getElem? (i := 792) (by decide +kernel), List.mem_of_getElem? (i := 1085) (by decide +kernel), List.mem_of_getElem? (i := 1086) (by decide +kernel)⟩
theorem lw_p91 : lw_okq (⟨"ThickerBookModel", "looksForWays", "()V"⟩, 25) := ⟨⟨by decide +kernel, by decide +kernel⟩, List.mem_of_getElem? (i := 792) (by decide +kernel), List.mem_of_getElem? (i := 1093) (by decide +kernel), List.mem_of_getElem? (i := 1094) (by decide +kernel)⟩
theorem lw_p92 : lw_okq (⟨"ThickerBookModel", "looksForPlains", "()V"⟩, 25) := ⟨⟨by decide +kernel, by decide +kernel⟩, List.mem_of_getElem? (i := 792) (by decide +kernel), List.mem_of_getElem? (i := 1097) (by decide +kernel), List.mem_of_getElem? (i := 1098) (by decide +kernel)⟩
theorem lw_p93 : lw_okq (⟨"ThickerBookModel", "comesTo", "(I)V"⟩, 25) := ⟨⟨by decide +kernel, by decide +kernel⟩, List.mem_of_getElem? (i := 792) (by decide +kernel), List.mem_of_getElem? (i := 1101) (by decide +kernel), List.mem_of_getElem? (i := 1102) (by decide +kernel)⟩
theorem lw_p94 : lw_okq (⟨"ThickerBookModel", "wayNow", "()I"⟩, 25) := ⟨⟨by decide +kernel, by decide +kernel⟩, List.mem_of_getElem? (i := 792) (by decide +kernel), List.mem_of_getElem? (i := 1105) (by decide +kernel), List.mem_of_getElem? (i := 1106) (by decide +kernel)⟩
theorem lw_p95 : lw_okq (⟨"ThickerBookModel", "goesTo", "(I)V"⟩, 25) := ⟨⟨by decide +kernel, by decide +kernel⟩, List.mem_of_getElem? (i := 792) (by decide +kernel), List.mem_of_getElem? (i := 1109) (by decide +kernel), List.mem_of_getElem? (i := 1110) (by decide +kernel)⟩
def lw_privs_6 : List (MethodName × Nat) := [(⟨"ThickerBookModel", "mayTake", "(I)I"⟩, 25), (⟨"ThickerBookModel", "isBook", "(I)Z"⟩, 25), (⟨"ThickerBookModel", "pasteNow", "()I"⟩, 25), (⟨"ThickerBookModel", "totalNow", "()I"⟩, 25), (⟨"ThickerBookModel", "shelf", "()I"⟩, 25), (⟨"ThickerBookModel", "comes", "(I)Z"⟩, 25), (⟨"ThickerBookModel", "pastes", "(IZ)V"⟩, 25), (⟨"ThickerBookModel", "goes", "()I"⟩, 25), (⟨"ThickerBookModel", "keeps", "()V"⟩, 25), (⟨"ThickerBookModel", "goesBack", "()V"⟩, 25), (⟨"ThickerBookModel", "isOver", "(I)Z"⟩, 25), (⟨"ThickerBookModel", "looksForWays", "()V"⟩, 25), (⟨"ThickerBookModel", "looksForPlains", "()V"⟩, 25), (⟨"ThickerBookModel", "comesTo", "(I)V"⟩, 25), (⟨"ThickerBookModel", "wayNow", "()I"⟩, 25), (⟨"ThickerBookModel", "goesTo", "(I)V"⟩, 25)]
theorem lw_r6 : ∀ q ∈ lw_privs_6, lw_okq q := List.forall_mem_cons.mpr ⟨lw_p80, List.forall_mem_cons.mpr ⟨lw_p81, List.forall_mem_cons.mpr ⟨lw_p82, List.forall_mem_cons.mpr ⟨lw_p83, List.forall_mem_cons.mpr ⟨lw_p84, List.forall_mem_cons.mpr ⟨lw_p85, List.forall_mem_cons.mpr ⟨lw_p86, List.forall_mem_cons.mpr ⟨lw_p87, List.forall_mem_cons.mpr ⟨lw_p88, List.forall_mem_cons.mpr ⟨lw_p89, List.forall_mem_cons.mpr ⟨lw_p90, List.forall_mem_cons.mpr ⟨lw_p91, List.forall_mem_cons.mpr ⟨lw_p92, List.forall_mem_cons.mpr ⟨lw_p93, List.forall_mem_cons.mpr ⟨lw_p94, List.forall_mem_cons.mpr ⟨lw_p95, fun _ h => absurd h List.not_mem_nil⟩⟩⟩⟩⟩⟩⟩⟩⟩⟩⟩⟩⟩⟩⟩⟩
theorem lw_p96 : lw_okq (⟨"ThickerBookModel", "goesOnFrom", "(I)V"⟩, 25) := ⟨⟨by decide +kernel, by decide +kernel⟩, List.mem_of_getElem? (i := 792) (by decide +kernel), List.mem_of_getElem? (i := 1116) (by decide +kernel), List.mem_of_getElem? (i := 1117) (by decide +kernel)⟩
theorem lw_p97 : lw_okq (⟨"ThickerBookModel", "wouldChange", "(II)Z"⟩, 25) := ⟨⟨by decide +kernel, by decide +kernel⟩, List.mem_of_getElem? (i := 792) (by decide +kernel), List.mem_of_getElem? (i := 1120) (by decide +kernel), List.mem_of_getElem? (i := 1121) (by decide +kernel)⟩
theorem lw_p98 : lw_okq (⟨"ThickerBookModel", "plainLiking", "(II)I"⟩, 25) := ⟨⟨by decide +kernel, by decide +kernel⟩, List.mem_of_getElem? (i := 792) (by decide +kernel), List.mem_of_getElem? (i := 1124) (by decide +kernel), List.mem_of_getElem? (i := 1125) (by decide +kernel)⟩
theorem lw_p99 : lw_okq (⟨"ThickerBookModel", "changes", "(II)V"⟩, 25) := ⟨⟨by decide +kernel, by decide +kernel⟩, List.mem_of_getElem? (i := 792) (by decide +kernel), List.mem_of_getElem? (i := 1128) (by decide +kernel), List.mem_of_getElem? (i := 1129) (by decide +kernel)⟩
theorem lw_p100 : lw_okq (⟨"ThickerBookModel", "fewOf", "(II)I"⟩, 25) := ⟨⟨by decide +kernel, by decide +kernel⟩, List.mem_of_getElem? (i := 792) (by decide +kernel), List.mem_of_getElem? (i := 1132) (by decide +kernel), List.mem_of_getElem? (i := 1133) (by decide +kernel)⟩
theorem lw_p101 : lw_okq (⟨"ThickerBookModel", "reachOf", "(I)I"⟩, 25) := ⟨⟨by decide +kernel, by decide +kernel⟩, List.mem_of_getElem? (i := 792) (by decide +kernel), List.mem_of_getElem? (i := 1140) (by decide +kernel), List.mem_of_getElem? (i := 1141) (by decide +kernel)⟩
theorem lw_p102 : lw_okq (⟨"ThickerBookModel", "looksForMost", "()V"⟩, 25) := ⟨⟨by decide +kernel, by decide +kernel⟩, List.mem_of_getElem? (i := 792) (by decide +kernel), List.mem_of_getElem? (i := 1152) (by decide +kernel), List.mem_of_getElem? (i := 1153) (by decide +kernel)⟩
theorem lw_p103 : lw_okq (⟨"ThickerBookModel", "plainTotal", "()I"⟩, 25) := ⟨⟨by decide +kernel, by decide +kernel⟩, List.mem_of_getElem? (i := 792) (by decide +kernel), List.mem_of_getElem? (i := 1156) (by decide +kernel), List.mem_of_getElem? (i := 1157) (by decide +kernel)⟩
theorem lw_p104 : lw_okq (⟨"ThickerBookModel", "ordersFrom", "(II)V"⟩, 25) := ⟨⟨by decide +kernel, by decide +kernel⟩, List.mem_of_getElem? (i := 792) (by decide +kernel), List.mem_of_getElem? (i := 1164) (by decide +kernel), List.mem_of_getElem? (i := 1165) (by decide +kernel)⟩
theorem lw_p105 : lw_okq (⟨"ThickerBookModel", "shelfThick", "()I"⟩, 25) := ⟨⟨by decide +kernel, by decide +kernel⟩, List.mem_of_getElem? (i := 792) (by decide +kernel), List.mem_of_getElem? (i := 1184) (by decide +kernel), List.mem_of_getElem? (i := 1185) (by decide +kernel)⟩
theorem lw_p106 : lw_okq (⟨"ThickerBookModel", "goesOn", "(I)V"⟩, 25) := ⟨⟨by decide +kernel, by decide +kernel⟩, List.mem_of_getElem? (i := 792) (by decide +kernel), List.mem_of_getElem? (i := 1188) (by decide +kernel), List.mem_of_getElem? (i := 1189) (by decide +kernel)⟩
theorem lw_p107 : lw_okq (⟨"ThickerBookModel", "swapsFor", "(II)V"⟩, 25) := ⟨⟨by decide +kernel, by decide +kernel⟩, List.mem_of_getElem? (i := 792) (by decide +kernel), List.mem_of_getElem? (i := 1200) (by decide +kernel), List.mem_of_getElem? (i := 1201) (by decide +kernel)⟩
theorem lw_p108 : lw_okq (⟨"ThickerBookModel", "areAsSeen", "()Z"⟩, 25) := ⟨⟨by decide +kernel, by decide +kernel⟩, List.mem_of_getElem? (i := 792) (by decide +kernel), List.mem_of_getElem? (i := 1204) (by decide +kernel), List.mem_of_getElem? (i := 1205) (by decide +kernel)⟩
theorem lw_p109 : lw_okq (⟨"ThickerBookModel", "lastSeen", "()I"⟩, 25) := ⟨⟨by decide +kernel, by decide +kernel⟩, List.mem_of_getElem? (i := 792) (by decide +kernel), List.mem_of_getElem? (i := 1208) (by decide +kernel), List.mem_of_getElem? (i := 1209) (by decide +kernel)⟩
theorem lw_p110 : lw_okq (⟨"ThickerBookModel", "isAsSeen", "(I)Z"⟩, 25) := ⟨⟨by decide +kernel, by decide +kernel⟩, List.mem_of_getElem? (i := 792) (by decide +kernel), List.mem_of_getElem? (i := 1212) (by decide +kernel), List.mem_of_getElem? (i := 1213) (by decide +kernel)⟩
theorem lw_p111 : lw_okq (⟨"ThickerBookModel", "does", "(II)V"⟩, 25) := ⟨⟨by decide +kernel, by decide +kernel⟩, List.mem_of_getElem? (i := 792) (by decide +kernel), List.mem_of_getElem? (i := 1240) (by decide +kernel), List.mem_of_getElem? (i := 1241) (by decide +kernel)⟩
def lw_privs_7 : List (MethodName × Nat) := [(⟨"ThickerBookModel", "goesOnFrom", "(I)V"⟩, 25), (⟨"ThickerBookModel", "wouldChange", "(II)Z"⟩, 25), (⟨"ThickerBookModel", "plainLiking", "(II)I"⟩, 25), (⟨"ThickerBookModel", "changes", "(II)V"⟩, 25), (⟨"ThickerBookModel", "fewOf", "(II)I"⟩, 25), (⟨"ThickerBookModel", "reachOf", "(I)I"⟩, 25), (⟨"ThickerBookModel", "looksForMost", "()V"⟩, 25), (⟨"ThickerBookModel", "plainTotal", "()I"⟩, 25), (⟨"ThickerBookModel", "ordersFrom", "(II)V"⟩, 25), (⟨"ThickerBookModel", "shelfThick", "()I"⟩, 25), (⟨"ThickerBookModel", "goesOn", "(I)V"⟩, 25), (⟨"ThickerBookModel", "swapsFor", "(II)V"⟩, 25), (⟨"ThickerBookModel", "areAsSeen", "()Z"⟩, 25), (⟨"ThickerBookModel", "lastSeen", "()I"⟩, 25), (⟨"ThickerBookModel", "isAsSeen", "(I)Z"⟩, 25), (⟨"ThickerBookModel", "does", "(II)V"⟩, 25)]
theorem lw_r7 : ∀ q ∈ lw_privs_7, lw_okq q := List.forall_mem_cons.mpr ⟨lw_p96, List.forall_mem_cons.mpr ⟨lw_p97, List.forall_mem_cons.mpr ⟨lw_p98, List.forall_mem_cons.mpr ⟨lw_p99, List.forall_mem_cons.mpr ⟨lw_p100, List.forall_mem_cons.mpr ⟨lw_p101, List.forall_mem_cons.mpr ⟨lw_p102, List.forall_mem_cons.mpr ⟨lw_p103, List.forall_mem_cons.mpr ⟨lw_p104, List.forall_mem_cons.mpr ⟨lw_p105, List.forall_mem_cons.mpr ⟨lw_p106, List.forall_mem_cons.mpr ⟨lw_p107, List.forall_mem_cons.mpr ⟨lw_p108, List.forall_mem_cons.mpr ⟨lw_p109, List.forall_mem_cons.mpr ⟨lw_p110, List.forall_mem_cons.mpr ⟨lw_p111, fun _ h => absurd h List.not_mem_nil⟩⟩⟩⟩⟩⟩⟩⟩⟩⟩⟩⟩⟩⟩⟩⟩
theorem lw_p112 : lw_okq (⟨"ThickerBookModel", "readsActs", "(I)I"⟩, 25) := ⟨⟨by decide +kernel, by decide +kernel⟩, List.mem_of_getElem? (i := 792) (by decide +kernel), List.mem_of_getElem? (i := 1256) (by decide +kernel), List.mem_of_getElem? (i := 1257) (by decide +kernel)⟩
theorem lw_p113 : lw_okq (⟨"ThickerBookModel", "ranBody", "(I)V"⟩, 25) := ⟨⟨by decide +kernel, by decide +kernel⟩, List.mem_of_getElem? (i := 792) (by decide +kernel), List.mem_of_getElem? (i := 1263) (by decide +kernel), List.mem_of_getElem? (i := 1264) (by decide +kernel)⟩
theorem lw_p114 : lw_okq (⟨"ThickerBookModel", "plainReads", "(I)I"⟩, 25) := ⟨⟨by decide +kernel, by decide +kernel⟩, List.mem_of_getElem? (i := 792) (by decide +kernel), List.mem_of_getElem? (i := 1267) (by decide +kernel), List.mem_of_getElem? (i := 1268) (by decide +kernel)⟩
theorem lw_p115 : lw_okq (⟨"ThickerBookModel", "bringsActs", "(I)I"⟩, 25) := ⟨⟨by decide +kernel, by decide +kernel⟩, List.mem_of_getElem? (i := 792) (by decide +kernel), List.mem_of_getElem? (i := 1271) (by decide +kernel), List.mem_of_getElem? (i := 1272) (by decide +kernel)⟩
theorem lw_p116 : lw_okq (⟨"ThickerBookModel", "plainBrings", "(I)I"⟩, 25) := ⟨⟨by decide +kernel, by decide +kernel⟩, List.mem_of_getElem? (i := 792) (by decide +kernel), List.mem_of_getElem? (i := 1275) (by decide +kernel), List.mem_of_getElem? (i := 1276) (by decide +kernel)⟩
theorem lw_p117 : lw_okq (⟨"ThickerBookModel", "tellsActs", "(I)I"⟩, 25) := ⟨⟨by decide +kernel, by decide +kernel⟩, List.mem_of_getElem? (i := 792) (by decide +kernel), List.mem_of_getElem? (i := 1279) (by decide +kernel), List.mem_of_getElem? (i := 1280) (by decide +kernel)⟩
theorem lw_p118 : lw_okq (⟨"ThickerBookModel", "plainTelling", "(I)I"⟩, 25) := ⟨⟨by decide +kernel, by decide +kernel⟩, List.mem_of_getElem? (i := 792) (by decide +kernel), List.mem_of_getElem? (i := 1283) (by decide +kernel), List.mem_of_getElem? (i := 1284) (by decide +kernel)⟩
def lw_privs_8 : List (MethodName × Nat) := [(⟨"ThickerBookModel", "readsActs", "(I)I"⟩, 25), (⟨"ThickerBookModel", "ranBody", "(I)V"⟩, 25), (⟨"ThickerBookModel", "plainReads", "(I)I"⟩, 25), (⟨"ThickerBookModel", "bringsActs", "(I)I"⟩, 25), (⟨"ThickerBookModel", "plainBrings", "(I)I"⟩, 25), (⟨"ThickerBookModel", "tellsActs", "(I)I"⟩, 25), (⟨"ThickerBookModel", "plainTelling", "(I)I"⟩, 25)]
theorem lw_r8 : ∀ q ∈ lw_privs_8, lw_okq q := List.forall_mem_cons.mpr ⟨lw_p112, List.forall_mem_cons.mpr ⟨lw_p113, List.forall_mem_cons.mpr ⟨lw_p114, List.forall_mem_cons.mpr ⟨lw_p115, List.forall_mem_cons.mpr ⟨lw_p116, List.forall_mem_cons.mpr ⟨lw_p117, List.forall_mem_cons.mpr ⟨lw_p118, fun _ h => absurd h List.not_mem_nil⟩⟩⟩⟩⟩⟩⟩
def lw_privs : List (MethodName × Nat) := lw_privs_1 ++ (lw_privs_2 ++ (lw_privs_3 ++ (lw_privs_4 ++ (lw_privs_5 ++ (lw_privs_6 ++ (lw_privs_7 ++ (lw_privs_8)))))))
def lw_tbl : List Cond := k2_sels lw_privs ++ tables_1
theorem lw_privs_ok : ∀ q ∈ lw_privs, lw_okq q := by
  show ∀ q ∈ lw_privs_1 ++ (lw_privs_2 ++ (lw_privs_3 ++ (lw_privs_4 ++ (lw_privs_5 ++ (lw_privs_6 ++ (lw_privs_7 ++ (lw_privs_8))))))), lw_okq q
  exact List.forall_mem_append.mpr ⟨lw_r1, List.forall_mem_append.mpr ⟨lw_r2, List.forall_mem_append.mpr ⟨lw_r3, List.forall_mem_append.mpr ⟨lw_r4, List.forall_mem_append.mpr ⟨lw_r5, List.forall_mem_append.mpr ⟨lw_r6, List.forall_mem_append.mpr ⟨lw_r7, lw_r8⟩⟩⟩⟩⟩⟩⟩

def RX0 : String := "ThickerBook$Acts"
def TX0 : u_T := fun k => match k with
  | 0 => ("ThickerBook$Acts", "bodies", "[I", true)
  | 1 => ("ThickerBook$Acts", "ran", "I", false)
  | 2 => ("ThickerBook$Acts", "reader", "I", false)
  | 3 => ("ThickerBook$Acts", "kind", "I", false)
  | _ => ("ThickerBook$Acts", "v", "I", false)
def tyX0 : Nat → FieldType := fun k => match k with
  | 0 => .array .int
  | 1 => .int
  | 2 => .int
  | 3 => .int
  | _ => .int
theorem nmX0 : ∀ a, a < 5 → ∀ b, b < 5 → a ≠ b → (TX0 a).2.1 ≠ (TX0 b).2.1 := by decide +kernel
theorem tyX0_ok : ∀ k, k < 5 → parseFieldDescriptor (TX0 k).2.2.1 = some (tyX0 k) := by decide +kernel
abbrev cX0_init : ByteArray := prog_2_method_1_code
def yX0_init : MethodName := ⟨RX0, "<init>", "()V"⟩
abbrev cX0_doneBy : ByteArray := prog_2_method_2_code
def yX0_doneBy : MethodName := ⟨RX0, "doneBy", "(IIIII)I"⟩
abbrev cX0_run : ByteArray := prog_2_method_3_code
def yX0_run : MethodName := ⟨RX0, "run", "(LThickerBook$Acts;IIII)I"⟩
abbrev cX0_bodyOf : ByteArray := prog_2_method_4_code
def yX0_bodyOf : MethodName := ⟨RX0, "bodyOf", "(II)I"⟩
def RX1 : String := "ThickerBook$Goes"
def TX1 : u_T := fun k => match k with
  | 0 => ("ThickerBook$Goes", "few", "[I", true)
  | 1 => ("ThickerBook$Goes", "found", "[I", true)
  | 2 => ("ThickerBook$Goes", "many", "I", false)
  | _ => ("ThickerBook$Goes", "readers", "I", false)
def tyX1 : Nat → FieldType := fun k => match k with
  | 0 => .array .int
  | 1 => .array .int
  | 2 => .int
  | _ => .int
theorem nmX1 : ∀ a, a < 4 → ∀ b, b < 4 → a ≠ b → (TX1 a).2.1 ≠ (TX1 b).2.1 := by decide +kernel
theorem tyX1_ok : ∀ k, k < 4 → parseFieldDescriptor (TX1 k).2.2.1 = some (tyX1 k) := by decide +kernel
abbrev cX1_init : ByteArray := prog_3_method_1_code
def yX1_init : MethodName := ⟨RX1, "<init>", "()V"⟩
abbrev cX1_search : ByteArray := prog_3_method_2_code
def yX1_search : MethodName := ⟨RX1, "search", "(LThickerBook$World;)V"⟩
abbrev cX1_meet : ByteArray := prog_3_method_3_code
def yX1_meet : MethodName := ⟨RX1, "meet", "(LThickerBook$World;I)V"⟩
abbrev cX1_spread : ByteArray := prog_3_method_4_code
def yX1_spread : MethodName := ⟨RX1, "spread", "(LThickerBook$World;II)V"⟩
abbrev cX1_step : ByteArray := prog_3_method_5_code
def yX1_step : MethodName := ⟨RX1, "step", "(LThickerBook$World;IIII)V"⟩
abbrev cX1_fewest : ByteArray := prog_3_method_6_code
def yX1_fewest : MethodName := ⟨RX1, "fewest", "(II)I"⟩
abbrev cX1_reached : ByteArray := prog_3_method_7_code
def yX1_reached : MethodName := ⟨RX1, "reached", "(I)I"⟩
abbrev cX1_best : ByteArray := prog_3_method_8_code
def yX1_best : MethodName := ⟨RX1, "best", "(LThickerBook$World;)I"⟩
def RX2 : String := "ThickerBook$Papers"
def TX2 : u_T := fun k => match k with
  | 0 => ("ThickerBook$Papers", "tape", "[I", true)
  | 1 => ("ThickerBook$Papers", "seenBook", "[I", true)
  | 2 => ("ThickerBook$Papers", "seenDays", "[I", true)
  | 3 => ("ThickerBook$Papers", "seenOn", "[I", true)
  | 4 => ("ThickerBook$Papers", "planWhat", "[I", true)
  | 5 => ("ThickerBook$Papers", "planReader", "[I", true)
  | 6 => ("ThickerBook$Papers", "noteReader", "[I", true)
  | 7 => ("ThickerBook$Papers", "noteBook", "[I", true)
  | 8 => ("ThickerBook$Papers", "signs", "I", false)
  | 9 => ("ThickerBook$Papers", "seens", "I", false)
  | 10 => ("ThickerBook$Papers", "plans", "I", false)
  | _ => ("ThickerBook$Papers", "notes", "I", false)
def tyX2 : Nat → FieldType := fun k => match k with
  | 0 => .array .int
  | 1 => .array .int
  | 2 => .array .int
  | 3 => .array .int
  | 4 => .array .int
  | 5 => .array .int
  | 6 => .array .int
  | 7 => .array .int
  | 8 => .int
  | 9 => .int
  | 10 => .int
  | _ => .int
theorem nmX2 : ∀ a, a < 12 → ∀ b, b < 12 → a ≠ b → (TX2 a).2.1 ≠ (TX2 b).2.1 := by decide +kernel
theorem tyX2_ok : ∀ k, k < 12 → parseFieldDescriptor (TX2 k).2.2.1 = some (tyX2 k) := by decide +kernel
abbrev cX2_init : ByteArray := prog_4_method_1_code
def yX2_init : MethodName := ⟨RX2, "<init>", "()V"⟩
abbrev cX2_copy : ByteArray := prog_4_method_2_code
def yX2_copy : MethodName := ⟨RX2, "copy", "(LThickerBook$Papers;)V"⟩
def RX3 : String := "ThickerBook$Reading"
def TX3 : u_T := fun k => match k with
  | 0 => ("ThickerBook$Reading", "tape", "[I", true)
  | 1 => ("ThickerBook$Reading", "size", "I", true)
  | 2 => ("ThickerBook$Reading", "town", "LThickerBook$Town;", true)
  | 3 => ("ThickerBook$Reading", "place", "I", false)
  | _ => ("ThickerBook$Reading", "number", "I", false)
def tyX3 : Nat → FieldType := fun k => match k with
  | 0 => .array .int
  | 1 => .int
  | 2 => .object "ThickerBook$Town"
  | 3 => .int
  | _ => .int
theorem nmX3 : ∀ a, a < 5 → ∀ b, b < 5 → a ≠ b → (TX3 a).2.1 ≠ (TX3 b).2.1 := by decide +kernel
theorem tyX3_ok : ∀ k, k < 5 → parseFieldDescriptor (TX3 k).2.2.1 = some (tyX3 k) := by decide +kernel
abbrev cX3_init : ByteArray := prog_5_method_1_code
def yX3_init : MethodName := ⟨RX3, "<init>", "([IILThickerBook$Town;)V"⟩
abbrev cX3_clauses : ByteArray := prog_5_method_2_code
def yX3_clauses : MethodName := ⟨RX3, "clauses", "()Z"⟩
abbrev cX3_clause : ByteArray := prog_5_method_3_code
def yX3_clause : MethodName := ⟨RX3, "clause", "()Z"⟩
abbrev cX3_joined : ByteArray := prog_5_method_4_code
def yX3_joined : MethodName := ⟨RX3, "joined", "(LThickerBook$Reading;II)Z"⟩
abbrev cX3_single : ByteArray := prog_5_method_5_code
def yX3_single : MethodName := ⟨RX3, "single", "(LThickerBook$Reading;I)Z"⟩
abbrev cX3_testing : ByteArray := prog_5_method_6_code
def yX3_testing : MethodName := ⟨RX3, "testing", "()Z"⟩
abbrev cX3_letter : ByteArray := prog_5_method_7_code
def yX3_letter : MethodName := ⟨RX3, "letter", "(I)I"⟩
abbrev cX3_compare : ByteArray := prog_5_method_8_code
def yX3_compare : MethodName := ⟨RX3, "compare", "(I)I"⟩
abbrev cX3_number : ByteArray := prog_5_method_9_code
def yX3_number : MethodName := ⟨RX3, "number", "()Z"⟩
abbrev cX3_word : ByteArray := prog_5_method_10_code
def yX3_word : MethodName := ⟨RX3, "word", "(Ljava/lang/String;)Z"⟩
abbrev cX3_takes : ByteArray := prog_5_method_11_code
def yX3_takes : MethodName := ⟨RX3, "takes", "(I)Z"⟩
abbrev cX3_sign : ByteArray := prog_5_method_12_code
def yX3_sign : MethodName := ⟨RX3, "sign", "()I"⟩
def RX4 : String := "ThickerBook$Town"
def TX4 : u_T := fun k => match k with
  | 0 => ("ThickerBook$Town", "code", "[I", true)
  | 1 => ("ThickerBook$Town", "worth", "[I", true)
  | 2 => ("ThickerBook$Town", "end", "[I", true)
  | 3 => ("ThickerBook$Town", "size", "I", false)
  | 4 => ("ThickerBook$Town", "feelings", "I", false)
  | 5 => ("ThickerBook$Town", "gap", "I", false)
  | _ => ("ThickerBook$Town", "paste", "I", false)
def tyX4 : Nat → FieldType := fun k => match k with
  | 0 => .array .int
  | 1 => .array .int
  | 2 => .array .int
  | 3 => .int
  | 4 => .int
  | 5 => .int
  | _ => .int
theorem nmX4 : ∀ a, a < 7 → ∀ b, b < 7 → a ≠ b → (TX4 a).2.1 ≠ (TX4 b).2.1 := by decide +kernel
theorem tyX4_ok : ∀ k, k < 7 → parseFieldDescriptor (TX4 k).2.2.1 = some (tyX4 k) := by decide +kernel
abbrev cX4_init : ByteArray := prog_6_method_1_code
def yX4_init : MethodName := ⟨RX4, "<init>", "()V"⟩
abbrev cX4_write : ByteArray := prog_6_method_2_code
def yX4_write : MethodName := ⟨RX4, "write", "(I)V"⟩
abbrev cX4_endFeeling : ByteArray := prog_6_method_3_code
def yX4_endFeeling : MethodName := ⟨RX4, "endFeeling", "(I)V"⟩
abbrev cX4_plainOf : ByteArray := prog_6_method_4_code
def yX4_plainOf : MethodName := ⟨RX4, "plainOf", "([I)I"⟩
abbrev cX4_holds : ByteArray := prog_6_method_5_code
def yX4_holds : MethodName := ⟨RX4, "holds", "(II[I)Z"⟩
abbrev cX4_test : ByteArray := prog_6_method_6_code
def yX4_test : MethodName := ⟨RX4, "test", "(III)I"⟩
abbrev cX4_isTrue : ByteArray := prog_6_method_7_code
def yX4_isTrue : MethodName := ⟨RX4, "isTrue", "(II)Z"⟩
def RX5 : String := "ThickerBook$World"
def TX5 : u_T := fun k => match k with
  | 0 => ("ThickerBook$World", "thick", "[I", true)
  | 1 => ("ThickerBook$World", "kind", "[I", true)
  | 2 => ("ThickerBook$World", "v", "[I", true)
  | 3 => ("ThickerBook$World", "has", "[I", true)
  | 4 => ("ThickerBook$World", "rows", "[I", true)
  | 5 => ("ThickerBook$World", "plain", "[I", true)
  | 6 => ("ThickerBook$World", "subject", "[I", true)
  | 7 => ("ThickerBook$World", "learned", "I", false)
  | 8 => ("ThickerBook$World", "books", "I", false)
  | 9 => ("ThickerBook$World", "readers", "I", false)
  | 10 => ("ThickerBook$World", "day", "I", false)
  | 11 => ("ThickerBook$World", "towns", "I", false)
  | _ => ("ThickerBook$World", "town", "LThickerBook$Town;", false)
def tyX5 : Nat → FieldType := fun k => match k with
  | 0 => .array .int
  | 1 => .array .int
  | 2 => .array .int
  | 3 => .array .int
  | 4 => .array .int
  | 5 => .array .int
  | 6 => .array .int
  | 7 => .int
  | 8 => .int
  | 9 => .int
  | 10 => .int
  | 11 => .int
  | _ => .object "ThickerBook$Town"
theorem nmX5 : ∀ a, a < 13 → ∀ b, b < 13 → a ≠ b → (TX5 a).2.1 ≠ (TX5 b).2.1 := by decide +kernel
theorem tyX5_ok : ∀ k, k < 13 → parseFieldDescriptor (TX5 k).2.2.1 = some (tyX5 k) := by decide +kernel
abbrev cX5_init : ByteArray := prog_7_method_1_code
def yX5_init : MethodName := ⟨RX5, "<init>", "()V"⟩
abbrev cX5_copy : ByteArray := prog_7_method_2_code
def yX5_copy : MethodName := ⟨RX5, "copy", "(LThickerBook$World;)V"⟩
abbrev cX5_goBack : ByteArray := prog_7_method_3_code
def yX5_goBack : MethodName := ⟨RX5, "goBack", "(LThickerBook$World;)V"⟩
abbrev cX5_enter : ByteArray := prog_7_method_4_code
def yX5_enter : MethodName := ⟨RX5, "enter", "(II)V"⟩
abbrev cX5_isReader : ByteArray := prog_7_method_5_code
def yX5_isReader : MethodName := ⟨RX5, "isReader", "(I)Z"⟩
abbrev cX5_isBook : ByteArray := prog_7_method_6_code
def yX5_isBook : MethodName := ⟨RX5, "isBook", "(I)Z"⟩
abbrev cX5_allBooks : ByteArray := prog_7_method_7_code
def yX5_allBooks : MethodName := ⟨RX5, "allBooks", "()I"⟩
abbrev cX5_holder : ByteArray := prog_7_method_8_code
def yX5_holder : MethodName := ⟨RX5, "holder", "(I)I"⟩
abbrev cX5_shelf : ByteArray := prog_7_method_9_code
def yX5_shelf : MethodName := ⟨RX5, "shelf", "()I"⟩
abbrev cX5_shelfThick : ByteArray := prog_7_method_10_code
def yX5_shelfThick : MethodName := ⟨RX5, "shelfThick", "()I"⟩
abbrev cX5_learnAnew : ByteArray := prog_7_method_11_code
def yX5_learnAnew : MethodName := ⟨RX5, "learnAnew", "()V"⟩
abbrev cX5_learn : ByteArray := prog_7_method_12_code
def yX5_learn : MethodName := ⟨RX5, "learn", "()V"⟩
abbrev cX5_liking : ByteArray := prog_7_method_13_code
def yX5_liking : MethodName := ⟨RX5, "liking", "(II)I"⟩
abbrev cX5_likesMost : ByteArray := prog_7_method_14_code
def yX5_likesMost : MethodName := ⟨RX5, "likesMost", "(II)Z"⟩
abbrev cX5_total : ByteArray := prog_7_method_15_code
def yX5_total : MethodName := ⟨RX5, "total", "()I"⟩
abbrev cX5_isThicker : ByteArray := prog_7_method_16_code
def yX5_isThicker : MethodName := ⟨RX5, "isThicker", "(II)Z"⟩
abbrev cX5_may : ByteArray := prog_7_method_17_code
def yX5_may : MethodName := ⟨RX5, "may", "(II)Z"⟩
abbrev cX5_takeable : ByteArray := prog_7_method_18_code
def yX5_takeable : MethodName := ⟨RX5, "takeable", "(I)I"⟩
abbrev cX5_choice : ByteArray := prog_7_method_19_code
def yX5_choice : MethodName := ⟨RX5, "choice", "(I)I"⟩
abbrev cX5_rests : ByteArray := prog_7_method_20_code
def yX5_rests : MethodName := ⟨RX5, "rests", "()Z"⟩
abbrev cX5_isStuck : ByteArray := prog_7_method_21_code
def yX5_isStuck : MethodName := ⟨RX5, "isStuck", "()Z"⟩
abbrev cX5_comes : ByteArray := prog_7_method_22_code
def yX5_comes : MethodName := ⟨RX5, "comes", "(I)Z"⟩
abbrev cX5_goDay : ByteArray := prog_7_method_23_code
def yX5_goDay : MethodName := ⟨RX5, "goDay", "()I"⟩
abbrev cX5_bind : ByteArray := prog_7_method_24_code
def yX5_bind : MethodName := ⟨RX5, "bind", "(IZ)V"⟩
abbrev cX5_trade : ByteArray := prog_7_method_25_code
def yX5_trade : MethodName := ⟨RX5, "trade", "(II)V"⟩
abbrev cX5_wouldChange : ByteArray := prog_7_method_26_code
def yX5_wouldChange : MethodName := ⟨RX5, "wouldChange", "(II)Z"⟩
abbrev cX5_holding : ByteArray := prog_7_method_27_code
def yX5_holding : MethodName := ⟨RX5, "holding", "()I"⟩
abbrev cX5_hold : ByteArray := prog_7_method_28_code
def yX5_hold : MethodName := ⟨RX5, "hold", "(I)V"⟩
def RX6 : String := "ThickerBook"
def TX6 : u_T := fun k => match k with
  | 0 => ("ThickerBook", "now", "LThickerBook$World;", true)
  | 1 => ("ThickerBook", "then", "LThickerBook$World;", true)
  | 2 => ("ThickerBook", "imageWorld", "LThickerBook$World;", true)
  | 3 => ("ThickerBook", "papers", "LThickerBook$Papers;", true)
  | 4 => ("ThickerBook", "imagePapers", "LThickerBook$Papers;", true)
  | 5 => ("ThickerBook", "goes", "LThickerBook$Goes;", true)
  | 6 => ("ThickerBook", "acts", "LThickerBook$Acts;", true)
  | _ => ("ThickerBook", "imaged", "Z", false)
def tyX6 : Nat → FieldType := fun k => match k with
  | 0 => .object "ThickerBook$World"
  | 1 => .object "ThickerBook$World"
  | 2 => .object "ThickerBook$World"
  | 3 => .object "ThickerBook$Papers"
  | 4 => .object "ThickerBook$Papers"
  | 5 => .object "ThickerBook$Goes"
  | 6 => .object "ThickerBook$Acts"
  | _ => .boolean
theorem nmX6 : ∀ a, a < 8 → ∀ b, b < 8 → a ≠ b → (TX6 a).2.1 ≠ (TX6 b).2.1 := by decide +kernel
theorem tyX6_ok : ∀ k, k < 8 → parseFieldDescriptor (TX6 k).2.2.1 = some (tyX6 k) := by decide +kernel
abbrev cX6_init : ByteArray := prog_1_method_1_code
def yX6_init : MethodName := ⟨RX6, "<init>", "()V"⟩
abbrev cX6_feed : ByteArray := prog_1_method_2_code
def yX6_feed : MethodName := ⟨RX6, "feed", "(I)I"⟩
abbrev cX6_town : ByteArray := prog_1_method_3_code
def yX6_town : MethodName := ⟨RX6, "town", "()I"⟩
abbrev cX6_book : ByteArray := prog_1_method_4_code
def yX6_book : MethodName := ⟨RX6, "book", "(I)I"⟩
abbrev cX6_reader : ByteArray := prog_1_method_5_code
def yX6_reader : MethodName := ⟨RX6, "reader", "(II)I"⟩
abbrev cX6_of : ByteArray := prog_1_method_6_code
def yX6_of : MethodName := ⟨RX6, "of", "(II)I"⟩
abbrev cX6_likes : ByteArray := prog_1_method_7_code
def yX6_likes : MethodName := ⟨RX6, "likes", "(II)I"⟩
abbrev cX6_at : ByteArray := prog_1_method_8_code
def yX6_at : MethodName := ⟨RX6, "at", "(II)I"⟩
abbrev cX6_row : ByteArray := prog_1_method_9_code
def yX6_row : MethodName := ⟨RX6, "row", "(III)I"⟩
abbrev cX6_lend : ByteArray := prog_1_method_10_code
def yX6_lend : MethodName := ⟨RX6, "lend", "(II)I"⟩
abbrev cX6_told : ByteArray := prog_1_method_11_code
def yX6_told : MethodName := ⟨RX6, "told", "(I)I"⟩
abbrev cX6_come : ByteArray := prog_1_method_12_code
def yX6_come : MethodName := ⟨RX6, "come", "(I)I"⟩
abbrev cX6_paste : ByteArray := prog_1_method_13_code
def yX6_paste : MethodName := ⟨RX6, "paste", "(IZ)I"⟩
abbrev cX6_pass : ByteArray := prog_1_method_14_code
def yX6_pass : MethodName := ⟨RX6, "pass", "(I)I"⟩
abbrev cX6_on : ByteArray := prog_1_method_15_code
def yX6_on : MethodName := ⟨RX6, "on", "(II)I"⟩
abbrev cX6_until : ByteArray := prog_1_method_16_code
def yX6_until : MethodName := ⟨RX6, "until", "(I)I"⟩
abbrev cX6_few : ByteArray := prog_1_method_17_code
def yX6_few : MethodName := ⟨RX6, "few", "(II)I"⟩
abbrev cX6_reach : ByteArray := prog_1_method_18_code
def yX6_reach : MethodName := ⟨RX6, "reach", "(I)I"⟩
abbrev cX6_never : ByteArray := prog_1_method_19_code
def yX6_never : MethodName := ⟨RX6, "never", "()I"⟩
abbrev cX6_most : ByteArray := prog_1_method_20_code
def yX6_most : MethodName := ⟨RX6, "most", "(I)I"⟩
abbrev cX6_order : ByteArray := prog_1_method_21_code
def yX6_order : MethodName := ⟨RX6, "order", "(I)I"⟩
abbrev cX6_glues : ByteArray := prog_1_method_22_code
def yX6_glues : MethodName := ⟨RX6, "glues", "(II)I"⟩
abbrev cX6_tears : ByteArray := prog_1_method_23_code
def yX6_tears : MethodName := ⟨RX6, "tears", "(II)I"⟩
abbrev cX6_wanted : ByteArray := prog_1_method_24_code
def yX6_wanted : MethodName := ⟨RX6, "wanted", "(I)I"⟩
abbrev cX6_swells : ByteArray := prog_1_method_25_code
def yX6_swells : MethodName := ⟨RX6, "swells", "(I)I"⟩
abbrev cX6_see : ByteArray := prog_1_method_26_code
def yX6_see : MethodName := ⟨RX6, "see", "(IIZ)I"⟩
abbrev cX6_had : ByteArray := prog_1_method_27_code
def yX6_had : MethodName := ⟨RX6, "had", "(I)I"⟩
abbrev cX6_firm : ByteArray := prog_1_method_28_code
def yX6_firm : MethodName := ⟨RX6, "firm", "(II)I"⟩
abbrev cX6_odds : ByteArray := prog_1_method_29_code
def yX6_odds : MethodName := ⟨RX6, "odds", "(II)J"⟩
abbrev cX6_mean : ByteArray := prog_1_method_30_code
def yX6_mean : MethodName := ⟨RX6, "mean", "(II)J"⟩
abbrev cX6_plan : ByteArray := prog_1_method_31_code
def yX6_plan : MethodName := ⟨RX6, "plan", "(II)I"⟩
abbrev cX6_done : ByteArray := prog_1_method_32_code
def yX6_done : MethodName := ⟨RX6, "done", "(I)I"⟩
abbrev cX6_note : ByteArray := prog_1_method_33_code
def yX6_note : MethodName := ⟨RX6, "note", "(II)I"⟩
abbrev cX6_looked : ByteArray := prog_1_method_34_code
def yX6_looked : MethodName := ⟨RX6, "looked", "()I"⟩
abbrev cX6_act : ByteArray := prog_1_method_35_code
def yX6_act : MethodName := ⟨RX6, "act", "(III)I"⟩
abbrev cX6_trace : ByteArray := prog_1_method_36_code
def yX6_trace : MethodName := ⟨RX6, "trace", "(I)I"⟩
abbrev cX6_as : ByteArray := prog_1_method_37_code
def yX6_as : MethodName := ⟨RX6, "as", "(II)I"⟩
abbrev cX6_image : ByteArray := prog_1_method_38_code
def yX6_image : MethodName := ⟨RX6, "image", "()I"⟩
abbrev cX6_undo : ByteArray := prog_1_method_39_code
def yX6_undo : MethodName := ⟨RX6, "undo", "()I"⟩
abbrev cX6_count : ByteArray := prog_1_method_40_code
def yX6_count : MethodName := ⟨RX6, "count", "(I)I"⟩
abbrev cX6_get : ByteArray := prog_1_method_41_code
def yX6_get : MethodName := ⟨RX6, "get", "([II)I"⟩
abbrev cX6_put : ByteArray := prog_1_method_42_code
def yX6_put : MethodName := ⟨RX6, "put", "([III)V"⟩
abbrev cX6_copyRow : ByteArray := prog_1_method_43_code
def yX6_copyRow : MethodName := ⟨RX6, "copyRow", "([I[I)V"⟩
abbrev cX6_isDays : ByteArray := prog_1_method_44_code
def yX6_isDays : MethodName := ⟨RX6, "isDays", "(I)Z"⟩
abbrev cX6_isUnder : ByteArray := prog_1_method_45_code
def yX6_isUnder : MethodName := ⟨RX6, "isUnder", "(II)Z"⟩
abbrev cX6_heldIn : ByteArray := prog_1_method_46_code
def yX6_heldIn : MethodName := ⟨RX6, "heldIn", "(III)I"⟩
abbrev cX6_fraction : ByteArray := prog_1_method_47_code
def yX6_fraction : MethodName := ⟨RX6, "fraction", "(III)J"⟩
abbrev cX6_fresh : ByteArray := prog_1_method_48_code
def yX6_fresh : MethodName := ⟨RX6, "fresh", "()V"⟩
abbrev cX6_goOn : ByteArray := prog_1_method_49_code
def yX6_goOn : MethodName := ⟨RX6, "goOn", "(I)I"⟩
abbrev cX6_isAllSeen : ByteArray := prog_1_method_50_code
def yX6_isAllSeen : MethodName := ⟨RX6, "isAllSeen", "()Z"⟩
abbrev cX6_isSeenBehind : ByteArray := prog_1_method_51_code
def yX6_isSeenBehind : MethodName := ⟨RX6, "isSeenBehind", "(I)Z"⟩
abbrev cX6_bestOrder : ByteArray := prog_1_method_52_code
def yX6_bestOrder : MethodName := ⟨RX6, "bestOrder", "()I"⟩
abbrev cX6_totalBy : ByteArray := prog_1_method_53_code
def yX6_totalBy : MethodName := ⟨RX6, "totalBy", "(I)I"⟩
abbrev cX6_isOrder : ByteArray := prog_1_method_54_code
def yX6_isOrder : MethodName := ⟨RX6, "isOrder", "(I)Z"⟩
abbrev cX6_comer : ByteArray := prog_1_method_55_code
def yX6_comer : MethodName := ⟨RX6, "comer", "(II)I"⟩
abbrev cX6_follow : ByteArray := prog_1_method_56_code
def yX6_follow : MethodName := ⟨RX6, "follow", "(II)V"⟩
def RX7 : String := "ThickerBookModel"
def TX7 : u_T := fun k => match k with
  | 0 => ("ThickerBookModel", "thrown", "I", false)
  | 1 => ("ThickerBookModel", "s", "[I", true)
  | 2 => ("ThickerBookModel", "image", "[I", true)
  | 3 => ("ThickerBookModel", "frame", "[I", true)
  | 4 => ("ThickerBookModel", "hasImage", "Z", false)
  | 5 => ("ThickerBookModel", "act", "I", false)
  | 6 => ("ThickerBookModel", "spot", "I", false)
  | 7 => ("ThickerBookModel", "end", "I", false)
  | 8 => ("ThickerBookModel", "isWrong", "Z", false)
  | 9 => ("ThickerBookModel", "open", "I", false)
  | 10 => ("ThickerBookModel", "by", "[I", true)
  | 11 => ("ThickerBookModel", "truths", "[Z", true)
  | 12 => ("ThickerBookModel", "plains", "[I", true)
  | 13 => ("ThickerBookModel", "queue", "[I", true)
  | 14 => ("ThickerBookModel", "steps", "[I", true)
  | 15 => ("ThickerBookModel", "queued", "I", false)
  | 16 => ("ThickerBookModel", "mostWay", "I", false)
  | 17 => ("ThickerBookModel", "mostTotal", "I", false)
  | 18 => ("ThickerBookModel", "line", "[I", true)
  | 19 => ("ThickerBookModel", "bestLine", "[I", true)
  | 20 => ("ThickerBookModel", "bodies", "[I", true)
  | 21 => ("ThickerBookModel", "ran", "I", false)
  | 22 => ("ThickerBookModel", "kind", "I", false)
  | 23 => ("ThickerBookModel", "number", "I", false)
  | _ => ("ThickerBookModel", "tellsV", "I", false)
def tyX7 : Nat → FieldType := fun k => match k with
  | 0 => .int
  | 1 => .array .int
  | 2 => .array .int
  | 3 => .array .int
  | 4 => .boolean
  | 5 => .int
  | 6 => .int
  | 7 => .int
  | 8 => .boolean
  | 9 => .int
  | 10 => .array .int
  | 11 => .array .boolean
  | 12 => .array .int
  | 13 => .array .int
  | 14 => .array .int
  | 15 => .int
  | 16 => .int
  | 17 => .int
  | 18 => .array .int
  | 19 => .array .int
  | 20 => .array .int
  | 21 => .int
  | 22 => .int
  | 23 => .int
  | _ => .int
theorem nmX7 : ∀ a, a < 25 → ∀ b, b < 25 → a ≠ b → (TX7 a).2.1 ≠ (TX7 b).2.1 := by decide +kernel
theorem tyX7_ok : ∀ k, k < 25 → parseFieldDescriptor (TX7 k).2.2.1 = some (tyX7 k) := by decide +kernel
abbrev cX7_init : ByteArray := prog_9_method_1_code
def yX7_init : MethodName := ⟨RX7, "<init>", "()V"⟩
abbrev cX7_in : ByteArray := prog_9_method_3_code
def yX7_in : MethodName := ⟨RX7, "in", "(III)Z"⟩
abbrev cX7_within : ByteArray := prog_9_method_4_code
def yX7_within : MethodName := ⟨RX7, "within", "(III)I"⟩
abbrev cX7_isReader : ByteArray := prog_9_method_5_code
def yX7_isReader : MethodName := ⟨RX7, "isReader", "(I)Z"⟩
abbrev cX7_isBook : ByteArray := prog_9_method_6_code
def yX7_isBook : MethodName := ⟨RX7, "isBook", "(I)Z"⟩
abbrev cX7_orNone : ByteArray := prog_9_method_7_code
def yX7_orNone : MethodName := ⟨RX7, "orNone", "(I)I"⟩
abbrev cX7_keeps : ByteArray := prog_9_method_8_code
def yX7_keeps : MethodName := ⟨RX7, "keeps", "()V"⟩
abbrev cX7_goesBack : ByteArray := prog_9_method_9_code
def yX7_goesBack : MethodName := ⟨RX7, "goesBack", "()V"⟩
abbrev cX7_feed : ByteArray := prog_9_method_10_code
def yX7_feed : MethodName := ⟨RX7, "feed", "(I)I"⟩
abbrev cX7_here : ByteArray := prog_9_method_11_code
def yX7_here : MethodName := ⟨RX7, "here", "()I"⟩
abbrev cX7_must : ByteArray := prog_9_method_12_code
def yX7_must : MethodName := ⟨RX7, "must", "(I)V"⟩
abbrev cX7_spells : ByteArray := prog_9_method_13_code
def yX7_spells : MethodName := ⟨RX7, "spells", "(Ljava/lang/String;)V"⟩
abbrev cX7_figures : ByteArray := prog_9_method_14_code
def yX7_figures : MethodName := ⟨RX7, "figures", "()I"⟩
abbrev cX7_among : ByteArray := prog_9_method_15_code
def yX7_among : MethodName := ⟨RX7, "among", "(Ljava/lang/String;)I"⟩
abbrev cX7_emits : ByteArray := prog_9_method_16_code
def yX7_emits : MethodName := ⟨RX7, "emits", "(I)V"⟩
abbrev cX7_factor : ByteArray := prog_9_method_17_code
def yX7_factor : MethodName := ⟨RX7, "factor", "()V"⟩
abbrev cX7_every : ByteArray := prog_9_method_18_code
def yX7_every : MethodName := ⟨RX7, "every", "()V"⟩
abbrev cX7_some : ByteArray := prog_9_method_19_code
def yX7_some : MethodName := ⟨RX7, "some", "()V"⟩
abbrev cX7_much : ByteArray := prog_9_method_20_code
def yX7_much : MethodName := ⟨RX7, "much", "(ILjava/lang/String;)V"⟩
abbrev cX7_tellsHere : ByteArray := prog_9_method_21_code
def yX7_tellsHere : MethodName := ⟨RX7, "tellsHere", "(ILjava/lang/String;)V"⟩
abbrev cX7_clauseHere : ByteArray := prog_9_method_22_code
def yX7_clauseHere : MethodName := ⟨RX7, "clauseHere", "()V"⟩
abbrev cX7_town : ByteArray := prog_9_method_23_code
def yX7_town : MethodName := ⟨RX7, "town", "()I"⟩
abbrev cX7_tellsOf : ByteArray := prog_9_method_24_code
def yX7_tellsOf : MethodName := ⟨RX7, "tellsOf", "(II)I"⟩
abbrev cX7_gapNow : ByteArray := prog_9_method_25_code
def yX7_gapNow : MethodName := ⟨RX7, "gapNow", "()I"⟩
abbrev cX7_pasteNow : ByteArray := prog_9_method_26_code
def yX7_pasteNow : MethodName := ⟨RX7, "pasteNow", "()I"⟩
abbrev cX7_looks : ByteArray := prog_9_method_27_code
def yX7_looks : MethodName := ⟨RX7, "looks", "(II)I"⟩
abbrev cX7_likingBy : ByteArray := prog_9_method_28_code
def yX7_likingBy : MethodName := ⟨RX7, "likingBy", "(III)I"⟩
abbrev cX7_likingOf : ByteArray := prog_9_method_29_code
def yX7_likingOf : MethodName := ⟨RX7, "likingOf", "(II)I"⟩
abbrev cX7_holderOf : ByteArray := prog_9_method_30_code
def yX7_holderOf : MethodName := ⟨RX7, "holderOf", "(I)I"⟩
abbrev cX7_isOn : ByteArray := prog_9_method_31_code
def yX7_isOn : MethodName := ⟨RX7, "isOn", "(I)Z"⟩
abbrev cX7_may : ByteArray := prog_9_method_32_code
def yX7_may : MethodName := ⟨RX7, "may", "(II)Z"⟩
abbrev cX7_mayTake : ByteArray := prog_9_method_33_code
def yX7_mayTake : MethodName := ⟨RX7, "mayTake", "(I)I"⟩
abbrev cX7_isThin : ByteArray := prog_9_method_34_code
def yX7_isThin : MethodName := ⟨RX7, "isThin", "(I)Z"⟩
abbrev cX7_choiceOf : ByteArray := prog_9_method_35_code
def yX7_choiceOf : MethodName := ⟨RX7, "choiceOf", "(I)I"⟩
abbrev cX7_book : ByteArray := prog_9_method_36_code
def yX7_book : MethodName := ⟨RX7, "book", "(I)I"⟩
abbrev cX7_reader : ByteArray := prog_9_method_37_code
def yX7_reader : MethodName := ⟨RX7, "reader", "(II)I"⟩
abbrev cX7_of : ByteArray := prog_9_method_38_code
def yX7_of : MethodName := ⟨RX7, "of", "(II)I"⟩
abbrev cX7_likes : ByteArray := prog_9_method_39_code
def yX7_likes : MethodName := ⟨RX7, "likes", "(II)I"⟩
abbrev cX7_at : ByteArray := prog_9_method_40_code
def yX7_at : MethodName := ⟨RX7, "at", "(II)I"⟩
abbrev cX7_row : ByteArray := prog_9_method_41_code
def yX7_row : MethodName := ⟨RX7, "row", "(III)I"⟩
abbrev cX7_lend : ByteArray := prog_9_method_42_code
def yX7_lend : MethodName := ⟨RX7, "lend", "(II)I"⟩
abbrev cX7_totalNow : ByteArray := prog_9_method_43_code
def yX7_totalNow : MethodName := ⟨RX7, "totalNow", "()I"⟩
abbrev cX7_shelf : ByteArray := prog_9_method_44_code
def yX7_shelf : MethodName := ⟨RX7, "shelf", "()I"⟩
abbrev cX7_told : ByteArray := prog_9_method_45_code
def yX7_told : MethodName := ⟨RX7, "told", "(I)I"⟩
abbrev cX7_comes : ByteArray := prog_9_method_46_code
def yX7_comes : MethodName := ⟨RX7, "comes", "(I)Z"⟩
abbrev cX7_goes : ByteArray := prog_9_method_47_code
def yX7_goes : MethodName := ⟨RX7, "goes", "()I"⟩
abbrev cX7_pastes : ByteArray := prog_9_method_48_code
def yX7_pastes : MethodName := ⟨RX7, "pastes", "(IZ)V"⟩
abbrev cX7_come : ByteArray := prog_9_method_49_code
def yX7_come : MethodName := ⟨RX7, "come", "(I)I"⟩
abbrev cX7_paste : ByteArray := prog_9_method_50_code
def yX7_paste : MethodName := ⟨RX7, "paste", "(IZ)I"⟩
abbrev cX7_pass : ByteArray := prog_9_method_51_code
def yX7_pass : MethodName := ⟨RX7, "pass", "(I)I"⟩
abbrev cX7_on : ByteArray := prog_9_method_52_code
def yX7_on : MethodName := ⟨RX7, "on", "(II)I"⟩
abbrev cX7_isOver : ByteArray := prog_9_method_53_code
def yX7_isOver : MethodName := ⟨RX7, "isOver", "(I)Z"⟩
abbrev cX7_until : ByteArray := prog_9_method_54_code
def yX7_until : MethodName := ⟨RX7, "until", "(I)I"⟩
abbrev cX7_looksForPlains : ByteArray := prog_9_method_55_code
def yX7_looksForPlains : MethodName := ⟨RX7, "looksForPlains", "()V"⟩
abbrev cX7_wayNow : ByteArray := prog_9_method_56_code
def yX7_wayNow : MethodName := ⟨RX7, "wayNow", "()I"⟩
abbrev cX7_hasIn : ByteArray := prog_9_method_57_code
def yX7_hasIn : MethodName := ⟨RX7, "hasIn", "(II)I"⟩
abbrev cX7_goesTo : ByteArray := prog_9_method_58_code
def yX7_goesTo : MethodName := ⟨RX7, "goesTo", "(I)V"⟩
abbrev cX7_comesTo : ByteArray := prog_9_method_59_code
def yX7_comesTo : MethodName := ⟨RX7, "comesTo", "(I)V"⟩
abbrev cX7_plainLiking : ByteArray := prog_9_method_60_code
def yX7_plainLiking : MethodName := ⟨RX7, "plainLiking", "(II)I"⟩
abbrev cX7_wouldChange : ByteArray := prog_9_method_61_code
def yX7_wouldChange : MethodName := ⟨RX7, "wouldChange", "(II)Z"⟩
abbrev cX7_changes : ByteArray := prog_9_method_62_code
def yX7_changes : MethodName := ⟨RX7, "changes", "(II)V"⟩
abbrev cX7_goesOnFrom : ByteArray := prog_9_method_63_code
def yX7_goesOnFrom : MethodName := ⟨RX7, "goesOnFrom", "(I)V"⟩
abbrev cX7_looksForWays : ByteArray := prog_9_method_64_code
def yX7_looksForWays : MethodName := ⟨RX7, "looksForWays", "()V"⟩
abbrev cX7_fewOf : ByteArray := prog_9_method_65_code
def yX7_fewOf : MethodName := ⟨RX7, "fewOf", "(II)I"⟩
abbrev cX7_few : ByteArray := prog_9_method_66_code
def yX7_few : MethodName := ⟨RX7, "few", "(II)I"⟩
abbrev cX7_reachOf : ByteArray := prog_9_method_67_code
def yX7_reachOf : MethodName := ⟨RX7, "reachOf", "(I)I"⟩
abbrev cX7_reach : ByteArray := prog_9_method_68_code
def yX7_reach : MethodName := ⟨RX7, "reach", "(I)I"⟩
abbrev cX7_never : ByteArray := prog_9_method_69_code
def yX7_never : MethodName := ⟨RX7, "never", "()I"⟩
abbrev cX7_plainTotal : ByteArray := prog_9_method_70_code
def yX7_plainTotal : MethodName := ⟨RX7, "plainTotal", "()I"⟩
abbrev cX7_looksForMost : ByteArray := prog_9_method_71_code
def yX7_looksForMost : MethodName := ⟨RX7, "looksForMost", "()V"⟩
abbrev cX7_most : ByteArray := prog_9_method_72_code
def yX7_most : MethodName := ⟨RX7, "most", "(I)I"⟩
abbrev cX7_ordersFrom : ByteArray := prog_9_method_73_code
def yX7_ordersFrom : MethodName := ⟨RX7, "ordersFrom", "(II)V"⟩
abbrev cX7_order : ByteArray := prog_9_method_74_code
def yX7_order : MethodName := ⟨RX7, "order", "(I)I"⟩
abbrev cX7_glues : ByteArray := prog_9_method_75_code
def yX7_glues : MethodName := ⟨RX7, "glues", "(II)I"⟩
abbrev cX7_tears : ByteArray := prog_9_method_76_code
def yX7_tears : MethodName := ⟨RX7, "tears", "(II)I"⟩
abbrev cX7_wanted : ByteArray := prog_9_method_77_code
def yX7_wanted : MethodName := ⟨RX7, "wanted", "(I)I"⟩
abbrev cX7_shelfThick : ByteArray := prog_9_method_78_code
def yX7_shelfThick : MethodName := ⟨RX7, "shelfThick", "()I"⟩
abbrev cX7_goesOn : ByteArray := prog_9_method_79_code
def yX7_goesOn : MethodName := ⟨RX7, "goesOn", "(I)V"⟩
abbrev cX7_swells : ByteArray := prog_9_method_80_code
def yX7_swells : MethodName := ⟨RX7, "swells", "(I)I"⟩
abbrev cX7_see : ByteArray := prog_9_method_81_code
def yX7_see : MethodName := ⟨RX7, "see", "(IIZ)I"⟩
abbrev cX7_isAsSeen : ByteArray := prog_9_method_82_code
def yX7_isAsSeen : MethodName := ⟨RX7, "isAsSeen", "(I)Z"⟩
abbrev cX7_lastSeen : ByteArray := prog_9_method_83_code
def yX7_lastSeen : MethodName := ⟨RX7, "lastSeen", "()I"⟩
abbrev cX7_areAsSeen : ByteArray := prog_9_method_84_code
def yX7_areAsSeen : MethodName := ⟨RX7, "areAsSeen", "()Z"⟩
abbrev cX7_swapsFor : ByteArray := prog_9_method_85_code
def yX7_swapsFor : MethodName := ⟨RX7, "swapsFor", "(II)V"⟩
abbrev cX7_had : ByteArray := prog_9_method_86_code
def yX7_had : MethodName := ⟨RX7, "had", "(I)I"⟩
abbrev cX7_firm : ByteArray := prog_9_method_87_code
def yX7_firm : MethodName := ⟨RX7, "firm", "(II)I"⟩
abbrev cX7_lowest : ByteArray := prog_9_method_88_code
def yX7_lowest : MethodName := ⟨RX7, "lowest", "(JJI)J"⟩
abbrev cX7_odds : ByteArray := prog_9_method_89_code
def yX7_odds : MethodName := ⟨RX7, "odds", "(II)J"⟩
abbrev cX7_mean : ByteArray := prog_9_method_90_code
def yX7_mean : MethodName := ⟨RX7, "mean", "(II)J"⟩
abbrev cX7_plan : ByteArray := prog_9_method_91_code
def yX7_plan : MethodName := ⟨RX7, "plan", "(II)I"⟩
abbrev cX7_does : ByteArray := prog_9_method_92_code
def yX7_does : MethodName := ⟨RX7, "does", "(II)V"⟩
abbrev cX7_done : ByteArray := prog_9_method_93_code
def yX7_done : MethodName := ⟨RX7, "done", "(I)I"⟩
abbrev cX7_note : ByteArray := prog_9_method_94_code
def yX7_note : MethodName := ⟨RX7, "note", "(II)I"⟩
abbrev cX7_looked : ByteArray := prog_9_method_95_code
def yX7_looked : MethodName := ⟨RX7, "looked", "()I"⟩
abbrev cX7_ranBody : ByteArray := prog_9_method_96_code
def yX7_ranBody : MethodName := ⟨RX7, "ranBody", "(I)V"⟩
abbrev cX7_isUnder : ByteArray := prog_9_method_97_code
def yX7_isUnder : MethodName := ⟨RX7, "isUnder", "(II)Z"⟩
abbrev cX7_plainReads : ByteArray := prog_9_method_98_code
def yX7_plainReads : MethodName := ⟨RX7, "plainReads", "(I)I"⟩
abbrev cX7_readsActs : ByteArray := prog_9_method_99_code
def yX7_readsActs : MethodName := ⟨RX7, "readsActs", "(I)I"⟩
abbrev cX7_plainBrings : ByteArray := prog_9_method_100_code
def yX7_plainBrings : MethodName := ⟨RX7, "plainBrings", "(I)I"⟩
abbrev cX7_bringsActs : ByteArray := prog_9_method_101_code
def yX7_bringsActs : MethodName := ⟨RX7, "bringsActs", "(I)I"⟩
abbrev cX7_plainTelling : ByteArray := prog_9_method_102_code
def yX7_plainTelling : MethodName := ⟨RX7, "plainTelling", "(I)I"⟩
abbrev cX7_tellsActs : ByteArray := prog_9_method_103_code
def yX7_tellsActs : MethodName := ⟨RX7, "tellsActs", "(I)I"⟩
abbrev cX7_act : ByteArray := prog_9_method_104_code
def yX7_act : MethodName := ⟨RX7, "act", "(III)I"⟩
abbrev cX7_trace : ByteArray := prog_9_method_105_code
def yX7_trace : MethodName := ⟨RX7, "trace", "(I)I"⟩
abbrev cX7_as : ByteArray := prog_9_method_106_code
def yX7_as : MethodName := ⟨RX7, "as", "(II)I"⟩
abbrev cX7_image : ByteArray := prog_9_method_107_code
def yX7_image : MethodName := ⟨RX7, "image", "()I"⟩
abbrev cX7_undo : ByteArray := prog_9_method_108_code
def yX7_undo : MethodName := ⟨RX7, "undo", "()I"⟩
abbrev cX7_count : ByteArray := prog_9_method_109_code
def yX7_count : MethodName := ⟨RX7, "count", "(I)I"⟩
def RJx145de : String := "java/io/Serializable"
def TJx145de : u_T := fun k => match k with
  | _ => ("", "", "", false)
def tyJx145de : Nat → FieldType := fun k => match k with
  | _ => .int
theorem nmJx145de : ∀ a, a < 0 → ∀ b, b < 0 → a ≠ b → (TJx145de a).2.1 ≠ (TJx145de b).2.1 := by decide +kernel
theorem tyJx145de_ok : ∀ k, k < 0 → parseFieldDescriptor (TJx145de k).2.2.1 = some (tyJx145de k) := by decide +kernel
def RJx9f9b0 : String := "java/lang/CharSequence"
def TJx9f9b0 : u_T := fun k => match k with
  | _ => ("", "", "", false)
def tyJx9f9b0 : Nat → FieldType := fun k => match k with
  | _ => .int
theorem nmJx9f9b0 : ∀ a, a < 0 → ∀ b, b < 0 → a ≠ b → (TJx9f9b0 a).2.1 ≠ (TJx9f9b0 b).2.1 := by decide +kernel
theorem tyJx9f9b0_ok : ∀ k, k < 0 → parseFieldDescriptor (TJx9f9b0 k).2.2.1 = some (tyJx9f9b0 k) := by decide +kernel
def RJxb160c : String := "java/lang/Comparable"
def TJxb160c : u_T := fun k => match k with
  | _ => ("", "", "", false)
def tyJxb160c : Nat → FieldType := fun k => match k with
  | _ => .int
theorem nmJxb160c : ∀ a, a < 0 → ∀ b, b < 0 → a ≠ b → (TJxb160c a).2.1 ≠ (TJxb160c b).2.1 := by decide +kernel
theorem tyJxb160c_ok : ∀ k, k < 0 → parseFieldDescriptor (TJxb160c k).2.2.1 = some (tyJxb160c k) := by decide +kernel
def RJ6 : String := "java/lang/Integer"
def TJ6 : u_T := fun k => match k with
  | _ => ("", "", "", false)
def tyJ6 : Nat → FieldType := fun k => match k with
  | _ => .int
theorem nmJ6 : ∀ a, a < 0 → ∀ b, b < 0 → a ≠ b → (TJ6 a).2.1 ≠ (TJ6 b).2.1 := by decide +kernel
theorem tyJ6_ok : ∀ k, k < 0 → parseFieldDescriptor (TJ6 k).2.2.1 = some (tyJ6 k) := by decide +kernel
abbrev cJ6_bitCount_0f7a4 : ByteArray := prog_10_method_49_code
def yJ6_bitCount_0f7a4 : MethodName := ⟨RJ6, "bitCount", "(I)I"⟩
def RJ9 : String := "java/lang/Math"
def TJ9 : u_T := fun k => match k with
  | _ => ("", "", "", false)
def tyJ9 : Nat → FieldType := fun k => match k with
  | _ => .int
theorem nmJ9 : ∀ a, a < 0 → ∀ b, b < 0 → a ≠ b → (TJ9 a).2.1 ≠ (TJ9 b).2.1 := by decide +kernel
theorem tyJ9_ok : ∀ k, k < 0 → parseFieldDescriptor (TJ9 k).2.2.1 = some (tyJ9 k) := by decide +kernel
abbrev cJ9_max_7cf53 : ByteArray := prog_11_method_65_code
def yJ9_max_7cf53 : MethodName := ⟨RJ9, "max", "(II)I"⟩
abbrev cJ9_min_7cf53 : ByteArray := prog_11_method_69_code
def yJ9_min_7cf53 : MethodName := ⟨RJ9, "min", "(II)I"⟩
def RJ0 : String := "java/lang/String"
def TJ0 : u_T := fun k => match k with
  | _ => ("", "", "", false)
def tyJ0 : Nat → FieldType := fun k => match k with
  | _ => .int
theorem nmJ0 : ∀ a, a < 0 → ∀ b, b < 0 → a ≠ b → (TJ0 a).2.1 ≠ (TJ0 b).2.1 := by decide +kernel
theorem tyJ0_ok : ∀ k, k < 0 → parseFieldDescriptor (TJ0 k).2.2.1 = some (tyJ0 k) := by decide +kernel
abbrev cJ0_length_8abf5 : ByteArray := prog_12_method_54_code
def yJ0_length_8abf5 : MethodName := ⟨RJ0, "length", "()I"⟩
abbrev cJ0_charAt_5068e : ByteArray := prog_12_method_56_code
def yJ0_charAt_5068e : MethodName := ⟨RJ0, "charAt", "(I)C"⟩
abbrev cJ0_coder_7d493 : ByteArray := prog_12_method_152_code
def yJ0_coder_7d493 : MethodName := ⟨RJ0, "coder", "()B"⟩
abbrev cJ0_isLatin1_aae02 : ByteArray := prog_12_method_154_code
def yJ0_isLatin1_aae02 : MethodName := ⟨RJ0, "isLatin1", "()Z"⟩
abbrev cJ0_checkIndex_df160 : ByteArray := prog_12_method_155_code
def yJ0_checkIndex_df160 : MethodName := ⟨RJ0, "checkIndex", "(II)V"⟩
def RJ1 : String := "java/lang/StringLatin1"
def TJ1 : u_T := fun k => match k with
  | _ => ("", "", "", false)
def tyJ1 : Nat → FieldType := fun k => match k with
  | _ => .int
theorem nmJ1 : ∀ a, a < 0 → ∀ b, b < 0 → a ≠ b → (TJ1 a).2.1 ≠ (TJ1 b).2.1 := by decide +kernel
theorem tyJ1_ok : ∀ k, k < 0 → parseFieldDescriptor (TJ1 k).2.2.1 = some (tyJ1 k) := by decide +kernel
abbrev cJ1_charAt_3b067 : ByteArray := prog_13_method_2_code
def yJ1_charAt_3b067 : MethodName := ⟨RJ1, "charAt", "([BI)C"⟩
def RJ2 : String := "java/lang/StringUTF16"
def TJ2 : u_T := fun k => match k with
  | _ => ("", "", "", false)
def tyJ2 : Nat → FieldType := fun k => match k with
  | _ => .int
theorem nmJ2 : ∀ a, a < 0 → ∀ b, b < 0 → a ≠ b → (TJ2 a).2.1 ≠ (TJ2 b).2.1 := by decide +kernel
theorem tyJ2_ok : ∀ k, k < 0 → parseFieldDescriptor (TJ2 k).2.2.1 = some (tyJ2 k) := by decide +kernel
abbrev cJ2_getChar_3b067 : ByteArray := prog_14_method_5_code
def yJ2_getChar_3b067 : MethodName := ⟨RJ2, "getChar", "([BI)C"⟩
abbrev cJ2_length_9d52b : ByteArray := prog_14_method_6_code
def yJ2_length_9d52b : MethodName := ⟨RJ2, "length", "([B)I"⟩
abbrev cJ2_charAt_3b067 : ByteArray := prog_14_method_83_code
def yJ2_charAt_3b067 : MethodName := ⟨RJ2, "charAt", "([BI)C"⟩
abbrev cJ2_checkIndex_2214a : ByteArray := prog_14_method_91_code
def yJ2_checkIndex_2214a : MethodName := ⟨RJ2, "checkIndex", "(I[B)V"⟩
def RJxfd54e : String := "java/lang/constant/Constable"
def TJxfd54e : u_T := fun k => match k with
  | _ => ("", "", "", false)
def tyJxfd54e : Nat → FieldType := fun k => match k with
  | _ => .int
theorem nmJxfd54e : ∀ a, a < 0 → ∀ b, b < 0 → a ≠ b → (TJxfd54e a).2.1 ≠ (TJxfd54e b).2.1 := by decide +kernel
theorem tyJxfd54e_ok : ∀ k, k < 0 → parseFieldDescriptor (TJxfd54e k).2.2.1 = some (tyJxfd54e k) := by decide +kernel
def RJx3cf43 : String := "java/lang/constant/ConstantDesc"
def TJx3cf43 : u_T := fun k => match k with
  | _ => ("", "", "", false)
def tyJx3cf43 : Nat → FieldType := fun k => match k with
  | _ => .int
theorem nmJx3cf43 : ∀ a, a < 0 → ∀ b, b < 0 → a ≠ b → (TJx3cf43 a).2.1 ≠ (TJx3cf43 b).2.1 := by decide +kernel
theorem tyJx3cf43_ok : ∀ k, k < 0 → parseFieldDescriptor (TJx3cf43 k).2.2.1 = some (tyJx3cf43 k) := by decide +kernel
def RJ7 : String := "java/util/Arrays"
def TJ7 : u_T := fun k => match k with
  | _ => ("", "", "", false)
def tyJ7 : Nat → FieldType := fun k => match k with
  | _ => .int
theorem nmJ7 : ∀ a, a < 0 → ∀ b, b < 0 → a ≠ b → (TJ7 a).2.1 ≠ (TJ7 b).2.1 := by decide +kernel
theorem tyJ7_ok : ∀ k, k < 0 → parseFieldDescriptor (TJ7 k).2.2.1 = some (tyJ7 k) := by decide +kernel
abbrev cJ7_fill_53178 : ByteArray := prog_15_method_103_code
def yJ7_fill_53178 : MethodName := ⟨RJ7, "fill", "([II)V"⟩
def RJ3 : String := "jdk/internal/util/Preconditions"
def TJ3 : u_T := fun k => match k with
  | _ => ("", "", "", false)
def tyJ3 : Nat → FieldType := fun k => match k with
  | _ => .int
theorem nmJ3 : ∀ a, a < 0 → ∀ b, b < 0 → a ≠ b → (TJ3 a).2.1 ≠ (TJ3 b).2.1 := by decide +kernel
theorem tyJ3_ok : ∀ k, k < 0 → parseFieldDescriptor (TJ3 k).2.2.1 = some (tyJ3 k) := by decide +kernel
abbrev cJ3_checkIndex_8e157 : ByteArray := prog_16_method_11_code
def yJ3_checkIndex_8e157 : MethodName := ⟨RJ3, "checkIndex", "(IILjava/util/function/BiFunction;)I"⟩
def RL : String := "ThickerBookLaw"
abbrev cL_law : ByteArray := code
def yL_law : MethodName := ⟨RL, "law", "([I)Z"⟩
abbrev vwCl : List vw_C := [(RX0, TX0, 5), (RX1, TX1, 4), (RX2, TX2, 12), (RX3, TX3, 5), (RX4, TX4, 7), (RX5, TX5, 13), (RX6, TX6, 8), (RX7, TX7, 25)]
